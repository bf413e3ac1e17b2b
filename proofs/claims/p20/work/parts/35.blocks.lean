-- WORLDS IN BLOCKS: a world is the cells of a list of blocks; a block is a cell, a run of rows alike, or a picture
abbrev fl (BB : List va_W) : va_W := BB.flatten
theorem wP_iff {D : va_G} {cl : List vw_C} {ws : va_W} {H : Heap} : va_P D cl ws H ↔ ∀ x ∈ ws, va_at D cl x H := by
  constructor
  · intro h x hx
    obtain ⟨i, hi⟩ := List.getElem?_of_mem hx
    exact h i x hi
  · intro h k q hk
    exact h q (List.mem_of_getElem? hk)
theorem wD_iff {A : Nat → Prop} {ws : va_W} : va_D A ws ↔ (ws.map Prod.fst).Nodup ∧ ∀ x ∈ ws, A x.1 := by
  constructor
  · intro h
    refine ⟨?_, fun x hx => ?_⟩
    · refine List.pairwise_iff_getElem.mpr (fun i j hi hj hij e => ?_)
      rw [List.length_map] at hi hj
      rw [List.getElem_map, List.getElem_map] at e
      have := h.1 i j ws[i] ws[j] (List.getElem?_eq_getElem hi) (List.getElem?_eq_getElem hj) e
      omega
    · obtain ⟨i, hi⟩ := List.getElem?_of_mem hx
      exact h.2 i x hi
  · intro h
    refine ⟨fun i j p q hi hj e => ?_, fun k q hk => h.2 q (List.mem_of_getElem? hk)⟩
    have hn := List.pairwise_iff_getElem.mp h.1
    obtain ⟨li, ei⟩ := List.getElem?_eq_some_iff.mp hi
    obtain ⟨lj, ej⟩ := List.getElem?_eq_some_iff.mp hj
    by_cases hij : i = j
    · exact hij
    · exfalso
      rcases Nat.lt_or_gt_of_ne hij with h1 | h1
      · exact hn i j (by rw [List.length_map]; exact li) (by rw [List.length_map]; exact lj) h1 (by rw [List.getElem_map, List.getElem_map, ei, ej, e])
      · exact hn j i (by rw [List.length_map]; exact lj) (by rw [List.length_map]; exact li) h1 (by rw [List.getElem_map, List.getElem_map, ei, ej, e])
theorem wP_perm {D : va_G} {cl : List vw_C} {ws ws' : va_W} {H : Heap} (p : List.Perm ws ws') (h : va_P D cl ws H) : va_P D cl ws' H :=
  wP_iff.mpr (fun x hx => wP_iff.mp h x (p.mem_iff.mpr hx))
theorem wD_perm {A : Nat → Prop} {ws ws' : va_W} (p : List.Perm ws ws') (h : va_D A ws) : va_D A ws' := by
  obtain ⟨h1, h2⟩ := wD_iff.mp h
  exact wD_iff.mpr ⟨(p.map Prod.fst).nodup h1, fun x hx => h2 x (p.mem_iff.mpr hx)⟩
theorem wP_left {D : va_G} {cl : List vw_C} {a b : va_W} {H : Heap} (h : va_P D cl (a ++ b) H) : va_P D cl a H :=
  wP_iff.mpr (fun x hx => wP_iff.mp h x (List.mem_append_left _ hx))
theorem wD_left {A : Nat → Prop} {a b : va_W} (h : va_D A (a ++ b)) : va_D A a := by
  obtain ⟨h1, h2⟩ := wD_iff.mp h
  refine wD_iff.mpr ⟨?_, fun x hx => h2 x (List.mem_append_left _ hx)⟩
  rw [List.map_append] at h1
  exact List.Nodup.sublist (List.sublist_append_left _ _) h1
theorem bl_perm {BB BB' : List va_W} {ps : List Nat} {n : Nat} (hn : BB.length = n) (hp : ps.isPerm (List.range n) = true) (h : ps.map (fun i => BB[i]?) = BB'.map some) : List.Perm BB BB' := by
  have e : (List.range n).map (fun i => BB[i]?) = BB.map some := by
    subst hn
    refine List.ext_getElem? (fun i => ?_)
    rw [List.getElem?_map, List.getElem?_map]
    by_cases hi : i < BB.length
    · rw [List.getElem?_range hi, List.getElem?_eq_getElem hi]
      simp [hi]
    · rw [List.getElem?_eq_none (by rw [List.length_range]; omega), List.getElem?_eq_none (by omega)]
      rfl
  have p1 : List.Perm (BB'.map some) (BB.map some) := by
    rw [← h, ← e]
    exact (List.isPerm_iff.mp hp).map _
  have p2 := p1.filterMap id
  simp only [List.filterMap_map, Function.id_comp] at p2
  rw [List.filterMap_some, List.filterMap_some] at p2
  exact p2.symm
theorem fl_app (a b : List va_W) : fl (a ++ b) = fl a ++ fl b := List.flatten_append
theorem va_nd_of : ∀ {l : List Nat}, l.Nodup → va_nd l = true
  | [], _ => rfl
  | a :: l, h => by
    obtain ⟨h1, h2⟩ := List.nodup_cons.mp h
    simp only [va_nd, Bool.and_eq_true, decide_eq_true_eq]
    exact ⟨h1, va_nd_of h2⟩
theorem nd_shift (k n : Nat) : ((List.range n).map (fun i => k + i)).Nodup := by
  refine List.Pairwise.map _ (fun a b h => ?_) List.nodup_range
  show k + a ≠ k + b
  have h' : a ≠ b := h
  omega
theorem mp_left (a b : va_W) : (List.range a.length).map (fun i => (a ++ b)[i]?) = a.map some := by
  refine List.ext_getElem? (fun i => ?_)
  rw [List.getElem?_map, List.getElem?_map]
  by_cases hi : i < a.length
  · rw [List.getElem?_range hi, List.getElem?_eq_getElem hi]
    simp [List.getElem?_append_left hi, hi]
  · rw [List.getElem?_eq_none (by rw [List.length_range]; omega), List.getElem?_eq_none (by omega)]
    rfl
theorem mp_right (a b : va_W) : ((List.range b.length).map (fun i => a.length + i)).map (fun i => (a ++ b)[i]?) = b.map some := by
  rw [List.map_map]
  refine List.ext_getElem? (fun i => ?_)
  rw [List.getElem?_map, List.getElem?_map]
  by_cases hi : i < b.length
  · rw [List.getElem?_range hi, List.getElem?_eq_getElem hi]
    simp [List.getElem?_append_right (Nat.le_add_right a.length i), hi]
  · rw [List.getElem?_eq_none (by rw [List.length_range]; omega), List.getElem?_eq_none (by omega)]
    rfl
theorem cut_app (wc wr : va_W) : yyCut (wc ++ wr) wc wr (List.range wc.length) ((List.range wr.length).map (fun i => wc.length + i)) := by
  refine ⟨mp_left wc wr, va_nd_of List.nodup_range, mp_right wc wr, va_nd_of (nd_shift _ _), ?_⟩
  intro i hi hj
  obtain ⟨k, -, rfl⟩ := List.mem_map.mp hi
  have := List.mem_range.mp hj
  omega
theorem put_app (wr w1 : va_W) : yyPut wr w1 (w1 ++ wr) ((List.range w1.length).map (fun i => wr.length + i) ++ List.range wr.length) := by
  refine ⟨?_, va_nd_of ?_⟩
  · rw [List.map_append, mp_right, mp_left, List.map_append]
  · refine List.nodup_append.mpr ⟨nd_shift _ _, List.nodup_range, ?_⟩
    intro a ha b hb e
    obtain ⟨k, -, rfl⟩ := List.mem_map.mp ha
    have := List.mem_range.mp hb
    omega
-- runs of rows alike: at a k a row of m ints, F k its contents
def sg (d : yyD) (m : Nat) (a : Nat → Nat) (F : Nat → Nat → Int32) (n : Nat) : va_W := (List.range n).map (fun k => (a k, aI d m (F k)))
/-- place j of row k becomes x -/
def up2 (F : Nat → Nat → Int32) (k j : Nat) (x : Int32) : Nat → Nat → Int32 := fun r => if r = k then upd (F k) j x else F r
def upN (a : Nat → Nat) (n q : Nat) : Nat → Nat := fun k => if k = n then q else a k
def upR (F : Nat → Nat → Int32) (n : Nat) (g : Nat → Int32) : Nat → Nat → Int32 := fun k => if k = n then g else F k
theorem sg_len (d : yyD) (m : Nat) (a : Nat → Nat) (F : Nat → Nat → Int32) (n : Nat) : (sg d m a F n).length = n := by
  unfold sg
  rw [List.length_map, List.length_range]
theorem sg_at {d : yyD} {m : Nat} {a : Nat → Nat} {F : Nat → Nat → Int32} {n k : Nat} (h : k < n) : (sg d m a F n)[k]? = some (a k, aI d m (F k)) := by
  unfold sg
  rw [List.getElem?_map, List.getElem?_range h]
  rfl
theorem sg_none {d : yyD} {m : Nat} {a : Nat → Nat} {F : Nat → Nat → Int32} {n k : Nat} (h : ¬ k < n) : (sg d m a F n)[k]? = none :=
  List.getElem?_eq_none (by rw [sg_len]; omega)
theorem sg_set {d : yyD} {m : Nat} {a : Nat → Nat} {F : Nat → Nat → Int32} {n k : Nat} (g : Nat → Int32) (h : k < n) : (sg d m a F n).set k (a k, aI d m g) = sg d m a (upR F k g) n := by
  refine List.ext_getElem? (fun i => ?_)
  rw [List.getElem?_set, sg_len]
  by_cases hi : i < n
  · rw [sg_at hi, sg_at hi]
    unfold upR
    by_cases e : k = i
    · subst e
      rw [if_pos rfl, if_pos h, if_pos rfl]
    · rw [if_neg e, if_neg (fun q => e q.symm)]
  · rw [sg_none hi, sg_none hi, if_neg (show ¬ k = i by omega)]
theorem sg_succ (d : yyD) (m : Nat) (a : Nat → Nat) (F : Nat → Nat → Int32) (n : Nat) : sg d m a F (n + 1) = sg d m a F n ++ [(a n, aI d m (F n))] := by
  unfold sg
  rw [List.range_succ, List.map_append]
  rfl
theorem sg_congr {d : yyD} {m : Nat} {a a' : Nat → Nat} {F F' : Nat → Nat → Int32} {n : Nat} (ha : ∀ k, k < n → a k = a' k) (hF : ∀ k, k < n → F k = F' k) : sg d m a F n = sg d m a' F' n := by
  unfold sg
  refine List.map_congr_left (fun k hk => ?_)
  have := List.mem_range.mp hk
  rw [ha k this, hF k this]
theorem sg_push (d : yyD) (m : Nat) (a : Nat → Nat) (F : Nat → Nat → Int32) (n q : Nat) (g : Nat → Int32) : sg d m a F n ++ [(q, aI d m g)] = sg d m (upN a n q) (upR F n g) (n + 1) := by
  rw [sg_succ]
  congr 1
  · exact sg_congr (fun k hk => by unfold upN; rw [if_neg (by omega)]) (fun k hk => by unfold upR; rw [if_neg (by omega)])
  · unfold upN upR
    rw [if_pos rfl, if_pos rfl]
theorem fl_get : ∀ {BB : List va_W} {i : Nat} {B : va_W} {j : Nat} {x : Nat × va_E}, BB[i]? = some B → B[j]? = some x → ∃ q, (fl BB)[q]? = some x ∧ ∀ y, (fl BB).set q y = fl (BB.set i (B.set j y))
  | [], _, _, _, _, h, _ => by cases h
  | B0 :: BB, 0, B, j, x, h, hj => by
    cases h
    have hl : j < B0.length := (List.getElem?_eq_some_iff.mp hj).1
    refine ⟨j, ?_, fun y => ?_⟩
    · show (B0 ++ fl BB)[j]? = some x
      rw [List.getElem?_append_left hl]
      exact hj
    · show (B0 ++ fl BB).set j y = B0.set j y ++ fl BB
      rw [List.set_append, if_pos hl]
  | B0 :: BB, i + 1, B, j, x, h, hj => by
    have h' : BB[i]? = some B := h
    obtain ⟨q, h1, h2⟩ := fl_get h' hj
    refine ⟨B0.length + q, ?_, fun y => ?_⟩
    · show (B0 ++ fl BB)[B0.length + q]? = some x
      rw [List.getElem?_append_right (by omega), show B0.length + q - B0.length = q by omega]
      exact h1
    · show (B0 ++ fl BB).set (B0.length + q) y = B0 ++ fl (BB.set i (B.set j y))
      rw [List.set_append, if_neg (by omega), show B0.length + q - B0.length = q by omega, h2]
section YK
variable {d : yyD} {G : yyG} {cc : ByteArray} {own : String} {R : Room} {nL : Nat} {ret : Option FieldType} {k n : Nat} {Q : State → Prop} {ws : va_W} {lv : List (Nat × Value)} {pc : Nat} {st st0 : List Value} {BB : List va_W}
theorem y_perm (ws' : va_W) (p : List.Perm ws ws') (kk : yyW d G k n Q ws' lv pc st) : yyW d G k n Q ws lv pc st :=
  fun H locs ls hP hD hS hl => kk H locs ls (wP_perm p hP) (wD_perm p hD) hS hl
theorem yb_left (w1 w2 : va_W) (h : ws = w1 ++ w2) (kk : yyW d G k n Q w1 lv pc st) : yyW d G k n Q ws lv pc st := by
  subst h
  exact fun H locs ls hP hD hS hl => kk H locs ls (wP_left hP) (wD_left hD) hS hl
/-- blocks in another order -/
theorem yb_pm (ps : List Nat) (m : Nat) (BB' : List va_W) (hn : BB.length = m) (hp : ps.isPerm (List.range m) = true) (h : ps.map (fun i => BB[i]?) = BB'.map some) (kk : yyW d G k n Q (fl BB') lv pc st) : yyW d G k n Q (fl BB) lv pc st :=
  y_perm _ (List.Perm.flatten (bl_perm hn hp h)) kk
/-- the callee's blocks ahead -/
theorem yb_cut (ps : List Nat) (m : Nat) (bc br : List va_W) (wc : va_W) (hn : BB.length = m) (hp : ps.isPerm (List.range m) = true) (h : ps.map (fun i => BB[i]?) = (bc ++ br).map some) (hw : fl bc = wc) (kk : yyW d G k n Q (wc ++ fl br) lv pc st) : yyW d G k n Q (fl BB) lv pc st := by
  refine yb_pm ps m (bc ++ br) hn hp h ?_
  rw [fl_app, hw]
  exact kk
/-- and behind the call -/
theorem yb_put {w1 : va_W} {br : List va_W} (b1 BB' : List va_W) (hw : fl b1 = w1) (hB : b1 ++ br = BB') (kk : yyW d G k n Q (fl BB') lv pc st) : yyW d G k n Q (w1 ++ fl br) lv pc st := by
  rw [← hw, ← fl_app, hB]
  exact kk
/-- blocks left out -/
theorem yb_drop (ps : List Nat) (m : Nat) (bc br : List va_W) (hn : BB.length = m) (hp : ps.isPerm (List.range m) = true) (h : ps.map (fun i => BB[i]?) = (bc ++ br).map some) (kk : yyW d G k n Q (fl bc) lv pc st) : yyW d G k n Q (fl BB) lv pc st := by
  refine yb_pm ps m (bc ++ br) hn hp h ?_
  exact yb_left (fl bc) (fl br) (fl_app bc br) kk
/-- a new cell goes ahead -/
theorem yb_new {c : Nat × va_E} {w : va_W} (BB' : List va_W) (h : w = fl BB ++ [c]) (hB : [c] :: BB = BB') (kk : yyW d G k n Q (fl BB') lv pc st) : yyW d G k n Q w lv pc st := by
  subst h; subst hB
  exact y_perm _ List.perm_append_comm kk
theorem yb_iald (hC : yyC d G cc own R nL ret) (i : Nat) {m r j N : Nat} {a : Nat → Nat} {F : Nat → Nat → Int32} (hdg : decode cc pc = .ok (.iaload, 1)) (v : Int32) (hB : BB[i]? = some (sg d m a F N)) (hr : r < N) (hj : j < m) (hm : Nat.blt m 1000000 = true) (hv : F r j = v) (kk : yyW d G k n Q (fl BB) lv (pc + 1) (.int v :: st)) : yyW d G k n Q (fl BB) lv pc (.int (nI j) :: .ref (a r) :: st) := by
  obtain ⟨q, h1, -⟩ := fl_get hB (sg_at (d := d) (m := m) (a := a) (F := F) hr)
  exact y_iald hC q hdg v h1 hj hm hv kk
theorem yb_iast (hC : yyC d G cc own R nL ret) (i : Nat) {m r j N : Nat} {a : Nat → Nat} {F : Nat → Nat → Int32} {x : Int32} (hdg : decode cc pc = .ok (.iastore, 1)) (F' : Nat → Nat → Int32) (BB' : List va_W) (hB : BB[i]? = some (sg d m a F N)) (hr : r < N) (hj : j < m) (hm : Nat.blt m 1000000 = true) (hF : up2 F r j x = F') (hB' : BB.set i (sg d m a F' N) = BB') (kk : yyW d G k n Q (fl BB') lv (pc + 1) st) : yyW d G k n Q (fl BB) lv pc (.int x :: .int (nI j) :: .ref (a r) :: st) := by
  obtain ⟨q, h1, h2⟩ := fl_get hB (sg_at (d := d) (m := m) (a := a) (F := F) hr)
  refine y_iast hC q hdg (upd (F r) j x) (fl BB') h1 hj hm rfl ?_ kk
  rw [h2, sg_set _ hr, ← hB', ← hF]
  rfl
theorem fl_swap {i : Nat} {B B' : va_W} (hB : BB[i]? = some B) (hlen : B'.length = B.length) (had : ∀ (j : Nat) (x y : Nat × va_E), B[j]? = some x → B'[j]? = some y → y.1 = x.1 ∧ ∀ H : Heap, va_at d.1 vwCl x H → va_at d.1 vwCl y H) {H : Heap} {A : Nat → Prop} (hP : va_P d.1 vwCl (fl BB) H) (hD : va_D A (fl BB)) : va_P d.1 vwCl (fl (BB.set i B')) H ∧ va_D A (fl (BB.set i B')) := by
  have key : ∀ (BB : List va_W) (i : Nat), BB[i]? = some B → (fl (BB.set i B')).length = (fl BB).length ∧ ∀ (q : Nat) (y : Nat × va_E), (fl (BB.set i B'))[q]? = some y → ∃ x, (fl BB)[q]? = some x ∧ y.1 = x.1 ∧ ∀ H, va_at d.1 vwCl x H → va_at d.1 vwCl y H := by
    intro BB
    induction BB with
    | nil => intro i h; cases h
    | cons B0 BB ih =>
      intro i h
      cases i with
      | zero =>
        cases h
        refine ⟨?_, fun q y hy => ?_⟩
        · show (B' ++ fl BB).length = (B ++ fl BB).length
          rw [List.length_append, List.length_append, hlen]
        · have hy' : (B' ++ fl BB)[q]? = some y := hy
          by_cases hq : q < B'.length
          · rw [List.getElem?_append_left hq] at hy'
            have hq0 : q < B.length := by omega
            obtain ⟨e1, e2⟩ := had q B[q] y (List.getElem?_eq_getElem hq0) hy'
            exact ⟨B[q], by show (B ++ fl BB)[q]? = _; rw [List.getElem?_append_left hq0, List.getElem?_eq_getElem hq0], e1, e2⟩
          · rw [List.getElem?_append_right (by omega)] at hy'
            exact ⟨y, by show (B ++ fl BB)[q]? = _; rw [List.getElem?_append_right (by omega), ← hlen]; exact hy', rfl, fun H h => h⟩
      | succ i =>
        obtain ⟨l1, l2⟩ := ih i h
        refine ⟨?_, fun q y hy => ?_⟩
        · show (B0 ++ fl (BB.set i B')).length = (B0 ++ fl BB).length
          rw [List.length_append, List.length_append, l1]
        · have hy' : (B0 ++ fl (BB.set i B'))[q]? = some y := hy
          by_cases hq : q < B0.length
          · rw [List.getElem?_append_left hq] at hy'
            exact ⟨y, by show (B0 ++ fl BB)[q]? = _; rw [List.getElem?_append_left hq]; exact hy', rfl, fun H h => h⟩
          · rw [List.getElem?_append_right (by omega)] at hy'
            obtain ⟨x, x1, x2⟩ := l2 _ y hy'
            exact ⟨x, by show (B0 ++ fl BB)[q]? = _; rw [List.getElem?_append_right (by omega)]; exact x1, x2⟩
  obtain ⟨-, h2⟩ := key BB i hB
  refine ⟨fun q y hy => ?_, ⟨fun p q x y hx hy e => ?_, fun q y hy => ?_⟩⟩
  · obtain ⟨x, h3, -, h4⟩ := h2 q y hy
    exact h4 H (hP q x h3)
  · obtain ⟨x', g1, g2, -⟩ := h2 p x hx
    obtain ⟨y', g3, g4, -⟩ := h2 q y hy
    exact hD.1 p q x' y' g1 g3 (by rw [← g2, ← g4, e])
  · obtain ⟨x, g1, g2, -⟩ := h2 q y hy
    rw [g2]
    exact hD.2 q x g1
theorem aI_alike {a m : Nat} {f g : Nat → Int32} (h : ∀ j, j < m → f j = g j) {H : Heap} (hA : va_at d.1 vwCl (a, aI d m f) H) : va_at d.1 vwCl (a, aI d m g) H := by
  have e : vp_cell d.2.1 (m, .inl f) = vp_cell d.2.1 (m, .inl g) := arrV_ext d.2.1 m (f := fun j => .int (f j)) (g := fun j => .int (g j)) (fun j hj => by show Value.int (f j) = _; rw [h j hj])
  show H[a]? = some (vp_cell d.2.1 (m, .inl g))
  rw [← e]
  exact hA
theorem aR_alike {a m : Nat} {f g : Nat → Option Nat} (h : ∀ j, j < m → f j = g j) {H : Heap} (hA : va_at d.1 vwCl (a, aR d m f) H) : va_at d.1 vwCl (a, aR d m g) H := by
  have e : vp_cell d.2.2.2 (m, .inr (.inr (.inr (.inr f)))) = vp_cell d.2.2.2 (m, .inr (.inr (.inr (.inr g)))) := arrV_ext d.2.2.2 m (f := fun j => va_rf (f j)) (g := fun j => va_rf (g j)) (fun j hj => by show va_rf (f j) = _; rw [h j hj])
  show H[a]? = some (vp_cell d.2.2.2 (m, .inr (.inr (.inr (.inr g)))))
  rw [← e]
  exact hA
/-- runs that are alike where it counts are one run -/
theorem yb_sgx (i : Nat) {m N : Nat} {a : Nat → Nat} {F : Nat → Nat → Int32} (a' : Nat → Nat) (F' : Nat → Nat → Int32) (BB' : List va_W) (hB : BB[i]? = some (sg d m a F N)) (ha : ∀ r, r < N → a r = a' r) (h : ∀ r, r < N → ∀ j, j < m → F r j = F' r j) (hB' : BB.set i (sg d m a' F' N) = BB') (kk : yyW d G k n Q (fl BB') lv pc st) : yyW d G k n Q (fl BB) lv pc st := by
  subst hB'
  intro H locs ls hP hD hS hl
  obtain ⟨h1, h2⟩ := fl_swap (d := d) (B' := sg d m a' F' N) hB (by rw [sg_len, sg_len]) (fun j x y hx hy => by
    by_cases hj : j < N
    · rw [sg_at hj] at hx hy
      cases hx; cases hy
      refine ⟨(ha j hj).symm, fun H h9 => ?_⟩
      have := aI_alike (h j hj) h9
      rw [ha j hj] at this
      exact this
    · rw [sg_none hj] at hx
      cases hx) hP hD
  exact kk H locs ls h1 h2 hS hl
theorem yb_aIx (i : Nat) {m : Nat} {a : Nat} {f : Nat → Int32} (f' : Nat → Int32) (BB' : List va_W) (hB : BB[i]? = some [(a, aI d m f)]) (h : ∀ j, j < m → f j = f' j) (hB' : BB.set i [(a, aI d m f')] = BB') (kk : yyW d G k n Q (fl BB') lv pc st) : yyW d G k n Q (fl BB) lv pc st := by
  subst hB'
  intro H locs ls hP hD hS hl
  obtain ⟨h1, h2⟩ := fl_swap (d := d) (B' := [(a, aI d m f')]) hB rfl (fun j x y hx hy => by
    match j, hx, hy with
    | 0, hx, hy => cases hx; cases hy; exact ⟨rfl, fun H h9 => aI_alike h h9⟩
    | j + 1, hx, _ => cases hx) hP hD
  exact kk H locs ls h1 h2 hS hl
theorem yb_aRx (i : Nat) {m : Nat} {a : Nat} {f : Nat → Option Nat} (f' : Nat → Option Nat) (BB' : List va_W) (hB : BB[i]? = some [(a, aR d m f)]) (h : ∀ j, j < m → f j = f' j) (hB' : BB.set i [(a, aR d m f')] = BB') (kk : yyW d G k n Q (fl BB') lv pc st) : yyW d G k n Q (fl BB) lv pc st := by
  subst hB'
  intro H locs ls hP hD hS hl
  obtain ⟨h1, h2⟩ := fl_swap (d := d) (B' := [(a, aR d m f')]) hB rfl (fun j x y hx hy => by
    match j, hx, hy with
    | 0, hx, hy => cases hx; cases hy; exact ⟨rfl, fun H h9 => aR_alike h h9⟩
    | j + 1, hx, _ => cases hx) hP hD
  exact kk H locs ls h1 h2 hS hl
-- rows of references
theorem y_alenR (hC : yyC d G cc own R nL ret) (q : Nat) {a m : Nat} {f : Nat → Option Nat} (hdg : decode cc pc = .ok (.arraylength, 1)) (hw : ws[q]? = some (a, aR d m f)) (kk : yyW d G k n Q ws lv (pc + 1) (.int (nI m) :: st)) : yyW d G k n Q ws lv pc (.ref a :: st) :=
  fun H locs ls hP hD hS h => va_alen hC.1 hC.2.1 hC.K hP q 2 hw (ty := .array .int) rfl rfl hdg (kk H locs ls hP hD hS h)
theorem y_aald (hC : yyC d G cc own R nL ret) (q : Nat) {a m j : Nat} {f : Nat → Option Nat} (hdg : decode cc pc = .ok (.aaload, 1)) (v : Nat) (hw : ws[q]? = some (a, aR d m f)) (hj : j < m) (hm : m < 1000000) (hv : f j = some v) (kk : yyW d G k n Q ws lv (pc + 1) (.ref v :: st)) : yyW d G k n Q ws lv pc (.int (nI j) :: .ref a :: st) := by
  intro H locs ls hP hD hS h
  have hj31 : j < 2 ^ 31 := by omega
  have hin : vp_in (nI j) m := vp_in_nI hj (by omega)
  refine W.aald (v := .ref v) (ty := .array .int) hC.1 hC.2.1 (hP q _ hw) ((hC.K.2 2 (d.2.2.2, .array .int) rfl).1 m (fun j => va_rf (f j))) rfl (fun e => by cases e) (by show ¬ (_ ∨ (arrV _ _ _).slots.size ≤ _); rw [arrV_size]; exact hin) ?_ rfl rfl hdg (kk H locs ls hP hD hS h)
  show (arrV _ _ _).slots[_]? = _
  rw [nI_clamp hj31, arrV_read _ _ hj, hv]
  rfl
theorem y_aast (hC : yyC d G cc own R nL ret) (q : Nat) {a m j v mv : Nat} {f : Nat → Option Nat} {g : Nat → Int32} (hdg : decode cc pc = .ok (.aastore, 1)) (f' : Nat → Option Nat) (ws' : va_W) (hw : ws[q]? = some (a, aR d m f)) (hv : (v, aI d mv g) ∈ ws) (hj : j < m) (hm : m < 1000000) (hf : va_up f j (some v) = f') (hws : ws.set q (a, aR d m f') = ws') (kk : yyW d G k n Q ws' lv (pc + 1) st) : yyW d G k n Q ws lv pc (.ref v :: .int (nI j) :: .ref a :: st) := by
  subst hf; subst hws
  intro H locs ls hP hD hS h
  have hj31 : j < 2 ^ 31 := by omega
  obtain ⟨qv, hqv⟩ := List.getElem?_of_mem hv
  obtain ⟨comp, c, k2, f1, -, f3, f4, f5⟩ := arrayOverA_spec (t := .int) (hC.kw.2.2 : (Cond.arrayOver (.array .int)).before #[] (gS G) = true)
  have e2 : (gS G).vm.findClass ("[" ++ (FieldType.array .int).toString) = some d.2.2.2 := (hC.K.2 2 (d.2.2.2, .array .int) rfl).2
  have e1 : (gS G).vm.findClass (FieldType.array .int).toString = some d.2.1 := (hC.K.2 0 (d.2.1, .int) rfl).2
  have hc : c = d.2.2.2 := Option.some.inj (f5.symm.trans e2)
  have hcomp : comp = d.2.1 := Option.some.inj (f1.symm.trans e1)
  subst hc; subst hcomp
  obtain ⟨-, kv, hkv, -⟩ := (hC.K.2 0 (d.2.1, .int) rfl).1 mv (fun j => .int (g j))
  refine W.aast hC.1 hC.2.1 (hP q _ hw) (fun q h => by cases h) (fun h => by cases h) f3 f4 rfl hkv ⟨by rw [show (nI j < 0) = (nI j < 0) from rfl]; exact nI_pos hj31, by show _ < (arrV _ _ _).slots.size; rw [arrV_size, nI_clamp hj31]; exact hj⟩ (hP qv _ hqv) (fun q h => by cases h) hkv (by show (gS G).vm.assignableAux (255 + 1) d.2.1 d.2.1 = true; rw [Vm.assignableAux, Bool.or_eq_true]; exact Or.inl (beq_self_eq_true _)) rfl rfl hdg fun H1 e z oq => ?_
  refine kk H1 _ ls (hP.set hD hw ?_ oq) (hD.set hw) (hS.put z oq (hD.2 q _ hw)) h
  show H1[a]? = some (vp_cell _ _)
  rw [e, nI_clamp hj31]
  show some ((vp_cell d.2.2.2 (m, .inr (.inr (.inr (.inr f))))).setSlot j (.ref v)) = _
  rw [vp_cell_q, vp_cell_q, arrV_store]
  congr 2
  funext r
  by_cases hq : r = j
  · subst hq
    simp [updV, va_up, va_rf]
  · simp [updV, va_up, hq]
theorem y_newR (hC : yyC d G cc own R nL ret) {x : Int32} {i : Nat} (hdg : decode cc pc = .ok (.anewarray i, 3)) (m : Nat) (ws' : Nat → va_W) (hx : x = nI m) (hm : m < 1000) (kw : Cond.classLink own i "[I" ∈ WW) (hR : k + 1 ≤ R.cells ∧ n + m ≤ R.slots) (hws : ∀ q, ws ++ [(q, aR d m (fun _ => none))] = ws' q) (kk : ∀ q, yyW d G (k + 1) (n + m) Q (ws' q) lv (pc + 3) (.ref q :: st)) : yyW d G k n Q ws lv pc (.int x :: st) := by
  intro H locs ls hP hD hS hl
  subst hx
  have hR2 := hR
  rw [← hC.rm] at hR2
  have hcl : (nI m).toNatClampNeg = m := nI_clamp (by omega)
  refine W.anewA (t := .int) hC.1 hC.2.1 hC.2.2.2.1 (hC.w kw) (hC.kw.2.2 : (Cond.arrayOver (.array .int)).before _ (gS G) = true) rfl hdg rfl (nI_pos (by omega)) (by rw [hcl]; omega) hR2.1 (by rw [hcl]; exact hR2.2) fun cA kA comp f1 f2 f3 f4 => ?_
  have e2 : (gS G).vm.findClass ("[" ++ (FieldType.array .int).toString) = some d.2.2.2 := (hC.K.2 2 (d.2.2.2, .array .int) rfl).2
  have hc : cA = d.2.2.2 := Option.some.inj (f1.symm.trans e2)
  subst hc
  rw [hcl]
  generalize hH1 : H.push ({ cls := d.2.2.2, slots := Array.replicate m .null, vm := .none } : Cell) = H1
  have z1 : H1.size = H.size + 1 := by rw [← hH1, Array.size_push]
  have e1 : H1[H.size]? = some (arrV d.2.2.2 m (fun _ => .null)) := by rw [← hH1, Array.getElem?_push_size, ← arrV_new]
  have o1 : ∀ q : Nat, q < H.size → H1[q]? = H[q]? := fun q hq => by rw [← hH1, Array.getElem?_push, if_neg (Nat.ne_of_lt hq)]
  have hk : ∀ (k : Nat) (x : Nat × va_E), ws[k]? = some x → H1[x.1]? = H[x.1]? := fun k x hx => o1 x.1 ((hP k x hx).lt)
  have hP1 : va_P d.1 vwCl (ws ++ [(H.size, aR d m (fun _ => none))]) H1 := (hP.kept hk).app (fun k x hx => by
    have hz : k < 1 := (List.getElem?_eq_some_iff.mp hx).1
    rw [show k = 0 by omega] at hx
    cases hx
    show H1[H.size]? = some (vp_cell _ _)
    rw [vp_cell_q]
    exact e1)
  have hD1 : va_D (gA G) (ws ++ [(H.size, aR d m (fun _ => none))]) := hD.push hP rfl (hC.A _ hS.1)
  have hS1 : va_S (gA G) (gS G).heap H1 locs := ⟨Nat.le_trans hS.1 (by omega), fun x h1 h2 => (o1 x (Nat.lt_of_lt_of_le h1 hS.1)).trans (hS.2.1 x h1 h2), hS.2.2⟩
  exact kk H.size H1 locs ls ((hws H.size) ▸ hP1) ((hws H.size) ▸ hD1) hS1 hl
end YK
