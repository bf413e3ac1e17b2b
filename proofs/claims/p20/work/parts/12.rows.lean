-- further rows: booleans, new rows, final fields, new objects, copies
theorem nb {a b : Nat} (h : Nat.ble a b = true) : a ≤ b := Nat.le_of_ble_eq_true h
theorem nI_inc (j : Nat) : nI j + Int32.ofInt 1 = nI (j + 1) := nI_1 j
theorem nar_bI (b : Bool) : narrow .boolean (.int (bI b)) = .int (bI b) := by cases b <;> rfl
theorem updB_s {f : Nat → Bool} {k : Nat} {x : Bool} : updB f k x k = x := if_pos rfl
theorem arrV_ext (c : ClassId) (n : Nat) {f g : Nat → Value} (h : ∀ j, j < n → f j = g j) : arrV c n f = arrV c n g := by
  have : (Array.ofFn (n := n) fun j => f j.val) = Array.ofFn (n := n) fun j => g j.val := by
    congr 1
    funext j
    exact h j.val j.isLt
  unfold arrV
  rw [this]
theorem yyP_swap {D : va_G} {cl : List vw_C} {ws : va_W} {H : Heap} {q : Nat} {x y : Nat × va_E} (h : va_P D cl (ws.set q x) H) (hxy : ∀ H, va_at D cl x H → va_at D cl y H) : va_P D cl (ws.set q y) H := by
  intro k z hz
  rw [List.getElem?_set] at hz
  by_cases e : q = k
  · rw [if_pos e] at hz
    by_cases e2 : q < ws.length
    · rw [if_pos e2] at hz
      cases hz
      refine hxy H (h k x ?_)
      rw [List.getElem?_set, if_pos e, if_pos e2]
    · rw [if_neg e2] at hz
      cases hz
  · rw [if_neg e] at hz
    refine h k z ?_
    rw [List.getElem?_set, if_neg e]
    exact hz
theorem yyD_swap {A : Nat → Prop} {ws : va_W} {q : Nat} {x y : Nat × va_E} (h : va_D A (ws.set q x)) (hxy : x.1 = y.1) : va_D A (ws.set q y) := by
  have key : ∀ (k : Nat) (z : Nat × va_E), (ws.set q y)[k]? = some z → ∃ z', (ws.set q x)[k]? = some z' ∧ z'.1 = z.1 := by
    intro k z hz
    rw [List.getElem?_set] at hz
    by_cases e : q = k
    · rw [if_pos e] at hz
      by_cases e2 : q < ws.length
      · rw [if_pos e2] at hz
        cases hz
        exact ⟨x, by rw [List.getElem?_set, if_pos e, if_pos e2], hxy⟩
      · rw [if_neg e2] at hz
        cases hz
    · rw [if_neg e] at hz
      exact ⟨z, by rw [List.getElem?_set, if_neg e]; exact hz, rfl⟩
  refine ⟨fun i j p r hi hj hpr => ?_, fun k z hz => ?_⟩
  · obtain ⟨p', h1, e1⟩ := key i p hi
    obtain ⟨r', h2, e2⟩ := key j r hj
    exact h.1 i j p' r' h1 h2 (by rw [e1, e2, hpr])
  · obtain ⟨z', h1, e1⟩ := key k z hz
    rw [← e1]
    exact h.2 k z' h1
section YG
variable {d : yyD} {G : yyG} {cc : ByteArray} {own : String} {R : Room} {nL : Nat} {ret : Option FieldType} {k n : Nat} {Q : State → Prop} {ws : va_W} {lv : List (Nat × Value)} {pc : Nat} {st : List Value}
theorem y_lve (lv' : List (Nat × Value)) (h : lv = lv') (kk : yyW d G k n Q ws lv' pc st) : yyW d G k n Q ws lv pc st := h ▸ kk
theorem bI_0 {b : Bool} (h : bI b = 0) : b = false := by cases b <;> first | rfl | exact absurd h (by decide)
theorem bI_1 {b : Bool} (h : ¬ bI b = 0) : b = true := by cases b <;> first | rfl | exact absurd rfl h
theorem y_beq (hC : yyC d G cc own R nL ret) {b : Bool} {off : Int} (hdg : decode cc pc = .ok (.ifCond .eq off, 3)) (tgt : Nat) (ht : (pc : Int) + off = (tgt : Int)) (kt : b = false → yyW d G k n Q ws lv tgt st) (kf : b = true → yyW d G k n Q ws lv (pc + 3) st) : yyW d G k n Q ws lv pc (.int (bI b) :: st) :=
  y_if_eq hC hdg tgt ht (fun c => kt (bI_0 c)) (fun c => kf (bI_1 c))
theorem y_bne (hC : yyC d G cc own R nL ret) {b : Bool} {off : Int} (hdg : decode cc pc = .ok (.ifCond .ne off, 3)) (tgt : Nat) (ht : (pc : Int) + off = (tgt : Int)) (kt : b = true → yyW d G k n Q ws lv tgt st) (kf : b = false → yyW d G k n Q ws lv (pc + 3) st) : yyW d G k n Q ws lv pc (.int (bI b) :: st) :=
  y_if_ne hC hdg tgt ht (fun c => kt (bI_1 c)) (fun c => kf (bI_0 c))
theorem y_if_ge_t (hC : yyC d G cc own R nL ret) {x : Int32} {off : Int} (hdg : decode cc pc = .ok (.ifCond .ge off, 3)) (tgt : Nat) (ht : (pc : Int) + off = (tgt : Int)) (h : 0 ≤ x) (kt : yyW d G k n Q ws lv tgt st) : yyW d G k n Q ws lv pc (.int x :: st) :=
  y_if_ge hC hdg tgt ht (fun _ => kt) (fun c => absurd h c)
theorem ra_eq {s : State} {c c' : ClassId} {t : FieldType} (ht : refKind t = false) (h : va_RA s c t) (h' : va_RA s c' t) : c = c' := by
  cases t with
  | object C => exact absurd ht (by simp [refKind])
  | _ =>
    have h1 : s.vm.findClass _ = some c := h
    have h2 : s.vm.findClass _ = some c' := h'
    exact Option.some.inj (h1.symm.trans h2)
theorem y_newaI (hC : yyC d G cc own R nL ret) {x : Int32} (hdg : decode cc pc = .ok (.newarray .int, 2)) (m : Nat) (ws' : Nat → va_W) (hx : x = nI m) (hm : Nat.blt m 1000 = true) (kw : Cond.arrayClass .int ∈ WW) (hR : k + 1 ≤ R.cells ∧ n + m ≤ R.slots) (hws : ∀ q, ws ++ [(q, aI d m (fun _ => 0))] = ws' q) (kk : ∀ q, yyW d G (k + 1) (n + m) Q (ws' q) lv (pc + 2) (.ref q :: st)) : yyW d G k n Q ws lv pc (.int x :: st) := by
  intro H locs ls hP hD hS hl
  subst hx
  have hm2 : m < 1000 := Nat.blt_eq.mp hm
  have hR2 := hR
  rw [← hC.rm] at hR2
  refine va_newa (atype := .int) (ty := .int) (N' := m) (a0 := (m, .inl (fun _ => 0))) hC.1 hC.2.1 (hC.w kw) rfl hC.K hP hD hS hC.A (fun _ => rfl) (nI_pos (by omega)) (nI_clamp (by omega)) (by show m * 4 ≤ 536870912; omega) hR2.1 hR2.2 hdg (fun q cA H1 a1 a2 a3 a4 => ?_)
  have e : cA = d.2.1 := ra_eq rfl (a1.2 3 (cA, .int) rfl).2 (hC.K.2 0 (d.2.1, .int) rfl).2
  subst e
  exact kk q H1 locs ls ((hws q) ▸ a2) ((hws q) ▸ a3) a4 hl
theorem y_newaZ (hC : yyC d G cc own R nL ret) {x : Int32} (hdg : decode cc pc = .ok (.newarray .boolean, 2)) (m : Nat) (ws' : Nat → va_W) (hx : x = nI m) (hm : Nat.blt m 1000 = true) (kw : Cond.arrayClass .boolean ∈ WW) (hR : k + 1 ≤ R.cells ∧ n + m ≤ R.slots) (hws : ∀ q, ws ++ [(q, aZ d m (fun _ => false))] = ws' q) (kk : ∀ q, yyW d G (k + 1) (n + m) Q (ws' q) lv (pc + 2) (.ref q :: st)) : yyW d G k n Q ws lv pc (.int x :: st) := by
  intro H locs ls hP hD hS hl
  subst hx
  have hm2 : m < 1000 := Nat.blt_eq.mp hm
  have hR2 := hR
  rw [← hC.rm] at hR2
  refine va_newa (atype := .boolean) (ty := .boolean) (N' := m) (a0 := (m, .inl (fun _ => bI false))) hC.1 hC.2.1 (hC.w kw) rfl hC.K hP hD hS hC.A (fun _ => rfl) (nI_pos (by omega)) (nI_clamp (by omega)) (by show m * 1 ≤ 536870912; omega) hR2.1 hR2.2 hdg (fun q cA H1 a1 a2 a3 a4 => ?_)
  have e : cA = d.2.2.1 := ra_eq rfl (a1.2 3 (cA, .boolean) rfl).2 (hC.K.2 1 (d.2.2.1, .boolean) rfl).2
  subst e
  exact kk q H1 locs ls ((hws q) ▸ a2) ((hws q) ▸ a3) a4 hl
theorem y_putF (hC : yyC d G cc own R nL ret) (hin : (gT G).name = "<init>") (q : Nat) (f : Nat) (ty : FieldType) {C ref : String} {T : u_T} {N ci i : Nat} {a : Nat} {fs : List Value} {v : Value} (hdg : decode cc pc = .ok (.putfield i, 3)) (ty0 : Nat → FieldType) (ws' : va_W) (hw : ws[q]? = some (a, .inr (ci, fs))) (hws : ws.set q (a, .inr (ci, fs.set f v)) = ws') (hc : vwCl[ci]? = some (C, T, N)) (hin2 : ∀ w ∈ u_ws C T N, w ∈ WW) (hty : ∀ k, k < N → parseFieldDescriptor (T k).2.2.1 = some (ty0 k)) (hnm : ∀ a, a < N → ∀ b, b < N → a ≠ b → (T a).2.1 ≠ (T b).2.1) (hf : f < N) (hk : Cond.fieldLink own i ref (T f).2.1 (T f).2.2.1 ∈ WW) (hr : (T f).1 = ref) (hfin : (T f).2.2.2 = true) (hde : (T f).1 = own) (hd : parseFieldDescriptor (T f).2.2.1 = some ty) (hn : narrow ty v = v) (hfit : fits ty v = true) (hl : f < fs.length) (kk : yyW d G k n Q ws' lv (pc + 3) st) : yyW d G k n Q ws lv pc (v :: .ref a :: st) :=
  fun H locs ls hP hD hS h => va_putF (T := T) (C := C) (N := N) (ref := ref) hC.1 hC.2.1 (fun w hw => hC.w hw) hin2 ty0 hty hnm hC.2.2.2.1 hC.K hP hD hS q hw hc f hf (hC.w hk) (fun _ h9 => hr ▸ h9) hfin hin hde hd hn hfit hl hdg (fun H1 locs1 a1 a2 a3 => kk H1 locs1 ls (hws ▸ a1) (hws ▸ a2) a3 h)
theorem y_new (hC : yyC d G cc own R nL ret) {C : String} {T : u_T} {N ci i : Nat} (hdg : decode cc pc = .ok (.new i, 3)) (fs : List Value) (ty : Nat → FieldType) (ws' : Nat → va_W) (hc : vwCl[ci]? = some (C, T, N)) (hin : ∀ w ∈ u_ws C T N, w ∈ WW) (hty : ∀ k, k < N → parseFieldDescriptor (T k).2.2.1 = some (ty k)) (k1 : Cond.classLink own i C ∈ WW) (k2 : Cond.instantiable C N ∈ WW) (k3 : Cond.initialized C ∈ WW) (hfs : ∀ j, j < N → defaultValue (ty j) = vp_V fs j) (hR : k + 1 ≤ R.cells ∧ n + N ≤ R.slots) (hws : ∀ q, ws ++ [(q, .inr (ci, fs))] = ws' q) (kk : ∀ q, yyW d G (k + 1) (n + N) Q (ws' q) lv (pc + 3) (.ref q :: st)) : yyW d G k n Q ws lv pc st := by
  intro H locs ls hP hD hS hl
  have hR2 := hR
  rw [← hC.rm] at hR2
  refine va_new (ci := ci) (fs := fs) (C := C) (T := T) (N := N) hC.1 hC.2.1 (fun w hw => hC.w hw) hin ty hty hC.2.2.2.1 (hC.w k1) (hC.w k2) (hC.w k3) hC.K hP hD hS hC.A hc hfs hR2.1 hR2.2 hdg (fun q H1 a2 a3 a4 => ?_)
  exact kk q H1 locs ls ((hws q) ▸ a2) ((hws q) ▸ a3) a4 hl
theorem cpy_le {α : Type} (f g : Nat → α) (m k : Nat) (h : k < m) : va_cpy f g 0 0 m k = f k := by
  rw [pk_cpy_in (Nat.zero_le _) (by omega)]
  congr 1
  omega
/-- a row written over another of the same length -/
theorem y_copyI (hC : yyC d G cc own R nL ret) {i : Nat} (hdg : decode cc pc = .ok (.invokestatic i, 3)) (q0 q1 : Nat) {a0 a1 m : Nat} {f g : Nat → Int32} {x y z : Int32} (ws' : va_W) (ha0 : ws[q0]? = some (a0, aI d m f)) (ha1 : ws[q1]? = some (a1, aI d m g)) (hx : x = nI 0) (hy : y = nI 0) (hz : z = nI m) (hm : Nat.blt m 1000 = true) (hws : ws.set q1 (a1, aI d m f) = ws')
    (k1 : Cond.methodLink own i arraycopyName ∈ WW) (k2 : Cond.native arraycopyName ∈ WW) (k3 : Cond.static arraycopyName ∈ WW) (k4 : Cond.initialized "java/lang/System" ∈ WW) (hR : 1 ≤ R.frames ∧ (st.map fun v => v.category).sum + 18 ≤ R.locals) (kk : yyW d G k n Q ws' lv (pc + 3) st) : yyW d G k n Q ws lv pc (.int z :: .int y :: .ref a1 :: .int x :: .ref a0 :: st) := by
  intro H locs ls hP hD hS hl
  subst hx; subst hy; subst hz
  have hm2 : m < 1000 := Nat.blt_eq.mp hm
  have hR2 := hR
  rw [← hC.rm] at hR2
  have e0 : (nI 0).toNatClampNeg = 0 := nI_clamp (by omega)
  have em : (nI m).toNatClampNeg = m := nI_clamp (by omega)
  refine va_copyi hC.1 hC.2.1 (by rw [hC.2.2.1, hl.1, hC.n]) hC.2.2.2.1 (hC.w k1) (hC.w k2) (hC.w k3) (hC.w k4) hC.K hP hD hS q0 q1 0 0 ha0 ha1 rfl rfl rfl (nI_pos (by omega)) (nI_pos (by omega)) (nI_pos (by omega)) (by rw [e0, em]; omega) (by rw [e0, em]; omega) (fun _ _ => rfl) hR2.1 (by show _ + 18 ≤ _; exact hR2.2) hdg (fun H1 locs1 b1 b2 b3 => ?_)
  rw [e0, em] at b1 b2
  have hat : ∀ H2, va_at d.1 vwCl (a1, (.inl (d.2.1, m, .inl (va_cpy f g 0 0 m)) : va_E)) H2 → va_at d.1 vwCl (a1, aI d m f) H2 := by
    intro H2 h
    have e : vp_cell d.2.1 (m, .inl (va_cpy f g 0 0 m)) = vp_cell d.2.1 (m, .inl f) := arrV_ext d.2.1 m (f := fun j => .int (va_cpy f g 0 0 m j)) (g := fun j => .int (f j)) (fun j hj => by show Value.int (va_cpy f g 0 0 m j) = _; rw [cpy_le f g m j hj])
    show H2[a1]? = some (vp_cell d.2.1 (m, .inl f))
    rw [← e]
    exact h
  exact kk H1 locs1 ls (hws ▸ yyP_swap b1 hat) (hws ▸ yyD_swap b2 rfl) b3 hl
theorem y_copyZ (hC : yyC d G cc own R nL ret) {i : Nat} (hdg : decode cc pc = .ok (.invokestatic i, 3)) (q0 q1 : Nat) {a0 a1 m : Nat} {f g : Nat → Bool} {x y z : Int32} (ws' : va_W) (ha0 : ws[q0]? = some (a0, aZ d m f)) (ha1 : ws[q1]? = some (a1, aZ d m g)) (hx : x = nI 0) (hy : y = nI 0) (hz : z = nI m) (hm : Nat.blt m 1000 = true) (hws : ws.set q1 (a1, aZ d m f) = ws')
    (k1 : Cond.methodLink own i arraycopyName ∈ WW) (k2 : Cond.native arraycopyName ∈ WW) (k3 : Cond.static arraycopyName ∈ WW) (k4 : Cond.initialized "java/lang/System" ∈ WW) (hR : 1 ≤ R.frames ∧ (st.map fun v => v.category).sum + 18 ≤ R.locals) (kk : yyW d G k n Q ws' lv (pc + 3) st) : yyW d G k n Q ws lv pc (.int z :: .int y :: .ref a1 :: .int x :: .ref a0 :: st) := by
  intro H locs ls hP hD hS hl
  subst hx; subst hy; subst hz
  have hm2 : m < 1000 := Nat.blt_eq.mp hm
  have hR2 := hR
  rw [← hC.rm] at hR2
  have e0 : (nI 0).toNatClampNeg = 0 := nI_clamp (by omega)
  have em : (nI m).toNatClampNeg = m := nI_clamp (by omega)
  refine va_copyi hC.1 hC.2.1 (by rw [hC.2.2.1, hl.1, hC.n]) hC.2.2.2.1 (hC.w k1) (hC.w k2) (hC.w k3) (hC.w k4) hC.K hP hD hS q0 q1 1 1 ha0 ha1 rfl rfl rfl (nI_pos (by omega)) (nI_pos (by omega)) (nI_pos (by omega)) (by rw [e0, em]; omega) (by rw [e0, em]; omega) (fun j _ => by cases f ((nI 0).toNatClampNeg + j) <;> rfl) hR2.1 (by show _ + 18 ≤ _; exact hR2.2) hdg (fun H1 locs1 b1 b2 b3 => ?_)
  rw [e0, em] at b1 b2
  have hat : ∀ H2, va_at d.1 vwCl (a1, (.inl (d.2.2.1, m, .inl (va_cpy (fun k => bI (f k)) (fun k => bI (g k)) 0 0 m)) : va_E)) H2 → va_at d.1 vwCl (a1, aZ d m f) H2 := by
    intro H2 h
    have e : vp_cell d.2.2.1 (m, .inl (va_cpy (fun k => bI (f k)) (fun k => bI (g k)) 0 0 m)) = vp_cell d.2.2.1 (m, .inl (fun k => bI (f k))) := arrV_ext d.2.2.1 m (f := fun j => .int (va_cpy (fun k => bI (f k)) (fun k => bI (g k)) 0 0 m j)) (g := fun j => .int (bI (f j))) (fun j hj => by show Value.int (va_cpy (fun k => bI (f k)) (fun k => bI (g k)) 0 0 m j) = _; rw [cpy_le _ _ m j hj])
    show H2[a1]? = some (vp_cell d.2.2.1 (m, .inl (fun k => bI (f k))))
    rw [← e]
    exact h
  exact kk H1 locs1 ls (hws ▸ yyP_swap b1 hat) (hws ▸ yyD_swap b2 rfl) b3 hl
end YG
