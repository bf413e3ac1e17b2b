-- PURE: the hail and the end of the day, by rows
theorem sumF_s (f : fI) (n : Nat) : sumF f (n + 1) = sumF f n + f n := rfl
theorem sumF_c {f g : fI} {n : Nat} (h : ∀ k, k < n → f k = g k) : sumF f n = sumF g n := by
  induction n with
  | zero => rfl
  | succ n ih => rw [sumF_s, sumF_s, ih (fun k hk => h k (by omega)), h n (by omega)]
theorem sumF_add (f g : fI) (n : Nat) : sumF (fun k => f k + g k) n = sumF f n + sumF g n := by
  induction n with
  | zero =>
    show (0 : Int32) = (0 : Int32) + 0
    decide
  | succ n ih =>
    rw [sumF_s, sumF_s, sumF_s, ih]
    grind
theorem sumF_z (n : Nat) : sumF (fun _ => 0) n = 0 := by
  induction n with
  | zero => rfl
  | succ n ih => rw [sumF_s, ih]; decide
theorem sumF_upd {x : fI} {n j : Nat} (hj : j < n) (a : Int32) : sumF (upd x j a) n = sumF x n + (a - x j) := by
  induction n with
  | zero => omega
  | succ n ih =>
    rw [sumF_s, sumF_s, upd_at]
    by_cases e : n = j
    · rw [if_pos e, sumF_c (g := x) (fun k hk => by rw [upd_at, if_neg (by omega)]), e]
      generalize sumF x j = s
      grind
    · rw [if_neg e, ih (by omega)]
      generalize sumF x n = s
      grind
def YX (pl vi : fI) (me ins : fB) (lt su la : fI) (Y : fR) (x : fI) : Prop := YR Y pl (fun k => vi k - x k) me ins (fun k => lt k + x k) su (fun k => la k + x k)
theorem upd_mi (f x : fI) (j : Nat) (o : Int32) : upd (fun k => f k - x k) j (f j - x j - o) = fun k => f k - upd x j (x j + o) k := by
  funext k
  rw [upd_at, upd_at]
  by_cases e : k = j
  · rw [if_pos e, if_pos e, e]; grind
  · rw [if_neg e, if_neg e]
theorem upd_ad (f x : fI) (j : Nat) (o : Int32) : upd (fun k => f k + x k) j (f j + x j + o) = fun k => f k + upd x j (x j + o) k := by
  funext k
  rw [upd_at, upd_at]
  by_cases e : k = j
  · rw [if_pos e, if_pos e, e]; grind
  · rw [if_neg e, if_neg e]
theorem upd_upd (f : fI) (j : Nat) (a b : Int32) : upd (upd f j a) j b = upd f j b := by
  funext k
  rw [upd_at, upd_at, upd_at]
  split <;> rfl
/-- what yards below m have lost when a hail more fell at hp -/
def xmF (pl vi : fI) (hp : Int32) (x : fI) (m : Nat) : fI := fun k => if k < m ∧ pl k = hp then x k + ownR (vi k - x k) else x k
theorem xm_0 (pl vi : fI) (hp : Int32) (x : fI) : xmF pl vi hp x 0 = x := by
  funext k
  unfold xmF
  rw [if_neg (by omega)]
theorem xm_s (pl vi : fI) (hp : Int32) (x : fI) (m : Nat) : xmF pl vi hp x (m + 1) = if pl m = hp then upd (xmF pl vi hp x m) m (xmF pl vi hp x m m + ownR (vi m - xmF pl vi hp x m m)) else xmF pl vi hp x m := by
  funext k
  have hm : xmF pl vi hp x m m = x m := by unfold xmF; rw [if_neg (by omega)]
  rw [hm]
  by_cases c : pl m = hp
  · rw [if_pos c, upd_at]
    unfold xmF
    by_cases e : k = m
    · rw [e, if_pos ⟨by omega, c⟩, if_pos rfl]
    · rw [if_neg e]
      have ec : (k < m + 1) ↔ (k < m) := ⟨fun q => by omega, fun q => by omega⟩
      simp only [ec]
  · rw [if_neg c]
    unfold xmF
    by_cases e : k = m
    · rw [e, if_neg (fun q => c q.2), if_neg (fun q => c q.2)]
    · have ec : (k < m + 1) ↔ (k < m) := ⟨fun q => by omega, fun q => by omega⟩
      simp only [ec]
theorem hi_at {pl vi : fI} {me ins : fB} {lt su la : fI} {hp : Int32} {Y : fR} {x : fI} {lo : Int32} {n : Nat} (hY : YX pl vi me ins lt su la Y x) :
    ∀ m, m ≤ n → YX pl vi me ins lt su la (yi m (hiS hp) (Y, lo)).1 (xmF pl vi hp x m) ∧ (yi m (hiS hp) (Y, lo)).2 = lo + (sumF (xmF pl vi hp x m) n - sumF x n) := by
  intro m
  induction m with
  | zero =>
    intro _
    rw [xm_0]
    refine ⟨hY, ?_⟩
    show lo = lo + (sumF x n - sumF x n)
    grind
  | succ m ih =>
    intro hm
    obtain ⟨i1, i2⟩ := ih (by omega)
    rw [yi_s, xm_s]
    generalize yi m (hiS hp) (Y, lo) = v at i1 i2 ⊢
    generalize xmF pl vi hp x m = z at i1 i2 ⊢
    obtain ⟨k0, k1, k2, k3, k4, k5, k6⟩ := i1 m
    unfold hiS
    rw [k0, k1, k4, k6]
    by_cases c : pl m = hp
    · rw [if_pos c, if_pos c]
      refine ⟨?_, ?_⟩
      · unfold YX
        rw [← upd_mi, ← upd_ad, ← upd_ad]
        exact YR_la (YR_lt (YR_vi i1 m _) m _) m _
      · show v.2 + ownR (vi m - z m) = _
        rw [i2, sumF_upd (by omega)]
        generalize sumF z n = s1
        generalize sumF x n = s2
        grind
    · rw [if_neg c, if_neg c]
      exact ⟨i1, i2⟩
/-- what d hails at hp take -/
def amF (pl vi : fI) (n : Nat) (hp : Int32) (d : Nat) : fI := fun k => if k < n ∧ pl k = hp then mn (2 * nI d) (vi k) else 0
theorem t_2nI {d : Nat} (hd : d ≤ 1000) : (2 * nI d).toInt = 2 * d := by
  rw [t_mul (by rw [t_2c, nI_toInt (by omega)]; omega) (by rw [t_2c, nI_toInt (by omega)]; omega), t_2c, nI_toInt (by omega)]
theorem am_0 {pl vi : fI} {n : Nat} {hp : Int32} (hv : ∀ k, rg (vi k) 0 99) : amF pl vi n hp 0 = fun _ => 0 := by
  funext k
  unfold amF
  split
  · have := hv k
    unfold rg at this
    rw [t_eq, mn_t, t_2nI (by omega), t_0]
    omega
  · rfl
theorem am_s {pl vi : fI} {n : Nat} {hp : Int32} (hv : ∀ k, rg (vi k) 0 99) {d : Nat} (hd : d ≤ 100) : xmF pl vi hp (amF pl vi n hp d) n = amF pl vi n hp (d + 1) := by
  funext k
  unfold xmF amF
  by_cases c : k < n ∧ pl k = hp
  · rw [if_pos c, if_pos c, if_pos c]
    have h1 := hv k
    unfold rg at h1
    have e1 : (mn (2 * nI d) (vi k)).toInt = min (2 * (d : Int)) (vi k).toInt := by rw [mn_t, t_2nI (by omega)]
    have e2 : (vi k - mn (2 * nI d) (vi k)).toInt = (vi k).toInt - min (2 * (d : Int)) (vi k).toInt := by rw [t_sub (by rw [e1]; omega) (by rw [e1]; omega), e1]
    have e3 : (ownR (vi k - mn (2 * nI d) (vi k))).toInt = min 2 ((vi k).toInt - min (2 * (d : Int)) (vi k).toInt) := by
      unfold ownR
      by_cases q : vi k - mn (2 * nI d) (vi k) ≤ 1
      · rw [if_pos q, e2]
        rw [t_le, e2, t_1] at q
        omega
      · rw [if_neg q, t_2c]
        rw [t_le, e2, t_1] at q
        omega
    rw [t_eq, t_add (by rw [e1, e3]; omega) (by rw [e1, e3]; omega), e1, e3, mn_t, t_2nI (by omega)]
    omega
  · rw [if_neg c, if_neg c, if_neg c]
def DR (pl vi : fI) (me ins : fB) (lt su la : fI) (cq dr ha : fI) (n j : Nat) (lo : Int32) (d : Nat) (v : fR × fR × Int32) : Prop :=
  CR v.1 cq dr (upd ha j (ha j - nI d)) ∧ YX pl vi me ins lt su la v.2.1 (amF pl vi n (cq j) d) ∧ v.2.2 = lo + sumF (amF pl vi n (cq j) d) n
theorem dr_at {pl vi : fI} {me ins : fB} {lt su la : fI} {cq dr ha : fI} {n j : Nat} {lo : Int32} (hv : ∀ k, rg (vi k) 0 99) {H : Nat} (hH : (ha j).toInt = H) (hH6 : H ≤ 60) : ∀ r d v, d + r = 4 → d ≤ min H 4 → DR pl vi me ins lt su la cq dr ha n j lo d v → DR pl vi me ins lt su la cq dr ha n j lo (min H 4) (drR n j r v) := by
  intro r
  induction r with
  | zero =>
    intro d v h1 h2 h3
    have e : min H 4 = d := by omega
    rw [e]
    exact h3
  | succ r ih =>
    intro d v h1 h2 h3
    obtain ⟨a1, a2, a3⟩ := h3
    obtain ⟨l0, l1, l2, l3⟩ := a1 j
    rw [upd_at, if_pos rfl] at l2
    have e1 : (ha j - nI d).toInt = H - d := by rw [t_sub (by rw [nI_toInt (by omega)]; omega) (by rw [nI_toInt (by omega)]; omega), nI_toInt (by omega), hH]
    unfold drR
    by_cases c : v.1 j 2 ≤ 0
    · rw [if_pos c]
      rw [l2, t_le, e1, t_0] at c
      have e : min H 4 = d := by omega
      rw [e]
      exact ⟨a1, a2, a3⟩
    · rw [if_neg c]
      rw [l2, t_le, e1, t_0] at c
      refine ih (d + 1) (drI n j v) (by omega) (by omega) ⟨?_, ?_, ?_⟩
      · show CR (up2 v.1 j 2 (v.1 j 2 - 1)) cq dr _
        have e2 : ha j - nI (d + 1) = v.1 j 2 - 1 := by rw [l2, nI_succ]; grind
        rw [e2]
        have := CR_ha a1 j (v.1 j 2 - 1)
        rw [upd_upd] at this
        exact this
      · show YX pl vi me ins lt su la (yi n (hiS (v.1 j 0)) (v.2.1, v.2.2)).1 _
        rw [l0, ← am_s hv (by omega)]
        exact (hi_at (hp := cq j) (lo := v.2.2) (n := n) a2 n (Nat.le_refl n)).1
      · show (yi n (hiS (v.1 j 0)) (v.2.1, v.2.2)).2 = _
        rw [l0, ← am_s hv (by omega), (hi_at (hp := cq j) (lo := v.2.2) (n := n) a2 n (Nat.le_refl n)).2, a3]
        generalize sumF (xmF pl vi (cq j) (amF pl vi n (cq j) d) n) n = s1
        generalize sumF (amF pl vi n (cq j) d) n = s2
        grind
theorem cl_at {pl vi : fI} {me ins : fB} {lt su la : fI} {cq dr ha : fI} {n : Nat} {L Y : fR} {lo : Int32} (hv : ∀ k, rg (vi k) 0 99) (hh : ∀ k, rg (ha k) 0 60) (hL : CR L cq dr ha) (hY : YR Y pl vi me ins lt su la) :
    ∀ j, j ≤ 1000 → CR (yi j (clR n) (L, Y, lo)).1 cq dr (dropF cq pl n j (ha, vi, lt, la)).1 ∧ YR (yi j (clR n) (L, Y, lo)).2.1 pl (dropF cq pl n j (ha, vi, lt, la)).2.1 me ins (dropF cq pl n j (ha, vi, lt, la)).2.2.1 su (dropF cq pl n j (ha, vi, lt, la)).2.2.2 ∧ (yi j (clR n) (L, Y, lo)).2.2 = lo + (sumF (dropF cq pl n j (ha, vi, lt, la)).2.2.2 n - sumF la n) := by
  intro j
  induction j with
  | zero =>
    intro _
    refine ⟨hL, hY, ?_⟩
    show lo = lo + (sumF la n - sumF la n)
    generalize sumF la n = s
    grind
  | succ j ih =>
    intro hj
    have hD := drop_at (cq := cq) (pl := pl) (lt := lt) (la := la) (n := n) hv hh j (by omega)
    obtain ⟨i1, i2, i3⟩ := ih (by omega)
    have hs : dropF cq pl n (j + 1) (ha, vi, lt, la) = dropS cq pl n j (dropF cq pl n j (ha, vi, lt, la)) := rfl
    rw [yi_s, hs]
    generalize yi j (clR n) (L, Y, lo) = v at i1 i2 i3 ⊢
    generalize dropF cq pl n j (ha, vi, lt, la) = w at hD i1 i2 i3 ⊢
    obtain ⟨d1, d2, d3, d4, d5⟩ := hD
    obtain ⟨l0, l1, l2, l3⟩ := i1 j
    unfold clR dropS
    rw [l3]
    cases g : gnF cq j with
    | true =>
      rw [cond_true, if_pos (show bI true = 1 from rfl)]
      exact ⟨i1, i2, i3⟩
    | false =>
      rw [cond_false, if_neg (by decide)]
      by_cases h0 : w.1 j ≤ 0
      · rw [if_pos h0]
        have e : drR n j 4 v = v := by
          unfold drR
          rw [if_pos (by rw [l2]; exact h0)]
        rw [e]
        exact ⟨i1, i2, i3⟩
      · rw [if_neg h0]
        have x1 := d4 j
        have x2 := hh j
        unfold rg at x2
        obtain ⟨H, hH⟩ : ∃ H : Nat, (w.1 j).toInt = H := ⟨(w.1 j).toInt.toNat, by omega⟩
        have hv' : ∀ k, rg (w.2.1 k) 0 99 := fun k => by
          have a := hv k
          have b := d2 k
          unfold rg at a ⊢
          rw [(d1 k).1, t_sub (by omega) (by omega)]
          omega
        have hm : mn (w.1 j) 4 = nI (min H 4) := by
          rw [t_eq, mn_t, t_4c, hH, nI_toInt (by omega)]
          omega
        have z0 : amF pl w.2.1 n (cq j) 0 = fun _ => 0 := am_0 hv'
        have st : DR pl w.2.1 me ins w.2.2.1 su w.2.2.2 cq dr w.1 n j v.2.2 0 v := by
          refine ⟨?_, ?_, ?_⟩
          · have e : upd w.1 j (w.1 j - nI 0) = w.1 := by
              funext k
              rw [upd_at, show nI 0 = 0 from rfl, Int32.sub_zero]
              by_cases q : k = j
              · rw [if_pos q, q]
              · rw [if_neg q]
            rw [e]
            exact i1
          · rw [z0]
            exact YR_ext i2 (fun k => (Int32.sub_zero _).symm) (fun k => (Int32.add_zero _).symm) (fun _ => rfl) (fun k => (Int32.add_zero _).symm)
          · rw [z0, sumF_z, Int32.add_zero]
        obtain ⟨b1, b2, b3⟩ := dr_at hv' hH (by omega) 4 0 v rfl (by omega) st
        have tk := take_at pl (cq j) (mn (w.1 j) 4) (w.2.1, w.2.2.1, w.2.2.2) n
        rw [hm] at tk ⊢
        generalize takeF pl (cq j) (nI (min H 4)) n (w.2.1, w.2.2.1, w.2.2.2) = z at tk ⊢
        have t1 : ∀ k, w.2.1 k - amF pl w.2.1 n (cq j) (min H 4) k = z.1 k := fun k => by
          rw [(tk k).1]
          unfold amF
          by_cases c : k < n ∧ pl k = cq j
          · rw [if_pos c, if_pos c]
          · rw [if_neg c, if_neg c, Int32.sub_zero]
        have t2 : ∀ k, w.2.2.1 k + amF pl w.2.1 n (cq j) (min H 4) k = z.2.1 k := fun k => by
          rw [(tk k).2.1]
          unfold amF
          by_cases c : k < n ∧ pl k = cq j
          · rw [if_pos c, if_pos c]
          · rw [if_neg c, if_neg c, Int32.add_zero]
        have t3 : ∀ k, w.2.2.2 k + amF pl w.2.1 n (cq j) (min H 4) k = z.2.2 k := fun k => by
          rw [(tk k).2.2]
          unfold amF
          by_cases c : k < n ∧ pl k = cq j
          · rw [if_pos c, if_pos c]
          · rw [if_neg c, if_neg c, Int32.add_zero]
        refine ⟨b1, YR_ext b2 t1 t2 (fun _ => rfl) t3, ?_⟩
        show (drR n j 4 v).2.2 = lo + (sumF z.2.2 n - sumF la n)
        rw [b3, i3, ← sumF_c (fun k _ => t3 k), sumF_add]
        generalize sumF w.2.2.2 n = q1
        generalize sumF la n = q2
        generalize sumF (amF pl w.2.1 n (cq j) (min H 4)) n = q3
        grind
theorem dy_at {pl vi : fI} {me ins : fB} {lt su la : fI} {Y : fR} {co : Int32} (hY : YR Y pl vi me ins lt su la) :
    ∀ j, YR (yi j dyR (Y, co)).1 pl (closeF ins j (0, vi, lt, su)).2.1 me ins (closeF ins j (0, vi, lt, su)).2.2.1 (closeF ins j (0, vi, lt, su)).2.2.2 la ∧ (yi j dyR (Y, co)).2 = co + (closeF ins j (0, vi, lt, su)).1 := by
  intro j
  induction j with
  | zero => exact ⟨hY, (Int32.add_zero co).symm⟩
  | succ j ih =>
    obtain ⟨i1, i2⟩ := ih
    have hs : closeF ins (j + 1) (0, vi, lt, su) = closeS ins j (closeF ins j (0, vi, lt, su)) := rfl
    rw [yi_s, hs]
    generalize yi j dyR (Y, co) = v at i1 i2 ⊢
    generalize closeF ins j (0, vi, lt, su) = w at i1 i2 ⊢
    obtain ⟨k0, k1, k2, k3, k4, k5, k6⟩ := i1 j
    refine ⟨?_, ?_⟩
    · show YR (if v.1 j 1 ≤ 0 then up2 (up2 v.1 j 4 0) j 5 0 else if 99 ≤ v.1 j 1 then up2 (up2 v.1 j 4 0) j 5 0 else up2 (up2 (up2 v.1 j 4 0) j 5 0) j 1 (v.1 j 1 + 1)) pl (if w.2.1 j < 1 then w.2.1 else if 99 ≤ w.2.1 j then w.2.1 else upd w.2.1 j (w.2.1 j + 1)) me ins (upd w.2.2.1 j 0) (upd w.2.2.2 j 0) la
      rw [k1]
      have b := YR_su (YR_lt i1 j 0) j 0
      by_cases c1 : w.2.1 j ≤ 0
      · rw [if_pos c1, if_pos (show w.2.1 j < 1 by rw [t_le, t_0] at c1; rw [t_lt, t_1]; omega)]
        exact b
      · rw [if_neg c1, if_neg (show ¬ w.2.1 j < 1 by rw [t_le, t_0] at c1; rw [t_lt, t_1]; omega)]
        by_cases c2 : 99 ≤ w.2.1 j
        · rw [if_pos c2, if_pos c2]
          exact b
        · rw [if_neg c2, if_neg c2]
          exact YR_vi b j _
    · show coR v.1 j v.2 = co + ((cond (ins j) (w.1 + (1 - w.2.2.1 j / 2)) w.1) - w.2.2.2 j)
      unfold coR
      rw [k3, k4, k5, i2]
      generalize w.2.2.1 j / 2 = q
      cases ins j with
      | true =>
        rw [cond_true, if_pos (show bI true = 1 from rfl)]
        grind
      | false =>
        rw [cond_false, if_neg (by decide)]
        grind
theorem YR_yrow {Y : fR} {e : ES} {t : DS} (h : YR Y (ePl e) (sVi t) (eMe e) (eIn e) (sLt t) (sSu t) (sLa t)) {k w : Nat} (hw : w < 7) : Y k w = yrow e t k w := by
  obtain ⟨k0, k1, k2, k3, k4, k5, k6⟩ := h k
  rcases (show w = 0 ∨ w = 1 ∨ w = 2 ∨ w = 3 ∨ w = 4 ∨ w = 5 ∨ w = 6 by omega) with rfl | rfl | rfl | rfl | rfl | rfl | rfl <;> assumption
theorem KR_krow {K : fR} {e : ES} {t : DS} (h : KR K (eKp e) (eRg e) (sPw t) (sSh t)) {k w : Nat} (hw : w < 4) : K k w = krow e t k w := by
  obtain ⟨k0, k1, k2, k3⟩ := h k
  rcases (show w = 0 ∨ w = 1 ∨ w = 2 ∨ w = 3 by omega) with rfl | rfl | rfl | rfl <;> assumption
theorem CR_crow {L : fR} {e : ES} {t : DS} (h : CR L (sCp t) (eDr e) (sHa t)) {k w : Nat} (hw : w < 4) : L k w = crow e t k w := by
  obtain ⟨k0, k1, k2, k3⟩ := h k
  rcases (show w = 0 ∨ w = 1 ∨ w = 2 ∨ w = 3 by omega) with rfl | rfl | rfl | rfl <;> assumption
set_option maxHeartbeats 4000000 in
/-- an hour by rows is an hour -/
theorem pass_eq {e : ES} {h : Nat} {s : DS} (hJ : Jv e h s) (hh : h ≤ 10000) :
    (∀ k, k < eN e → ∀ w, w < 7 → (simD (rrF e) (eWd e (h % 6)) h (eN e) (eNk e) (eNc e) (yrow e s) (krow e s) (crow e s) (sCo s)).1 k w = yrow e (hourF e h s) k w) ∧
    (∀ k, k < eNk e → ∀ w, w < 4 → (simK (rrF e) (eWd e (h % 6)) (eN e) (eNk e) (eNc e) (yrow e s) (krow e s) (crow e s)).1 k w = krow e (hourF e h s) k w) ∧
    (∀ k, k < eNc e → ∀ w, w < 4 → (simC (rrF e) (eWd e (h % 6)) (eN e) (eNk e) (eNc e) (yrow e s) (krow e s) (crow e s)).1 k w = crow e (hourF e h s) k w) ∧
    (simD (rrF e) (eWd e (h % 6)) h (eN e) (eNk e) (eNc e) (yrow e s) (krow e s) (crow e s) (sCo s)).2 = sCo (hourF e h s) ∧
    (simC (rrF e) (eWd e (h % 6)) (eN e) (eNk e) (eNc e) (yrow e s) (krow e s) (crow e s)).2.2 = sumF (sLa (hourF e h s)) (eN e) - sumF (sLa s) (eN e) := by
  have hrr := fun k => rr_eq hJ k
  obtain ⟨⟨n1, n2, n3⟩, ⟨p1, p2, p3, p4, p5⟩, ⟨v1, v2, v3, v4, v5, v6, v7, v8⟩, ⟨z1, z2, z3⟩⟩ := hJ
  have hL0 : CR (crow e s) (sCp s) (eDr e) (sHa s) := fun k => ⟨rfl, rfl, rfl, rfl⟩
  have hK0 : KR (krow e s) (eKp e) (eRg e) (sPw s) (sSh s) := fun k => ⟨rfl, rfl, rfl, rfl⟩
  have hY0 : YR (yrow e s) (ePl e) (sVi s) (eMe e) (eIn e) (sLt s) (sSu s) (sLa s) := fun k => ⟨rfl, rfl, rfl, rfl, rfl, rfl, rfl⟩
  have hcq := drive_rg (nc := eNc e) p4 (p5 (h % 6)) v7
  have hL1 := dv_at (b := eWd e (h % 6)) hL0 (eNc e)
  have hsh : ∀ k, rg (sSh s k) 0 100000 := fun k => rg_w (v6 k) (by omega) (by omega)
  have hS := sho_at (nc := eNc e) (n := eN e) hrr p2 p1 hcq v5 hsh v8 (by omega) hK0 hL1 hY0 (eNk e)
  have hB := shoot_at (me := eMe e) (n := eN e) (nc := eNc e) (su := sSu s) p3 p2 p1 hcq v5 hsh v8 (by omega) (eNk e)
  have eS : simK (rrF e) (eWd e (h % 6)) (eN e) (eNk e) (eNc e) (yrow e s) (krow e s) (crow e s) = yi (eNk e) (shR (rrF e) (eN e) (eNc e)) (krow e s, yi (eNc e) (dvS (eWd e (h % 6))) (crow e s), yrow e s) := rfl
  have eC : simC (rrF e) (eWd e (h % 6)) (eN e) (eNk e) (eNc e) (yrow e s) (krow e s) (crow e s) = yi (eNc e) (clR (eN e)) ((simK (rrF e) (eWd e (h % 6)) (eN e) (eNk e) (eNc e) (yrow e s) (krow e s) (crow e s)).2.1, (simK (rrF e) (eWd e (h % 6)) (eN e) (eNk e) (eNc e) (yrow e s) (krow e s) (crow e s)).2.2, 0) := rfl
  have eD : simD (rrF e) (eWd e (h % 6)) h (eN e) (eNk e) (eNc e) (yrow e s) (krow e s) (crow e s) (sCo s) = passD h (eN e) ((simC (rrF e) (eWd e (h % 6)) (eN e) (eNk e) (eNc e) (yrow e s) (krow e s) (crow e s)).2.1, sCo s) := rfl
  rw [← eS] at hS
  generalize simD (rrF e) (eWd e (h % 6)) h (eN e) (eNk e) (eNc e) (yrow e s) (krow e s) (crow e s) (sCo s) = vD at eD ⊢
  generalize simC (rrF e) (eWd e (h % 6)) (eN e) (eNk e) (eNc e) (yrow e s) (krow e s) (crow e s) = vC at eC eD ⊢
  generalize simK (rrF e) (eWd e (h % 6)) (eN e) (eNk e) (eNc e) (yrow e s) (krow e s) (crow e s) = vK at hS eC ⊢
  have eH : hourF e h s = (if nI (h % 24) = 23 then
      ((closeF (eIn e) (eN e) (0, (dropF (driveF (eDr e) (eWd e (h % 6)) (eNc e) (sCp s)) (ePl e) (eN e) (eNc e) ((shootF (eKp e) (eRg e) (driveF (eDr e) (eWd e (h % 6)) (eNc e) (sCp s)) (ePl e) (eMe e) (eNc e) (eN e) (eNk e) (sPw s, sSh s, sHa s, sSu s)).2.2.1, sVi s, sLt s, sLa s)).2.1, (dropF (driveF (eDr e) (eWd e (h % 6)) (eNc e) (sCp s)) (ePl e) (eN e) (eNc e) ((shootF (eKp e) (eRg e) (driveF (eDr e) (eWd e (h % 6)) (eNc e) (sCp s)) (ePl e) (eMe e) (eNc e) (eN e) (eNk e) (sPw s, sSh s, sHa s, sSu s)).2.2.1, sVi s, sLt s, sLa s)).2.2.1, (shootF (eKp e) (eRg e) (driveF (eDr e) (eWd e (h % 6)) (eNc e) (sCp s)) (ePl e) (eMe e) (eNc e) (eN e) (eNk e) (sPw s, sSh s, sHa s, sSu s)).2.2.2)).2.1,
       (closeF (eIn e) (eN e) (0, (dropF (driveF (eDr e) (eWd e (h % 6)) (eNc e) (sCp s)) (ePl e) (eN e) (eNc e) ((shootF (eKp e) (eRg e) (driveF (eDr e) (eWd e (h % 6)) (eNc e) (sCp s)) (ePl e) (eMe e) (eNc e) (eN e) (eNk e) (sPw s, sSh s, sHa s, sSu s)).2.2.1, sVi s, sLt s, sLa s)).2.1, (dropF (driveF (eDr e) (eWd e (h % 6)) (eNc e) (sCp s)) (ePl e) (eN e) (eNc e) ((shootF (eKp e) (eRg e) (driveF (eDr e) (eWd e (h % 6)) (eNc e) (sCp s)) (ePl e) (eMe e) (eNc e) (eN e) (eNk e) (sPw s, sSh s, sHa s, sSu s)).2.2.1, sVi s, sLt s, sLa s)).2.2.1, (shootF (eKp e) (eRg e) (driveF (eDr e) (eWd e (h % 6)) (eNc e) (sCp s)) (ePl e) (eMe e) (eNc e) (eN e) (eNk e) (sPw s, sSh s, sHa s, sSu s)).2.2.2)).2.2.1,
       (closeF (eIn e) (eN e) (0, (dropF (driveF (eDr e) (eWd e (h % 6)) (eNc e) (sCp s)) (ePl e) (eN e) (eNc e) ((shootF (eKp e) (eRg e) (driveF (eDr e) (eWd e (h % 6)) (eNc e) (sCp s)) (ePl e) (eMe e) (eNc e) (eN e) (eNk e) (sPw s, sSh s, sHa s, sSu s)).2.2.1, sVi s, sLt s, sLa s)).2.1, (dropF (driveF (eDr e) (eWd e (h % 6)) (eNc e) (sCp s)) (ePl e) (eN e) (eNc e) ((shootF (eKp e) (eRg e) (driveF (eDr e) (eWd e (h % 6)) (eNc e) (sCp s)) (ePl e) (eMe e) (eNc e) (eN e) (eNk e) (sPw s, sSh s, sHa s, sSu s)).2.2.1, sVi s, sLt s, sLa s)).2.2.1, (shootF (eKp e) (eRg e) (driveF (eDr e) (eWd e (h % 6)) (eNc e) (sCp s)) (ePl e) (eMe e) (eNc e) (eN e) (eNk e) (sPw s, sSh s, sHa s, sSu s)).2.2.2)).2.2.2,
       (dropF (driveF (eDr e) (eWd e (h % 6)) (eNc e) (sCp s)) (ePl e) (eN e) (eNc e) ((shootF (eKp e) (eRg e) (driveF (eDr e) (eWd e (h % 6)) (eNc e) (sCp s)) (ePl e) (eMe e) (eNc e) (eN e) (eNk e) (sPw s, sSh s, sHa s, sSu s)).2.2.1, sVi s, sLt s, sLa s)).2.2.2, (shootF (eKp e) (eRg e) (driveF (eDr e) (eWd e (h % 6)) (eNc e) (sCp s)) (ePl e) (eMe e) (eNc e) (eN e) (eNk e) (sPw s, sSh s, sHa s, sSu s)).1, (shootF (eKp e) (eRg e) (driveF (eDr e) (eWd e (h % 6)) (eNc e) (sCp s)) (ePl e) (eMe e) (eNc e) (eN e) (eNk e) (sPw s, sSh s, sHa s, sSu s)).2.1, driveF (eDr e) (eWd e (h % 6)) (eNc e) (sCp s), (dropF (driveF (eDr e) (eWd e (h % 6)) (eNc e) (sCp s)) (ePl e) (eN e) (eNc e) ((shootF (eKp e) (eRg e) (driveF (eDr e) (eWd e (h % 6)) (eNc e) (sCp s)) (ePl e) (eMe e) (eNc e) (eN e) (eNk e) (sPw s, sSh s, sHa s, sSu s)).2.2.1, sVi s, sLt s, sLa s)).1, sCo s + (closeF (eIn e) (eN e) (0, (dropF (driveF (eDr e) (eWd e (h % 6)) (eNc e) (sCp s)) (ePl e) (eN e) (eNc e) ((shootF (eKp e) (eRg e) (driveF (eDr e) (eWd e (h % 6)) (eNc e) (sCp s)) (ePl e) (eMe e) (eNc e) (eN e) (eNk e) (sPw s, sSh s, sHa s, sSu s)).2.2.1, sVi s, sLt s, sLa s)).2.1, (dropF (driveF (eDr e) (eWd e (h % 6)) (eNc e) (sCp s)) (ePl e) (eN e) (eNc e) ((shootF (eKp e) (eRg e) (driveF (eDr e) (eWd e (h % 6)) (eNc e) (sCp s)) (ePl e) (eMe e) (eNc e) (eN e) (eNk e) (sPw s, sSh s, sHa s, sSu s)).2.2.1, sVi s, sLt s, sLa s)).2.2.1, (shootF (eKp e) (eRg e) (driveF (eDr e) (eWd e (h % 6)) (eNc e) (sCp s)) (ePl e) (eMe e) (eNc e) (eN e) (eNk e) (sPw s, sSh s, sHa s, sSu s)).2.2.2)).1)
      else ((dropF (driveF (eDr e) (eWd e (h % 6)) (eNc e) (sCp s)) (ePl e) (eN e) (eNc e) ((shootF (eKp e) (eRg e) (driveF (eDr e) (eWd e (h % 6)) (eNc e) (sCp s)) (ePl e) (eMe e) (eNc e) (eN e) (eNk e) (sPw s, sSh s, sHa s, sSu s)).2.2.1, sVi s, sLt s, sLa s)).2.1, (dropF (driveF (eDr e) (eWd e (h % 6)) (eNc e) (sCp s)) (ePl e) (eN e) (eNc e) ((shootF (eKp e) (eRg e) (driveF (eDr e) (eWd e (h % 6)) (eNc e) (sCp s)) (ePl e) (eMe e) (eNc e) (eN e) (eNk e) (sPw s, sSh s, sHa s, sSu s)).2.2.1, sVi s, sLt s, sLa s)).2.2.1, (shootF (eKp e) (eRg e) (driveF (eDr e) (eWd e (h % 6)) (eNc e) (sCp s)) (ePl e) (eMe e) (eNc e) (eN e) (eNk e) (sPw s, sSh s, sHa s, sSu s)).2.2.2, (dropF (driveF (eDr e) (eWd e (h % 6)) (eNc e) (sCp s)) (ePl e) (eN e) (eNc e) ((shootF (eKp e) (eRg e) (driveF (eDr e) (eWd e (h % 6)) (eNc e) (sCp s)) (ePl e) (eMe e) (eNc e) (eN e) (eNk e) (sPw s, sSh s, sHa s, sSu s)).2.2.1, sVi s, sLt s, sLa s)).2.2.2, (shootF (eKp e) (eRg e) (driveF (eDr e) (eWd e (h % 6)) (eNc e) (sCp s)) (ePl e) (eMe e) (eNc e) (eN e) (eNk e) (sPw s, sSh s, sHa s, sSu s)).1, (shootF (eKp e) (eRg e) (driveF (eDr e) (eWd e (h % 6)) (eNc e) (sCp s)) (ePl e) (eMe e) (eNc e) (eN e) (eNk e) (sPw s, sSh s, sHa s, sSu s)).2.1, driveF (eDr e) (eWd e (h % 6)) (eNc e) (sCp s), (dropF (driveF (eDr e) (eWd e (h % 6)) (eNc e) (sCp s)) (ePl e) (eN e) (eNc e) ((shootF (eKp e) (eRg e) (driveF (eDr e) (eWd e (h % 6)) (eNc e) (sCp s)) (ePl e) (eMe e) (eNc e) (eN e) (eNk e) (sPw s, sSh s, sHa s, sSu s)).2.2.1, sVi s, sLt s, sLa s)).1, sCo s)) := rfl
  generalize hourF e h s = t at eH ⊢
  generalize driveF (eDr e) (eWd e (h % 6)) (eNc e) (sCp s) = cq at hcq hS hB eH
  generalize shootF (eKp e) (eRg e) cq (ePl e) (eMe e) (eNc e) (eN e) (eNk e) (sPw s, sSh s, sHa s, sSu s) = w1 at hS hB eH
  obtain ⟨hK, hC, hY⟩ := hS
  obtain ⟨-, -, s3, -⟩ := hB
  have hha1 : ∀ k, rg (w1.2.2.1 k) 0 60 := fun k => by
    have a := s3 k
    have b := v8 k
    unfold rg at b ⊢
    omega
  have hD := cl_at (lo := 0) (n := eN e) v1 hha1 hC hY (eNc e) (by omega)
  rw [← eC] at hD
  generalize dropF cq (ePl e) (eN e) (eNc e) (w1.2.2.1, sVi s, sLt s, sLa s) = w2 at hD eH
  obtain ⟨hC2, hY2, hlo⟩ := hD
  have hE := dy_at (co := sCo s) hY2 (eN e)
  have hlo' : vC.2.2 = sumF w2.2.2.2 (eN e) - sumF (sLa s) (eN e) := by rw [hlo, Int32.zero_add]
  generalize closeF (eIn e) (eN e) (0, w2.2.1, w2.2.2.1, w1.2.2.2) = w3 at hE eH
  by_cases c : nI (h % 24) = 23
  · rw [if_pos c] at eH
    have eP : vD = yi (eN e) dyR (vC.2.1, sCo s) := by rw [eD]; unfold passD; rw [if_pos c]
    rw [← eP] at hE
    rw [eH]
    exact ⟨fun k _ w hw => YR_yrow hE.1 hw, fun k _ w hw => KR_krow hK hw, fun k _ w hw => CR_crow hC2 hw, hE.2, hlo'⟩
  · rw [if_neg c] at eH
    have eP : vD = (vC.2.1, sCo s) := by rw [eD]; unfold passD; rw [if_neg c]
    rw [eH, eP]
    exact ⟨fun k _ w hw => YR_yrow hY2 hw, fun k _ w hw => KR_krow hK hw, fun k _ w hw => CR_crow hC2 hw, rfl, hlo'⟩
