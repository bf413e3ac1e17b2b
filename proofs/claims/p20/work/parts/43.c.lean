-- PURE: an hour of the class, place by place
theorem yi_congr {α : Type} {f g : Nat → α → α} {n : Nat} (h : ∀ c, c < n → ∀ a, f c a = g c a) (x : α) : yi n f x = yi n g x := by
  induction n with
  | zero => rfl
  | succ n ih =>
    rw [yi_s, yi_s, ih (fun c hc => h c (by omega))]
    exact h n (by omega) _
def isum (f : Nat → Int) (n : Nat) : Int := yi n (fun k a => a + f k) 0
theorem isum_s (f : Nat → Int) (n : Nat) : isum f (n + 1) = isum f n + f n := rfl
theorem isum_le {f g : Nat → Int} {n : Nat} (h : ∀ k, k < n → f k ≤ g k) : isum f n ≤ isum g n := by
  induction n with
  | zero => exact Int.le_refl _
  | succ n ih =>
    rw [isum_s, isum_s]
    have := ih (fun k hk => h k (by omega))
    have := h n (by omega)
    omega
theorem isum_nn {f : Nat → Int} {n : Nat} {m : Int} (h : ∀ k, k < n → 0 ≤ f k ∧ f k ≤ m) : 0 ≤ isum f n ∧ isum f n ≤ m * n := by
  induction n with
  | zero => exact ⟨Int.le_refl _, by show (0 : Int) ≤ m * 0; omega⟩
  | succ n ih =>
    rw [isum_s]
    have a := ih (fun k hk => h k (by omega))
    have b := h n (by omega)
    have e : m * ((n + 1 : Nat) : Int) = m * n + m := by rw [Int.natCast_add, Int.mul_add]; omega
    omega
theorem isum_upd {f g : Nat → Int} {n t : Nat} (ht : t < n) (h : ∀ k, k ≠ t → f k = g k) : isum f n - f t = isum g n - g t := by
  induction n with
  | zero => omega
  | succ n ih =>
    rw [isum_s, isum_s]
    by_cases e : t = n
    · subst e
      have : isum f t = isum g t := by
        have a := isum_le (f := f) (g := g) (n := t) (fun k hk => by rw [h k (by omega)]; omega)
        have b := isum_le (f := g) (g := f) (n := t) (fun k hk => by rw [h k (by omega)]; omega)
        omega
      omega
    · have := ih (by omega)
      have := h n (fun q => e q.symm)
      omega
/-- a wrapping sum that does not wrap -/
theorem sum_t {f : Nat → Int32} {n : Nat} {m : Int} (hm : m * n < 1000000) (h : ∀ k, k < n → 0 ≤ (f k).toInt ∧ (f k).toInt ≤ m) : (yi n (fun k a => a + f k) 0).toInt = isum (fun k => (f k).toInt) n := by
  induction n with
  | zero => rfl
  | succ n ih =>
    have b := h n (by omega)
    have e : m * ((n + 1 : Nat) : Int) = m * n + m := by rw [Int.natCast_add, Int.mul_add]; omega
    have i1 := ih (by omega) (fun k hk => h k (by omega))
    have i2 := isum_nn (f := fun k => (f k).toInt) (n := n) (m := m) (fun k hk => h k (by omega))
    rw [yi_s, isum_s, ← i1, t_add (by omega) (by omega)]
-- hail upon vines
theorem take_at (pl : fI) (hp hl : Int32) (w : fI × fI × fI) : ∀ n k, ((takeF pl hp hl n w).1 k = if k < n ∧ pl k = hp then w.1 k - mn (2 * hl) (w.1 k) else w.1 k) ∧ ((takeF pl hp hl n w).2.1 k = if k < n ∧ pl k = hp then w.2.1 k + mn (2 * hl) (w.1 k) else w.2.1 k) ∧ ((takeF pl hp hl n w).2.2 k = if k < n ∧ pl k = hp then w.2.2 k + mn (2 * hl) (w.1 k) else w.2.2 k) := by
  intro n
  induction n with
  | zero =>
    intro k
    rw [if_neg (by omega), if_neg (by omega), if_neg (by omega)]
    exact ⟨rfl, rfl, rfl⟩
  | succ n ih =>
    intro k
    have hs : takeF pl hp hl (n + 1) w = takeS pl hp hl n (takeF pl hp hl n w) := rfl
    rw [hs]
    have hn := ih n
    rw [if_neg (by omega), if_neg (by omega), if_neg (by omega)] at hn
    have hk := ih k
    generalize takeF pl hp hl n w = v at hn hk ⊢
    unfold takeS
    by_cases hq : pl n = hp
    · rw [if_pos hq]
      by_cases e : k = n
      · subst e
        rw [if_pos ⟨by omega, hq⟩, if_pos ⟨by omega, hq⟩, if_pos ⟨by omega, hq⟩]
        simp only [upd_at, if_true]
        rw [hn.1, hn.2.1, hn.2.2]
        exact ⟨rfl, rfl, rfl⟩
      · simp only [upd_at, if_neg e]
        have ec : (k < n + 1 ∧ pl k = hp) ↔ (k < n ∧ pl k = hp) := ⟨fun q => ⟨by omega, q.2⟩, fun q => ⟨by omega, q.2⟩⟩
        simp only [ec]
        exact hk
    · rw [if_neg hq]
      have ec : (k < n + 1 ∧ pl k = hp) ↔ (k < n ∧ pl k = hp) := ⟨fun q => ⟨by
        by_cases e : k = n
        · exact absurd (e ▸ q.2) hq
        · omega, q.2⟩, fun q => ⟨by omega, q.2⟩⟩
      simp only [ec]
      exact hk
def DP (cq ha vi lt la : fI) (n j : Nat) (v : fI × fI × fI × fI) : Prop :=
  (∀ k, v.2.1 k = vi k - (v.2.2.2 k - la k) ∧ v.2.2.1 k = lt k + (v.2.2.2 k - la k)) ∧ (∀ k, 0 ≤ (v.2.2.2 k - la k).toInt ∧ (v.2.2.2 k - la k).toInt ≤ 8 * j ∧ (v.2.2.2 k - la k).toInt ≤ (vi k).toInt) ∧ (∀ k, n ≤ k → v.2.2.2 k = la k) ∧ (∀ k, 0 ≤ (v.1 k).toInt ∧ (v.1 k).toInt ≤ (ha k).toInt) ∧ (∀ k, gnF cq k = true → v.1 k = ha k)
theorem drop_at {cq pl ha vi lt la : fI} {n : Nat} (hv : ∀ k, rg (vi k) 0 99) (hh : ∀ k, rg (ha k) 0 60) : ∀ j, j ≤ 1000 → DP cq ha vi lt la n j (dropF cq pl n j (ha, vi, lt, la)) := by
  intro j
  induction j with
  | zero =>
    intro _
    have e0 : ∀ x : Int32, x - x = 0 := fun x => by grind
    refine ⟨fun k => ?_, fun k => ?_, fun k _ => rfl, fun k => ?_, fun k _ => rfl⟩
    · show vi k = vi k - (la k - la k) ∧ lt k = lt k + (la k - la k)
      rw [e0, Int32.sub_zero, Int32.add_zero]
      exact ⟨rfl, rfl⟩
    · show 0 ≤ (la k - la k).toInt ∧ (la k - la k).toInt ≤ 8 * 0 ∧ (la k - la k).toInt ≤ (vi k).toInt
      rw [e0, t_0]
      have := (hv k).1
      omega
    · have := hh k
      unfold rg at this
      exact ⟨this.1, Int.le_refl _⟩
  | succ j ih =>
    intro hj
    have hs : dropF cq pl n (j + 1) (ha, vi, lt, la) = dropS cq pl n j (dropF cq pl n j (ha, vi, lt, la)) := rfl
    rw [hs]
    obtain ⟨d1, d2, d3, d4, d5⟩ := ih (by omega)
    generalize dropF cq pl n j (ha, vi, lt, la) = v at d1 d2 d3 d4 d5 ⊢
    have same : DP cq ha vi lt la n (j + 1) v := ⟨d1, fun k => by have := d2 k; omega, d3, d4, d5⟩
    unfold dropS
    cases hg : gnF cq j with
    | true => rw [cond_true]; exact same
    | false =>
      rw [cond_false]
      by_cases h0 : v.1 j ≤ 0
      · rw [if_pos h0]; exact same
      · rw [if_neg h0]
        rw [t_le, t_0] at h0
        have hm : (mn (v.1 j) 4).toInt = min (v.1 j).toInt 4 := by rw [mn_t, t_4c]
        have hj4 := d4 j
        have h2m : (2 * mn (v.1 j) 4).toInt = 2 * min (v.1 j).toInt 4 := by
          rw [t_mul (by rw [t_2c, hm]; omega) (by rw [t_2c, hm]; omega), t_2c, hm]
        have tk := take_at pl (cq j) (mn (v.1 j) 4) (v.2.1, v.2.2.1, v.2.2.2) n
        generalize takeF pl (cq j) (mn (v.1 j) 4) n (v.2.1, v.2.2.1, v.2.2.2) = z at tk ⊢
        simp only at tk
        generalize mn (v.1 j) 4 = m at hm h2m tk ⊢
        refine ⟨fun k => ?_, fun k => ?_, fun k hk => ?_, fun k => ?_, fun k hk => ?_⟩
        · obtain ⟨t1, t2, t3⟩ := tk k
          show z.1 k = vi k - (z.2.2 k - la k) ∧ z.2.1 k = lt k + (z.2.2 k - la k)
          obtain ⟨a1, a2⟩ := d1 k
          by_cases c : k < n ∧ pl k = cq j
          · rw [if_pos c] at t1 t2 t3
            rw [t1, t2, t3]
            rw [a1] at *
            rw [a2]
            constructor <;> grind
          · rw [if_neg c] at t1 t2 t3
            rw [t1, t2, t3]
            exact ⟨a1, a2⟩
        · obtain ⟨t1, t2, t3⟩ := tk k
          show 0 ≤ (z.2.2 k - la k).toInt ∧ (z.2.2 k - la k).toInt ≤ 8 * ((j + 1 : Nat) : Int) ∧ (z.2.2 k - la k).toInt ≤ (vi k).toInt
          obtain ⟨a1, a2⟩ := d1 k
          have b := d2 k
          have hvk := hv k
          unfold rg at hvk
          by_cases c : k < n ∧ pl k = cq j
          · rw [if_pos c] at t3
            have e : z.2.2 k - la k = (v.2.2.2 k - la k) + mn (2 * m) (v.2.1 k) := by rw [t3]; grind
            have ev : (v.2.1 k).toInt = (vi k).toInt - (v.2.2.2 k - la k).toInt := by rw [a1, t_sub (by omega) (by omega)]
            have em : (mn (2 * m) (v.2.1 k)).toInt = min (2 * min (v.1 j).toInt 4) ((vi k).toInt - (v.2.2.2 k - la k).toInt) := by rw [mn_t, h2m, ev]
            rw [e, t_add (by omega) (by omega)]
            omega
          · rw [if_neg c] at t3
            rw [t3]
            omega
        · obtain ⟨t1, t2, t3⟩ := tk k
          show z.2.2 k = la k
          rw [t3, if_neg (by omega)]
          exact d3 k hk
        · show 0 ≤ (upd v.1 j (v.1 j - m) k).toInt ∧ (upd v.1 j (v.1 j - m) k).toInt ≤ (ha k).toInt
          rw [upd_at]
          by_cases e : k = j
          · rw [if_pos e, e]
            have := hh j
            unfold rg at this
            rw [t_sub (by omega) (by omega), hm]
            omega
          · rw [if_neg e]
            exact d4 k
        · show upd v.1 j (v.1 j - m) k = ha k
          rw [upd_at, if_neg (fun e => by rw [e, hg] at hk; cases hk)]
          exact d5 k hk
