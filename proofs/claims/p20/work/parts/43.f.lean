-- PURE: what the law asks of an hour
theorem bI_t (b : Bool) : (bI b).toInt = if b = true then 1 else 0 := by cases b <;> rfl
theorem q_cloud {e : ES} {h : Nat} {s : DS} (hJ : Jv e h s) (hh : h ≤ 10000) {k : Nat} (hk : k < eNc e) :
    crow e (hourF e h s) k 1 = crow e s k 1 ∧ ¬ crow e s k 2 < crow e (hourF e h s) k 2 ∧ ¬ crow e (hourF e h s) k 2 < 0 ∧ ¬ crow e (hourF e h s) k 3 < crow e s k 3 ∧
    ((crow e (hourF e h s) k 3 = 1 ∧ (crow e (hourF e h s) k 0 < 0 ∨ (¬ crow e (hourF e h s) k 0 < 0 ∧ ¬ crow e (hourF e h s) k 0 ≤ 29))) ∨ (¬ crow e (hourF e h s) k 3 = 1 ∧ ¬ crow e (hourF e h s) k 0 < 0 ∧ crow e (hourF e h s) k 0 ≤ 29)) ∧
    ((crow e s k 3 = 1 ∧ ¬ crow e s k 3 = 0 ∧ crow e (hourF e h s) k 0 = crow e s k 0 ∧ crow e (hourF e h s) k 2 = crow e s k 2) ∨ (¬ crow e s k 3 = 1 ∧ crow e s k 3 = 0 ∧ crow e (hourF e h s) k 0 = crow e s k 0 + crow e s k 1 + eWd e (h % 6))) := by
  obtain ⟨⟨a1, a2, a3⟩, -⟩ := hour_sp hJ hh
  have a1k := a1 k
  have a2k := a2 k
  have a3k := a3 k
  rw [drive_at, if_pos hk] at a1k
  have c0 : ∀ u : DS, crow e u k 0 = sCp u k := fun _ => rfl
  have c1 : ∀ u : DS, crow e u k 1 = eDr e k := fun _ => rfl
  have c2 : ∀ u : DS, crow e u k 2 = sHa u k := fun _ => rfl
  have c3 : ∀ u : DS, crow e u k 3 = bI (gn (sCp u k)) := fun _ => rfl
  have a3k' : gn (sCp (hourF e h s) k) = true → sHa (hourF e h s) k = sHa s k := a3k
  generalize hourF e h s = t at *
  simp only [c0, c1, c2, c3]
  have n10 : ¬ (1 : Int32) = 0 := by decide
  have n01 : ¬ (0 : Int32) = 1 := by decide
  refine ⟨trivial, by rw [t_lt]; omega, by rw [t_lt, t_0]; omega, ?_, ?_, ?_⟩
  · rw [t_lt, bI_t, bI_t]
    cases g : gn (sCp s k) with
    | true =>
      rw [g, cond_true] at a1k
      rw [a1k, g]
      omega
    | false =>
      rw [if_neg (by decide : ¬ false = true)]
      split <;> omega
  · cases g : gn (sCp t k) with
    | true =>
      have := gn_t.mp g
      refine Or.inl ⟨rfl, ?_⟩
      rw [t_lt, t_le, t_0, t_29]
      omega
    | false =>
      have := gn_f.mp g
      refine Or.inr ⟨n01, ?_⟩
      rw [t_lt, t_le, t_0, t_29]
      omega
  · cases g : gn (sCp s k) with
    | true =>
      rw [g, cond_true] at a1k
      exact Or.inl ⟨rfl, n10, a1k, a3k' (by rw [a1k]; exact g)⟩
    | false =>
      rw [g, cond_false] at a1k
      refine Or.inr ⟨n01, rfl, ?_⟩
      rw [a1k]
      grind
theorem q_cannon {e : ES} {h : Nat} {s : DS} (hJ : Jv e h s) (hh : h ≤ 10000) {k : Nat} (hk : k < eNk e) :
    ¬ arow e (hourF e h s) k 3 - arow e s k 3 < 0 ∧ ¬ 1 < arow e (hourF e h s) k 3 - arow e s k 3 ∧ arow e (hourF e h s) k 2 = arow e s k 2 - (arow e (hourF e h s) k 3 - arow e s k 3) ∧ ¬ arow e (hourF e h s) k 2 < 0 ∧ arow e (hourF e h s) k 0 = arow e s k 0 := by
  obtain ⟨-, ⟨b1, -⟩, -⟩ := hour_sp hJ hh
  obtain ⟨x1, x2, x3, x4⟩ := b1 k
  have c0 : ∀ u : DS, arow e u k 0 = eKp e k := fun _ => rfl
  have c2 : ∀ u : DS, arow e u k 2 = sPw u k := fun _ => rfl
  have c3 : ∀ u : DS, arow e u k 3 = sSh u k := fun _ => rfl
  rw [c2, c2, c3, c3, c0, c0]
  generalize sSh (hourF e h s) k = a at *
  generalize sPw (hourF e h s) k = b at *
  rw [t_lt, t_lt, t_lt, t_0, t_1]
  exact ⟨by omega, by omega, x1, by omega, rfl⟩
theorem q_aim {e : ES} {h : Nat} {s : DS} (hJ : Jv e h s) {k : Nat} (hk : k < eNk e) :
    arow e s k 4 < 0 ∨ ∃ t, t < eNc e ∧ arow e s k 4 = nI t ∧ ¬ arow e s k 2 = 0 ∧ ¬ crow e s t 2 = 0 ∧ ¬ crow e s t 3 = 1 ∧ ab (crow e s t 0 - arow e s k 0) ≤ arow e s k 1 := by
  have hr : rg (eRg e k) 0 9 := hJ.2.1.2.2.1 k
  have e4 : arow e s k 4 = targF (eKp e) (eRg e) (sPw s) (sCp s) (sHa s) (eNc e) k := rfl
  rw [e4]
  rcases targ_sp (kp := eKp e) (pw := sPw s) (cp := sCp s) (ha := sHa s) (nc := eNc e) (j := k) hr with ⟨q, -⟩ | ⟨t, ht, q, g1, ⟨g2, g3, g4⟩, -⟩
  · rw [q]
    exact Or.inl (by decide)
  · refine Or.inr ⟨t, ht, q, ?_, ?_, ?_, ?_⟩
    · show ¬ sPw s k = 0
      intro c; rw [c, t_0] at g1; omega
    · show ¬ sHa s t = 0
      intro c; rw [c, t_0] at g3; omega
    · show ¬ bI (gnF (sCp s) t) = 1
      rw [g2]; decide
    · show ab (sCp s t - eKp e k) ≤ eRg e k
      rw [t_le]; omega
theorem isum_eq {f g : Nat → Int} {n : Nat} (h : ∀ k, k < n → f k = g k) : isum f n = isum g n := Int.le_antisymm (isum_le (fun k hk => Int.le_of_eq (h k hk))) (isum_le (fun k hk => Int.le_of_eq (h k hk).symm))
theorem q_less {e : ES} {h : Nat} {s : DS} (hJ : Jv e h s) (hh : h ≤ 10000) :
    ¬ yi (eNc e) (lessS e s (hourF e h s)) 0 < 0 ∧ (yi (eNk e) (shotS e s (hourF e h s)) 0 ≤ 0 ∨ ¬ yi (eNc e) (lessS e s (hourF e h s)) 0 = 0) := by
  obtain ⟨⟨-, a2, -⟩, ⟨b1, -, b3⟩, -⟩ := hour_sp hJ hh
  obtain ⟨⟨n1, n2, n3⟩, -, ⟨-, -, -, -, -, -, -, v8⟩, -⟩ := hJ
  generalize hourF e h s = t at *
  have hd : ∀ k, (sHa s k - sHa t k).toInt = (sHa s k).toInt - (sHa t k).toInt ∧ 0 ≤ (sHa s k - sHa t k).toInt ∧ (sHa s k - sHa t k).toInt ≤ 60 := fun k => by
    have x := a2 k
    have y := v8 k
    unfold rg at y
    have e1 := t_sub (x := sHa s k) (y := sHa t k) (by omega) (by omega)
    omega
  have hL : (yi (eNc e) (lessS e s t) 0).toInt = isum (fun k => (sHa s k - sHa t k).toInt) (eNc e) := sum_t (f := fun k => sHa s k - sHa t k) (m := 60) (by omega) (fun k _ => (hd k).2)
  have hM : (yi (eNk e) (shotS e s t) 0).toInt = isum (fun k => (sSh t k - sSh s k).toInt) (eNk e) := sum_t (f := fun k => sSh t k - sSh s k) (m := 1) (by omega) (fun k _ => ⟨(b1 k).2.1, (b1 k).2.2.1⟩)
  have hE : isum (fun k => (sHa s k - sHa t k).toInt) (eNc e) = isum (fun k => (sHa s k).toInt - (sHa t k).toInt) (eNc e) := isum_eq (fun k _ => (hd k).1)
  have hN := (isum_nn (f := fun k => (sHa s k - sHa t k).toInt) (n := eNc e) (m := 60) (fun k _ => (hd k).2)).1
  rw [t_lt, t_le, t_0, t_eq, t_0, hL, hM]
  refine ⟨by omega, ?_⟩
  by_cases c : isum (fun k => (sSh t k - sSh s k).toInt) (eNk e) ≤ 0
  · exact Or.inl c
  · exact Or.inr (by omega)
-- the first of some hours
theorem first_sp {P : Nat → Bool} : ∀ (r i : Nat), firstF P i r = -1 ∨ ∃ m, i ≤ m ∧ m < i + r ∧ firstF P i r = nI m ∧ P m = true ∧ ∀ q, i ≤ q → q < m → P q = false := by
  intro r
  induction r with
  | zero => intro i; exact Or.inl rfl
  | succ r ih =>
    intro i
    cases hP : P i with
    | true =>
      exact Or.inr ⟨i, Nat.le_refl i, by omega, first_hit (by omega) hP, hP, fun q h1 h2 => by omega⟩
    | false =>
      rw [first_miss rfl hP]
      rcases ih (i + 1) with g | ⟨m, g1, g2, g3, g4, g5⟩
      · exact Or.inl g
      · refine Or.inr ⟨m, by omega, by omega, g3, g4, fun q h1 h2 => ?_⟩
        by_cases e : q = i
        · rw [e]; exact hP
        · exact g5 q (by omega) h2
theorem first_at {P : Nat → Bool} {m : Nat} (hm : P m = true) : ∀ (r i : Nat), i ≤ m → m < i + r → (∀ q, i ≤ q → q < m → P q = false) → firstF P i r = nI m := by
  intro r
  induction r with
  | zero => intro i h1 h2; omega
  | succ r ih =>
    intro i h1 h2 h3
    by_cases e : i = m
    · rw [e]; exact first_hit (by omega) hm
    · rw [first_miss rfl (h3 i (Nat.le_refl i) (by omega))]
      exact ih (i + 1) (by omega) (by omega) (fun q g1 g2 => h3 q (by omega) g2)
theorem hours_sx (e : ES) (h m : Nat) (s : DS) : hoursF e h (m + 1) s = hourF e (h + m) (hoursF e h m s) := by
  unfold hoursF
  rw [yi_s]
  generalize yi m (hoursS e h) s = u
  obtain ⟨vi, lt, su, la, pw, sh, cp, ha, co⟩ := u
  rfl
theorem hours_sh (e : ES) (h : Nat) (s : DS) : ∀ i, hoursF e h (i + 1) s = hoursF e (h + 1) i (hourF e h s) := by
  intro i
  induction i with
  | zero => rfl
  | succ i ih =>
    rw [hours_sx e h (i + 1) s, hours_sx e (h + 1) i (hourF e h s), ih, show h + (i + 1) = h + 1 + i by omega]
theorem hit_P {e : ES} {h : Nat} {s : DS} {k i : Nat} : hitP e h s k i = true ↔ ¬ sLa (hoursF e h i s) k ≤ sLa s k := by
  unfold hitP
  split
  · rename_i c; simp [c]
  · rename_i c; simp [c]
theorem hit_F {e : ES} {h : Nat} {s : DS} {k i : Nat} : hitP e h s k i = false ↔ sLa (hoursF e h i s) k ≤ sLa s k := by
  rw [← Bool.not_eq_true, hit_P, Decidable.not_not]
theorem la_t {e : ES} {h : Nat} {s : DS} (hJ : Jv e h s) (hh : h ≤ 10000) (k : Nat) : (sLa (hourF e h s) k).toInt = (sLa s k).toInt + (sLa (hourF e h s) k - sLa s k).toInt := by
  obtain ⟨-, -, ⟨c1, -⟩, -⟩ := hour_sp hJ hh
  have x := c1 k
  have y : rg (sLa s k) 0 (99 * h) := hJ.2.2.1.2.2.2.1 k
  have z : rg (sVi s k) 0 99 := hJ.2.2.1.1 k
  unfold rg at y z
  have e1 : sLa (hourF e h s) k = sLa s k + (sLa (hourF e h s) k - sLa s k) := by grind
  have e2 := t_add (x := sLa s k) (y := sLa (hourF e h s) k - sLa s k) (by omega) (by omega)
  rw [← e1] at e2
  exact e2
theorem nI_1c : nI 1 = 1 := rfl
theorem q_yard {e : ES} {h : Nat} {s : DS} (hJ : Jv e h s) (hh : h ≤ 10000) {k : Nat} (hk : k < eN e) :
    ¬ itsF e s (hourF e h s) k < 0 ∧ ¬ yrow e s k 1 - itsF e s (hourF e h s) k < 0 ∧ ¬ 8 * nI (eNc e) < itsF e s (hourF e h s) k ∧
    ((itsF e s (hourF e h s) k ≤ 0 ∧ ¬ hitF e h s k = 1) ∨ (¬ itsF e s (hourF e h s) k ≤ 0 ∧ hitF e h s k = 1)) ∧
    yrow e (hourF e h s) k 1 = (if enF h = 0 then yrow e s k 1 - itsF e s (hourF e h s) k else if yrow e s k 1 - itsF e s (hourF e h s) k ≤ 0 then yrow e s k 1 - itsF e s (hourF e h s) k else if 99 ≤ yrow e s k 1 - itsF e s (hourF e h s) k then yrow e s k 1 - itsF e s (hourF e h s) k else yrow e s k 1 - itsF e s (hourF e h s) k + 1) ∧
    yrow e (hourF e h s) k 4 = (if enF h = 0 then yrow e s k 4 + itsF e s (hourF e h s) k else 0) ∧
    yrow e (hourF e h s) k 5 = (if enF h = 0 then yrow e s k 5 + loudF e s (hourF e h s) k else 0) ∧
    (hitF e h s k ≤ 1 ∨ hitF e (h + 1) (hourF e h s) k = hitF e h s k - 1) := by
  obtain ⟨-, -, ⟨c1, -⟩, ⟨d1, -, d3, -, d5, -⟩, -⟩ := hour_sp hJ hh
  have hla := la_t hJ hh k
  have ei : itsF e s (hourF e h s) k = sLa (hourF e h s) k - sLa s k := rfl
  have e1 : yrow e s k 1 = sVi s k := rfl
  have z : rg (sVi s k) 0 99 := hJ.2.2.1.1 k
  have hnc : eNc e ≤ 20 := hJ.1.2.2
  have x := c1 k
  unfold rg at z
  rw [ei, e1]
  have hiff : hitP e h s k 1 = true ↔ ¬ sLa (hourF e h s) k - sLa s k ≤ 0 := by
    rw [hit_P, hours_1, t_le, t_le, t_0]
    omega
  have hmul : (8 * nI (eNc e)).toInt = 8 * (eNc e : Int) := by
    have e8 : (8 : Int32).toInt = 8 := rfl
    rw [t_mul (by rw [e8, nI_toInt (by omega)]; omega) (by rw [e8, nI_toInt (by omega)]; omega), e8, nI_toInt (by omega)]
  refine ⟨by rw [t_lt, t_0]; omega, ?_, by rw [t_lt, hmul]; omega, ?_, ?_, d3 k hk, d5 k hk, ?_⟩
  · rw [t_lt, t_0, t_sub (by omega) (by omega)]; omega
  · by_cases c : sLa (hourF e h s) k - sLa s k ≤ 0
    · refine Or.inl ⟨c, ?_⟩
      have hP : hitP e h s k 1 = false := by
        rw [← Bool.not_eq_true, hiff]; exact fun q => q c
      unfold hitF
      rw [first_miss rfl hP]
      rcases first_sp (P := hitP e h s k) 59 (1 + 1) with g | ⟨m, g1, g2, g3, -⟩
      · rw [g]; decide
      · rw [g3, t_eq, nI_toInt (by omega), t_1]; omega
    · refine Or.inr ⟨c, ?_⟩
      unfold hitF
      rw [first_hit (by omega) (hiff.mpr c)]
      rfl
  · have := d1 k hk
    have e2 : yrow e (hourF e h s) k 1 = sVi (hourF e h s) k := rfl
    rw [e2, this]
    rfl
  · unfold hitF
    rcases first_sp (P := hitP e h s k) 60 1 with g | ⟨m, g1, g2, g3, g4, g5⟩
    · rw [g]; exact Or.inl (by decide)
    · by_cases hm : m = 1
      · rw [g3, hm]; exact Or.inl (by decide)
      · refine Or.inr ?_
        have p1 := g5 1 (by omega) (by omega)
        have c : sLa (hourF e h s) k - sLa s k ≤ 0 := by
          rw [← Bool.not_eq_true, hiff, Decidable.not_not] at p1
          exact p1
        have ela : sLa (hourF e h s) k = sLa s k := by
          rw [t_le, t_0] at c
          rw [t_eq]; omega
        have hsh : ∀ i, hitP e (h + 1) (hourF e h s) k i = hitP e h s k (i + 1) := fun i => by
          unfold hitP
          rw [hours_sh, ela]
        rw [g3, first_at (P := hitP e (h + 1) (hourF e h s) k) (m := m - 1) (by rw [hsh, show m - 1 + 1 = m by omega]; exact g4) 60 1 (by omega) (by omega) (fun q q1 q2 => by rw [hsh]; exact g5 (q + 1) (by omega) (by omega))]
        have em : nI m = nI (m - 1) + 1 := by rw [← nI_succ, show m - 1 + 1 = m by omega]
        rw [em]
        grind
theorem q_sum {e : ES} {h : Nat} {s : DS} (hJ : Jv e h s) (hh : h ≤ 10000) :
    yi (eN e) (sumS e s (hourF e h s)) 0 = sumF (sLa (hourF e h s)) (eN e) - sumF (sLa s) (eN e) ∧ totF e (h + 1) (hourF e h s) 2 = yi (eN e) (dueS e h s (hourF e h s)) (totF e h s 2) ∧ ¬ 8 * nI (eNc e) * nI (eN e) < sumF (sLa (hourF e h s)) (eN e) - sumF (sLa s) (eN e) := by
  obtain ⟨-, -, ⟨c1, -⟩, -, hco⟩ := hour_sp hJ hh
  obtain ⟨⟨n1, n2, n3⟩, -⟩ := hJ
  generalize hourF e h s = t at *
  have s1 : ∀ n, yi n (sumS e s t) 0 = sumF (sLa t) n - sumF (sLa s) n := by
    intro n
    induction n with
    | zero =>
      show (0 : Int32) = (0 : Int32) - 0
      decide
    | succ n ih =>
      rw [yi_s, ih]
      show sumF (sLa t) n - sumF (sLa s) n + (sLa t n - sLa s n) = sumF (sLa t) n + sLa t n - (sumF (sLa s) n + sLa s n)
      grind
  refine ⟨s1 _, ?_, ?_⟩
  · have e1 : totF e (h + 1) t 2 = sCo t := rfl
    have e2 : totF e h s 2 = sCo s := rfl
    rw [e1, e2, hco]
    by_cases c : enF h = 0
    · rw [if_pos c]
      have : ∀ n, yi n (dueS e h s t) (sCo s) = sCo s := by
        intro n
        induction n with
        | zero => rfl
        | succ n ih =>
          rw [yi_s, ih]
          unfold dueS
          rw [if_pos c]
      exact (this _).symm
    · rw [if_neg c]
      have : ∀ n, sCo s + yi n (gaH e s t) 0 = yi n (dueS e h s t) (sCo s) := by
        intro n
        induction n with
        | zero => exact Int32.add_zero _
        | succ n ih =>
          rw [yi_s, yi_s, ← ih]
          generalize yi n (gaH e s t) 0 = a
          have hl : loudF e s t n = louH e s t n := rfl
          have h3 : yrow e s n 3 = bI (eIn e n) := rfl
          have h4 : yrow e s n 4 = sLt s n := rfl
          have h5 : yrow e s n 5 = sSu s n := rfl
          have h6 : itsF e s t n = sLa t n - sLa s n := rfl
          unfold dueS gaH
          rw [if_neg c, hl, h3, h4, h5, h6]
          generalize (sLt s n + (sLa t n - sLa s n)) / 2 = L
          generalize louH e s t n = M
          cases eIn e n with
          | true =>
            rw [cond_true, if_neg (fun q => q rfl)]
            grind
          | false =>
            rw [cond_false, if_pos (by decide)]
            grind
      exact this _
  · have hT : (yi (eN e) (sumS e s t) 0).toInt = isum (fun k => (sLa t k - sLa s k).toInt) (eN e) := by
      have hb : (8 * (eNc e : Int)) * (eN e : Int) ≤ 1600 := by
        have h1 : 8 * (eNc e : Int) ≤ 160 := by omega
        have h2 : (eN e : Int) ≤ 10 := by omega
        have h3 : (0 : Int) ≤ eN e := by omega
        calc (8 * (eNc e : Int)) * (eN e : Int) ≤ 160 * (eN e : Int) := Int.mul_le_mul_of_nonneg_right h1 h3
          _ ≤ 1600 := by omega
      exact sum_t (f := fun k => sLa t k - sLa s k) (m := 8 * (eNc e)) (by omega) (fun k _ => ⟨(c1 k).1, (c1 k).2.1⟩)
    have hN := (isum_nn (f := fun k => (sLa t k - sLa s k).toInt) (n := eN e) (m := 8 * (eNc e)) (fun k _ => ⟨(c1 k).1, (c1 k).2.1⟩)).2
    have hb : (8 * (eNc e : Int)) * (eN e : Int) ≤ 1600 ∧ 0 ≤ (8 * (eNc e : Int)) * (eN e : Int) := by
      have h1 : 8 * (eNc e : Int) ≤ 160 := by omega
      have h3 : (0 : Int) ≤ eN e := by omega
      refine ⟨?_, Int.mul_nonneg (by omega) h3⟩
      calc (8 * (eNc e : Int)) * (eN e : Int) ≤ 160 * (eN e : Int) := Int.mul_le_mul_of_nonneg_right h1 h3
        _ ≤ 1600 := by omega
    have e8 : (8 : Int32).toInt = 8 := rfl
    have m1 : (8 * nI (eNc e)).toInt = 8 * (eNc e : Int) := by
      rw [t_mul (by rw [e8, nI_toInt (by omega)]; omega) (by rw [e8, nI_toInt (by omega)]; omega), e8, nI_toInt (by omega)]
    have m2 : (8 * nI (eNc e) * nI (eN e)).toInt = 8 * (eNc e : Int) * (eN e : Int) := by
      rw [t_mul (by rw [m1, nI_toInt (by omega)]; omega) (by rw [m1, nI_toInt (by omega)]; omega), m1, nI_toInt (by omega)]
    rw [← s1, t_lt, m2, hT]
    omega
