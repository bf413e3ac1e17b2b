-- PURE: the nearest cloud; a shot
/-- a cloud that a cannon at p can reach within d -/
def El (cp ha : fI) (p : Int32) (d : Int) (k : Nat) : Prop := gnF cp k = false ∧ 0 < (ha k).toInt ∧ (ab (cp k - p)).toInt < d
theorem near_sp {cp ha : fI} {p r : Int32} {d : Int} (hd : (r + 1).toInt = d) : ∀ n,
    (yi n (nearS cp ha p) (-1, r + 1) = (-1, r + 1) ∧ ∀ k, k < n → ¬ El cp ha p d k) ∨
    ∃ i, i < n ∧ yi n (nearS cp ha p) (-1, r + 1) = (nI i, ab (cp i - p)) ∧ El cp ha p d i ∧ ∀ k, k < n → El cp ha p d k → (ab (cp i - p)).toInt ≤ (ab (cp k - p)).toInt ∧ ((ab (cp k - p)).toInt = (ab (cp i - p)).toInt → i ≤ k) := by
  intro n
  induction n with
  | zero => exact Or.inl ⟨rfl, fun k hk => absurd hk (Nat.not_lt_zero k)⟩
  | succ n ih =>
    rw [yi_s]
    generalize yi n (nearS cp ha p) (-1, r + 1) = w at ih ⊢
    -- what stays if cloud n is no better
    have keep : (∀ i, i < n → w = (nI i, ab (cp i - p)) → El cp ha p d n → (ab (cp i - p)).toInt ≤ (ab (cp n - p)).toInt) → (w = (-1, r + 1) → ¬ El cp ha p d n) →
        ((w = (-1, r + 1) ∧ ∀ k, k < n + 1 → ¬ El cp ha p d k) ∨ ∃ i, i < n + 1 ∧ w = (nI i, ab (cp i - p)) ∧ El cp ha p d i ∧ ∀ k, k < n + 1 → El cp ha p d k → (ab (cp i - p)).toInt ≤ (ab (cp k - p)).toInt ∧ ((ab (cp k - p)).toInt = (ab (cp i - p)).toInt → i ≤ k)) := by
      intro h1 h2
      rcases ih with ⟨e, q⟩ | ⟨i, hi, e, q1, q2⟩
      · refine Or.inl ⟨e, fun k hk => ?_⟩
        by_cases ek : k = n
        · rw [ek]; exact h2 e
        · exact q k (by omega)
      · refine Or.inr ⟨i, by omega, e, q1, fun k hk hE => ?_⟩
        by_cases ek : k = n
        · rw [ek] at hE ⊢
          exact ⟨h1 i hi e hE, fun _ => by omega⟩
        · exact q2 k (by omega) hE
    unfold nearS
    cases hg : gnF cp n with
    | true =>
      rw [cond_true]
      exact keep (fun i _ _ hE => absurd hE.1 (by rw [hg]; decide)) (fun _ hE => absurd hE.1 (by rw [hg]; decide))
    | false =>
      rw [cond_false]
      by_cases h0 : ha n ≤ 0
      · rw [if_pos h0]
        rw [t_le, t_0] at h0
        exact keep (fun i _ _ hE => absurd hE.2.1 (by omega)) (fun _ hE => absurd hE.2.1 (by omega))
      · rw [if_neg h0]
        rw [t_le, t_0] at h0
        by_cases hb : w.2 ≤ ab (cp n - p)
        · rw [if_pos hb]
          rw [t_le] at hb
          refine keep (fun i _ e _ => ?_) (fun e hE => ?_)
          · rw [e] at hb; exact hb
          · have := hE.2.2
            rw [e] at hb
            have hb' : (r + 1).toInt ≤ (ab (cp n - p)).toInt := hb
            omega
        · rw [if_neg hb]
          rw [t_le] at hb
          have hlt : (ab (cp n - p)).toInt < d ∧ ∀ k, k < n → El cp ha p d k → (ab (cp n - p)).toInt < (ab (cp k - p)).toInt := by
            rcases ih with ⟨e, q⟩ | ⟨i, hi, e, q1, q2⟩
            · rw [e] at hb
              have hb' : ¬ (r + 1).toInt ≤ (ab (cp n - p)).toInt := hb
              exact ⟨by omega, fun k hk hE => absurd hE (q k hk)⟩
            · rw [e] at hb
              have hb' : ¬ (ab (cp i - p)).toInt ≤ (ab (cp n - p)).toInt := hb
              have h9 := q1.2.2
              exact ⟨by omega, fun k hk hE => by have := (q2 k hk hE).1; omega⟩
          refine Or.inr ⟨n, by omega, rfl, ⟨hg, by omega, hlt.1⟩, fun k hk hE => ?_⟩
          by_cases ek : k = n
          · rw [ek]; exact ⟨Int.le_refl _, fun _ => Nat.le_refl _⟩
          · have := hlt.2 k (by omega) hE
            exact ⟨by omega, fun q => by omega⟩
theorem t_ne1 {i : Nat} (hi : i < 1000) : ¬ nI i = -1 := fun q => by
  have := nI_toInt (n := i) (by omega)
  rw [q, t_m1] at this
  omega
/-- what a cannon aims at -/
theorem targ_sp {kp rg1 pw cp ha : fI} {nc j : Nat} (hr : rg (rg1 j) 0 9) :
    (targF kp rg1 pw cp ha nc j = -1 ∧ ((pw j).toInt ≤ 0 ∨ ∀ k, k < nc → ¬ El cp ha (kp j) ((rg1 j).toInt + 1) k)) ∨
    ∃ t, t < nc ∧ targF kp rg1 pw cp ha nc j = nI t ∧ 0 < (pw j).toInt ∧ El cp ha (kp j) ((rg1 j).toInt + 1) t ∧ ∀ k, k < nc → El cp ha (kp j) ((rg1 j).toInt + 1) k → (ab (cp t - kp j)).toInt ≤ (ab (cp k - kp j)).toInt ∧ ((ab (cp k - kp j)).toInt = (ab (cp t - kp j)).toInt → t ≤ k) := by
  unfold rg at hr
  unfold targF
  by_cases hp : pw j ≤ 0
  · rw [if_pos hp]
    rw [t_le, t_0] at hp
    exact Or.inl ⟨rfl, Or.inl hp⟩
  · rw [if_neg hp]
    rw [t_le, t_0] at hp
    have hd : (rg1 j + 1).toInt = (rg1 j).toInt + 1 := by rw [t_add (by rw [t_1]; omega) (by rw [t_1]; omega), t_1]
    unfold nearF
    rcases near_sp (cp := cp) (ha := ha) (p := kp j) hd nc with ⟨e, q⟩ | ⟨i, hi, e, q1, q2⟩
    · rw [e]; exact Or.inl ⟨rfl, Or.inr q⟩
    · rw [e]; exact Or.inr ⟨i, hi, rfl, by omega, q1, q2⟩
-- suits of a shot
theorem hear_at (pl : fI) (me : fB) (p : Int32) (su : fI) : ∀ n k, hearF pl me p n su k = if k < n then (cond (me k) (su k) (if 2 < ab (pl k - p) then su k else su k + 1)) else su k := by
  intro n
  induction n with
  | zero => intro k; rw [if_neg (Nat.not_lt_zero k)]; rfl
  | succ n ih =>
    intro k
    have hs : hearF pl me p (n + 1) su = hearS pl me p n (hearF pl me p n su) := rfl
    rw [hs]
    have hn := ih n
    rw [if_neg (Nat.lt_irrefl n)] at hn
    have hk := ih k
    generalize hearF pl me p n su = v at hn hk ⊢
    unfold hearS
    by_cases e : k = n
    · subst e
      rw [if_pos (Nat.lt_succ_self k)]
      cases me k with
      | true => rw [cond_true, cond_true]; exact hn
      | false =>
        rw [cond_false, cond_false]
        split
        · exact hn
        · rw [upd_at, if_pos rfl, hn]
    · have ec : (k < n + 1) ↔ (k < n) := ⟨fun q => by omega, fun q => by omega⟩
      simp only [ec]
      rw [← hk]
      cases me n with
      | true => rw [cond_true]
      | false =>
        rw [cond_false]
        split
        · rfl
        · rw [upd_at, if_neg e]
/-- a suit more by the shot of cannon c -/
def louC (shf sh kp pl : fI) (me : fB) (k c : Nat) (a : Int32) : Int32 := if shf c ≤ sh c then a else if 3 ≤ ab (kp c - pl k) then a else if ¬ bI (me k) = 0 then a else a + Int32.ofInt 1
def SP (cq kp pl pw sh ha su : fI) (me : fB) (n nc i : Nat) (v : fI × fI × fI × fI) : Prop :=
  (∀ k, v.1 k = pw k - (v.2.1 k - sh k) ∧ 0 ≤ (v.2.1 k - sh k).toInt ∧ (v.2.1 k - sh k).toInt ≤ 1 ∧ 0 ≤ (v.1 k).toInt) ∧ (∀ k, i ≤ k → v.1 k = pw k ∧ v.2.1 k = sh k) ∧
  (∀ k, 0 ≤ (v.2.2.1 k).toInt ∧ (v.2.2.1 k).toInt ≤ (ha k).toInt) ∧ (∀ k, gnF cq k = true → v.2.2.1 k = ha k) ∧
  (∀ k, k < n → v.2.2.2 k = su k + yi i (louC v.2.1 sh kp pl me k) 0) ∧ (∀ k, n ≤ k → v.2.2.2 k = su k) ∧
  isum (fun k => (v.2.1 k - sh k).toInt) i ≤ isum (fun k => (ha k).toInt - (v.2.2.1 k).toInt) nc
theorem ab_sym {x y : Int32} (h1 : rg x (-10) 100) (h2 : rg y (-10) 100) : (ab (x - y)).toInt = max (x.toInt - y.toInt) (y.toInt - x.toInt) := by
  unfold rg at h1 h2
  have e : (x - y).toInt = x.toInt - y.toInt := t_sub (by omega) (by omega)
  rw [ab_t (by omega) (by omega), e]
  omega
theorem shoot_at {cq kp rg1 pl pw sh ha su : fI} {me : fB} {n nc : Nat} (hr : ∀ k, rg (rg1 k) 0 9) (hkp : ∀ k, rg (kp k) 0 29) (hpl : ∀ k, rg (pl k) 0 29) (hcq : ∀ k, rg (cq k) (-5) 34) (hpw : ∀ k, rg (pw k) 0 60) (hsh : ∀ k, rg (sh k) 0 100000) (hh : ∀ k, rg (ha k) 0 60) (hnc : nc ≤ 1000) :
    ∀ i, SP cq kp pl pw sh ha su me n nc i (shootF kp rg1 cq pl me nc n i (pw, sh, ha, su)) := by
  intro i
  induction i with
  | zero =>
    have e0 : ∀ x : Int32, x - x = 0 := fun x => by grind
    refine ⟨fun k => ?_, fun k _ => ⟨rfl, rfl⟩, fun k => ?_, fun k _ => rfl, fun k _ => ?_, fun k _ => rfl, ?_⟩
    · show pw k = pw k - (sh k - sh k) ∧ 0 ≤ (sh k - sh k).toInt ∧ (sh k - sh k).toInt ≤ 1 ∧ 0 ≤ (pw k).toInt
      rw [e0, Int32.sub_zero, t_0]
      have := hpw k
      unfold rg at this
      exact ⟨rfl, by omega, by omega, this.1⟩
    · have := hh k
      unfold rg at this
      exact ⟨this.1, Int.le_refl _⟩
    · show su k = su k + 0
      rw [Int32.add_zero]
    · have := (isum_nn (f := fun k => (ha k).toInt - (ha k).toInt) (n := nc) (m := 0) (fun k _ => by show 0 ≤ (ha k).toInt - (ha k).toInt ∧ (ha k).toInt - (ha k).toInt ≤ 0; omega)).1
      exact this
  | succ i ih =>
    have hs : shootF kp rg1 cq pl me nc n (i + 1) (pw, sh, ha, su) = shootS kp rg1 cq pl me nc n i (shootF kp rg1 cq pl me nc n i (pw, sh, ha, su)) := rfl
    rw [hs]
    obtain ⟨s1, s2, s3, s4, s5, s6, s7⟩ := ih
    generalize shootF kp rg1 cq pl me nc n i (pw, sh, ha, su) = v at s1 s2 s3 s4 s5 s6 s7 ⊢
    have hvi := s2 i (Nat.le_refl i)
    unfold shootS
    have hri := hr i
    rcases targ_sp (kp := kp) (pw := v.1) (cp := cq) (ha := v.2.2.1) (nc := nc) (j := i) hri with ⟨e, q⟩ | ⟨t, ht, e, q1, q2, q3⟩
    · rw [e, if_pos (by decide)]
      have e0 : ∀ x : Int32, x - x = 0 := fun x => by grind
      refine ⟨s1, fun k hk => s2 k (by omega), s3, s4, fun k hk => ?_, s6, ?_⟩
      · rw [s5 k hk, yi_s]
        have el : louC v.2.1 sh kp pl me k i (yi i (louC v.2.1 sh kp pl me k) 0) = yi i (louC v.2.1 sh kp pl me k) 0 := by
          unfold louC
          rw [if_pos (by rw [hvi.2, t_le]; exact Int.le_refl _)]
        rw [el]
      · rw [isum_s]
        have e9 : (v.2.1 i - sh i).toInt = 0 := by rw [hvi.2, e0, t_0]
        rw [e9]
        omega
    · have hnt : ¬ nI t < 0 := nI_pos (by omega)
      have et : (nI t).toNatClampNeg = t := nI_clamp (by omega)
      rw [e, if_neg hnt, et]
      have hsi := hsh i
      have hkpi := hkp i
      have hcqt := hcq t
      have hht := hh t
      have h3t := s3 t
      unfold rg at hri hsi hht
      have e1 : sh i + 1 - sh i = 1 := by grind
      have es1 : (sh i + 1).toInt = (sh i).toInt + 1 := by rw [t_add (by rw [t_1]; omega) (by rw [t_1]; omega), t_1]
      have hab := ab_sym (x := cq t) (y := kp i) (rg_w hcqt (by omega) (by omega)) (rg_w hkpi (by omega) (by omega))
      have hel := q2.2.2
      have er : (rg1 i + 1 - ab (cq t - kp i)).toInt = (rg1 i).toInt + 1 - (ab (cq t - kp i)).toInt := by
        have e2 : (rg1 i + 1).toInt = (rg1 i).toInt + 1 := by rw [t_add (by rw [t_1]; omega) (by rw [t_1]; omega), t_1]
        rw [t_sub (by rw [e2]; omega) (by rw [e2]; omega), e2]
      have em : (mx (v.2.2.1 t - (rg1 i + 1 - ab (cq t - kp i))) 0).toInt = max ((v.2.2.1 t).toInt - ((rg1 i).toInt + 1 - (ab (cq t - kp i)).toInt)) 0 := by
        rw [mx_t, t_0, t_sub (by rw [er]; omega) (by rw [er]; omega), er]
      refine ⟨fun k => ?_, fun k hk => ?_, fun k => ?_, fun k hk => ?_, fun k hk => ?_, fun k hk => ?_, ?_⟩
      · show upd v.1 i (v.1 i - 1) k = pw k - (upd v.2.1 i (v.2.1 i + 1) k - sh k) ∧ 0 ≤ (upd v.2.1 i (v.2.1 i + 1) k - sh k).toInt ∧ (upd v.2.1 i (v.2.1 i + 1) k - sh k).toInt ≤ 1 ∧ 0 ≤ (upd v.1 i (v.1 i - 1) k).toInt
        rw [upd_at, upd_at]
        by_cases ek : k = i
        · rw [if_pos ek, if_pos ek, ek, hvi.1, hvi.2, e1, t_1]
          rw [hvi.1] at q1
          have := hpw i
          unfold rg at this
          exact ⟨rfl, by omega, by omega, by rw [t_sub (by rw [t_1]; omega) (by rw [t_1]; omega), t_1]; omega⟩
        · rw [if_neg ek, if_neg ek]
          exact s1 k
      · show upd v.1 i (v.1 i - 1) k = pw k ∧ upd v.2.1 i (v.2.1 i + 1) k = sh k
        rw [upd_at, upd_at, if_neg (by omega), if_neg (by omega)]
        exact s2 k (by omega)
      · show 0 ≤ (upd v.2.2.1 t (mx (v.2.2.1 t - (rg1 i + 1 - ab (cq t - kp i))) 0) k).toInt ∧ (upd v.2.2.1 t (mx (v.2.2.1 t - (rg1 i + 1 - ab (cq t - kp i))) 0) k).toInt ≤ (ha k).toInt
        rw [upd_at]
        by_cases ek : k = t
        · rw [if_pos ek, em, ek]
          omega
        · rw [if_neg ek]
          exact s3 k
      · show upd v.2.2.1 t (mx (v.2.2.1 t - (rg1 i + 1 - ab (cq t - kp i))) 0) k = ha k
        rw [upd_at, if_neg (fun ek => by rw [ek, q2.1] at hk; cases hk)]
        exact s4 k hk
      · show hearF pl me (kp i) n v.2.2.2 k = su k + yi (i + 1) (louC (upd v.2.1 i (v.2.1 i + 1)) sh kp pl me k) 0
        rw [hear_at, if_pos hk, s5 k hk, yi_s]
        have ec : yi i (louC (upd v.2.1 i (v.2.1 i + 1)) sh kp pl me k) 0 = yi i (louC v.2.1 sh kp pl me k) 0 := yi_congr (fun c hc a => by
          have e9 : upd v.2.1 i (v.2.1 i + 1) c = v.2.1 c := by rw [upd_at, if_neg (show ¬ c = i by omega)]
          unfold louC
          rw [e9]) 0
        rw [ec]
        generalize yi i (louC v.2.1 sh kp pl me k) 0 = a
        unfold louC
        rw [upd_at, if_pos rfl, hvi.2, if_neg (show ¬ sh i + 1 ≤ sh i by rw [t_le, es1]; omega)]
        have g1 := ab_sym (x := kp i) (y := pl k) (rg_w hkpi (by omega) (by omega)) (rg_w (hpl k) (by omega) (by omega))
        have g2 := ab_sym (x := pl k) (y := kp i) (rg_w (hpl k) (by omega) (by omega)) (rg_w hkpi (by omega) (by omega))
        by_cases far : 2 < ab (pl k - kp i)
        · rw [if_pos far, if_pos (show 3 ≤ ab (kp i - pl k) by rw [t_lt, t_2c] at far; rw [t_le, t_3c]; omega)]
          cases me k <;> rfl
        · rw [if_neg far, if_neg (show ¬ 3 ≤ ab (kp i - pl k) by rw [t_lt, t_2c] at far; rw [t_le, t_3c]; omega)]
          cases me k with
          | true => rw [cond_true, if_pos (by decide)]
          | false =>
            rw [cond_false, if_neg (by decide)]
            show su k + a + 1 = su k + (a + 1)
            grind
      · show hearF pl me (kp i) n v.2.2.2 k = su k
        rw [hear_at, if_neg (by omega)]
        exact s6 k hk
      · show isum (fun k => (upd v.2.1 i (v.2.1 i + 1) k - sh k).toInt) (i + 1) ≤ isum (fun k => (ha k).toInt - (upd v.2.2.1 t (mx (v.2.2.1 t - (rg1 i + 1 - ab (cq t - kp i))) 0) k).toInt) nc
        rw [isum_s]
        have a1 : isum (fun k => (upd v.2.1 i (v.2.1 i + 1) k - sh k).toInt) i ≤ isum (fun k => (v.2.1 k - sh k).toInt) i := isum_le (fun k hk => by
          show (upd v.2.1 i (v.2.1 i + 1) k - sh k).toInt ≤ (v.2.1 k - sh k).toInt
          rw [upd_at, if_neg (by omega)]; exact Int.le_refl _)
        have a2 : (upd v.2.1 i (v.2.1 i + 1) i - sh i).toInt = 1 := by rw [upd_at, if_pos rfl, hvi.2, e1, t_1]
        have a3 := isum_upd (f := fun k => (ha k).toInt - (upd v.2.2.1 t (mx (v.2.2.1 t - (rg1 i + 1 - ab (cq t - kp i))) 0) k).toInt) (g := fun k => (ha k).toInt - (v.2.2.1 k).toInt) ht (fun k hk => by
          show (ha k).toInt - (upd v.2.2.1 t (mx (v.2.2.1 t - (rg1 i + 1 - ab (cq t - kp i))) 0) k).toInt = (ha k).toInt - (v.2.2.1 k).toInt
          rw [upd_at, if_neg hk])
        simp only [upd_at, if_true] at a3
        rw [em] at a3
        have a4 := q2.2.1
        rw [a2]
        simp only [upd_at] at a1 ⊢
        omega
