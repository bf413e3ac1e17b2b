-- PURE: an hour, told
def gaS' (ins : fB) (lt su : fI) (k : Nat) (a : Int32) : Int32 := (cond (ins k) (a + (1 - lt k / 2)) a) - su k
def grow (x : Int32) : Int32 := if x ≤ 0 then x else if 99 ≤ x then x else x + 1
theorem close_at (ins : fB) (vi lt su : fI) : ∀ n, (closeF ins n (0, vi, lt, su)).1 = yi n (gaS' ins lt su) 0 ∧ ∀ k, (closeF ins n (0, vi, lt, su)).2.1 k = (if k < n then grow (vi k) else vi k) ∧ (closeF ins n (0, vi, lt, su)).2.2.1 k = (if k < n then 0 else lt k) ∧ (closeF ins n (0, vi, lt, su)).2.2.2 k = (if k < n then 0 else su k) := by
  intro n
  induction n with
  | zero =>
    refine ⟨rfl, fun k => ?_⟩
    rw [if_neg (Nat.not_lt_zero k), if_neg (Nat.not_lt_zero k), if_neg (Nat.not_lt_zero k)]
    exact ⟨rfl, rfl, rfl⟩
  | succ n ih =>
    have hs : closeF ins (n + 1) (0, vi, lt, su) = closeS ins n (closeF ins n (0, vi, lt, su)) := rfl
    rw [hs]
    obtain ⟨h0, hk⟩ := ih
    generalize closeF ins n (0, vi, lt, su) = v at h0 hk ⊢
    have hn := hk n
    rw [if_neg (Nat.lt_irrefl n), if_neg (Nat.lt_irrefl n), if_neg (Nat.lt_irrefl n)] at hn
    unfold closeS
    refine ⟨?_, fun k => ?_⟩
    · show cond (ins n) (v.1 + (1 - v.2.2.1 n / 2)) v.1 - v.2.2.2 n = _
      rw [yi_s, ← h0, hn.2.1, hn.2.2]
      rfl
    · show (if v.2.1 n < 1 then v.2.1 else if 99 ≤ v.2.1 n then v.2.1 else upd v.2.1 n (v.2.1 n + 1)) k = _ ∧ upd v.2.2.1 n 0 k = _ ∧ upd v.2.2.2 n 0 k = _
      by_cases e : k = n
      · subst e
        rw [if_pos (Nat.lt_succ_self k), if_pos (Nat.lt_succ_self k), if_pos (Nat.lt_succ_self k), upd_at, upd_at, if_pos rfl, if_pos rfl]
        refine ⟨?_, rfl, rfl⟩
        rw [hn.1]
        unfold grow
        by_cases c1 : vi k < 1
        · rw [if_pos c1, if_pos (show vi k ≤ 0 by rw [t_lt, t_1] at c1; rw [t_le, t_0]; omega), hn.1]
        · rw [if_neg c1, if_neg (show ¬ vi k ≤ 0 by rw [t_lt, t_1] at c1; rw [t_le, t_0]; omega)]
          by_cases c2 : 99 ≤ vi k
          · rw [if_pos c2, if_pos c2, hn.1]
          · rw [if_neg c2, if_neg c2, upd_at, if_pos rfl]
      · have ec : (k < n + 1) ↔ (k < n) := ⟨fun q => by omega, fun q => by omega⟩
        simp only [ec]
        rw [upd_at, upd_at, if_neg e, if_neg e, ← (hk k).2.1, ← (hk k).2.2]
        refine ⟨?_, rfl, rfl⟩
        rw [← (hk k).1]
        split
        · rfl
        · split
          · rfl
          · rw [upd_at, if_neg e]
theorem enF_0 {h : Nat} : enF h = 0 ↔ ¬ nI (h % 24) = 23 := by
  unfold enF
  by_cases c : nI (h % 24) = 23
  · rw [if_neg (fun q => q c)]
    exact ⟨fun q => absurd q (by decide), fun q => absurd c q⟩
  · rw [if_pos c]
    exact ⟨fun _ => c, fun _ => rfl⟩
/-- suits of an hour by the shots of all cannons -/
def louH (e : ES) (s t : DS) (k : Nat) : Int32 := yi (eNk e) (louC (sSh t) (sSh s) (eKp e) (ePl e) (eMe e) k) 0
def gaH (e : ES) (s t : DS) (k : Nat) (a : Int32) : Int32 := (cond (eIn e k) (a + (1 - (sLt s k + (sLa t k - sLa s k)) / 2)) a) - (sSu s k + louH e s t k)
def HS (e : ES) (h : Nat) (s t : DS) : Prop :=
  ((∀ k, sCp t k = driveF (eDr e) (eWd e (h % 6)) (eNc e) (sCp s) k) ∧ (∀ k, 0 ≤ (sHa t k).toInt ∧ (sHa t k).toInt ≤ (sHa s k).toInt) ∧ (∀ k, gnF (sCp t) k = true → sHa t k = sHa s k)) ∧
  ((∀ k, sPw t k = sPw s k - (sSh t k - sSh s k) ∧ 0 ≤ (sSh t k - sSh s k).toInt ∧ (sSh t k - sSh s k).toInt ≤ 1 ∧ 0 ≤ (sPw t k).toInt) ∧ (∀ k, eNk e ≤ k → sPw t k = sPw s k ∧ sSh t k = sSh s k) ∧ isum (fun k => (sSh t k - sSh s k).toInt) (eNk e) ≤ isum (fun k => (sHa s k).toInt - (sHa t k).toInt) (eNc e)) ∧
  ((∀ k, 0 ≤ (sLa t k - sLa s k).toInt ∧ (sLa t k - sLa s k).toInt ≤ 8 * (eNc e) ∧ (sLa t k - sLa s k).toInt ≤ (sVi s k).toInt) ∧ (∀ k, eN e ≤ k → sLa t k = sLa s k)) ∧
  ((∀ k, k < eN e → sVi t k = if enF h = 0 then sVi s k - (sLa t k - sLa s k) else grow (sVi s k - (sLa t k - sLa s k))) ∧ (∀ k, eN e ≤ k → sVi t k = sVi s k - (sLa t k - sLa s k)) ∧
   (∀ k, k < eN e → sLt t k = if enF h = 0 then sLt s k + (sLa t k - sLa s k) else 0) ∧ (∀ k, eN e ≤ k → sLt t k = sLt s k + (sLa t k - sLa s k)) ∧
   (∀ k, k < eN e → sSu t k = if enF h = 0 then sSu s k + louH e s t k else 0) ∧ (∀ k, eN e ≤ k → sSu t k = sSu s k)) ∧
  sCo t = (if enF h = 0 then sCo s else sCo s + yi (eN e) (gaH e s t) 0)
theorem drive_rg {dr cp : fI} {w : Int32} {nc : Nat} (hd : ∀ k, rg (dr k) (-3) 3) (hw : rg w (-2) 2) (hc : ∀ k, rg (cp k) (-5) 34) : ∀ k, rg (driveF dr w nc cp k) (-5) 34 := by
  intro k
  rw [drive_at]
  have a := hd k
  have b := hc k
  unfold rg at a b hw ⊢
  by_cases c : k < nc
  · rw [if_pos c]
    cases g : gn (cp k) with
    | true => rw [cond_true]; exact b
    | false =>
      rw [cond_false]
      have := gn_f.mp g
      have e1 : (dr k + w).toInt = (dr k).toInt + w.toInt := t_add (by omega) (by omega)
      rw [t_add (by rw [e1]; omega) (by rw [e1]; omega), e1]
      omega
  · rw [if_neg c]; exact b
set_option maxHeartbeats 4000000 in
theorem hour_sp {e : ES} {h : Nat} {s : DS} (hJ : Jv e h s) (hh : h ≤ 10000) : HS e h s (hourF e h s) := by
  obtain ⟨⟨h1, h2, h3⟩, ⟨p1, p2, p3, p4, p5⟩, ⟨v1, v2, v3, v4, v5, v6, v7, v8⟩, ⟨z1, z2, z3⟩⟩ := hJ
  obtain ⟨pl, me, ins, n, kp, rg1, nk, dr, nc, wd⟩ := e
  obtain ⟨vi, lt, su, la, pw, sh, cp, ha, co⟩ := s
  simp only [eN, eNk, eNc, ePl, eKp, eRg, eDr, eWd, sVi, sLt, sSu, sLa, sPw, sSh, sCp, sHa] at h1 h2 h3 p1 p2 p3 p4 p5 v1 v2 v3 v4 v5 v6 v7 v8 z1 z2 z3
  have hcq := drive_rg (nc := nc) p4 (p5 (h % 6)) v7
  have hS := shoot_at (me := me) (n := n) (nc := nc) (su := su) p3 p2 p1 hcq v5 (fun k => rg_w (v6 k) (by omega) (by omega)) v8 (by omega) nk
  unfold hourF
  simp only
  generalize hcqe : driveF dr (wd (h % 6)) nc cp = cq at hcq hS ⊢
  generalize shootF kp rg1 cq pl me nc n nk (pw, sh, ha, su) = w1 at hS ⊢
  obtain ⟨s1, s2, s3, s4, s5, s6, s7⟩ := hS
  have hha1 : ∀ k, rg (w1.2.2.1 k) 0 60 := fun k => by
    have a := s3 k
    have b := v8 k
    unfold rg at b ⊢
    omega
  have hD := drop_at (cq := cq) (pl := pl) (ha := w1.2.2.1) (vi := vi) (lt := lt) (la := la) (n := n) v1 hha1 nc (by omega)
  generalize dropF cq pl n nc (w1.2.2.1, vi, lt, la) = w2 at hD ⊢
  obtain ⟨d1, d2, d3, d4, d5⟩ := hD
  obtain ⟨c0, ck⟩ := close_at ins w2.2.1 w2.2.2.1 w1.2.2.2 n
  generalize closeF ins n (0, w2.2.1, w2.2.2.1, w1.2.2.2) = w3 at c0 ck ⊢
  have hA : (∀ k, cq k = driveF dr (wd (h % 6)) nc cp k) ∧ (∀ k, 0 ≤ (w2.1 k).toInt ∧ (w2.1 k).toInt ≤ (ha k).toInt) ∧ (∀ k, gnF cq k = true → w2.1 k = ha k) := by
    refine ⟨fun k => by rw [hcqe], fun k => ?_, fun k hk => ?_⟩
    · have a := s3 k
      have b := d4 k
      omega
    · rw [d5 k hk, s4 k hk]
  have hB : (∀ k, w1.1 k = pw k - (w1.2.1 k - sh k) ∧ 0 ≤ (w1.2.1 k - sh k).toInt ∧ (w1.2.1 k - sh k).toInt ≤ 1 ∧ 0 ≤ (w1.1 k).toInt) ∧ (∀ k, nk ≤ k → w1.1 k = pw k ∧ w1.2.1 k = sh k) ∧ isum (fun k => (w1.2.1 k - sh k).toInt) nk ≤ isum (fun k => (ha k).toInt - (w2.1 k).toInt) nc := by
    refine ⟨s1, s2, Int.le_trans s7 (isum_le (fun k _ => ?_))⟩
    have := d4 k
    show (ha k).toInt - (w1.2.2.1 k).toInt ≤ (ha k).toInt - (w2.1 k).toInt
    omega
  have hC : yi n (gaS' ins w2.2.2.1 w1.2.2.2) 0 = yi n (fun k a => (cond (ins k) (a + (1 - (lt k + (w2.2.2.2 k - la k)) / 2)) a) - (su k + yi nk (louC w1.2.1 sh kp pl me k) 0)) 0 := yi_congr (fun k hk a => by
    unfold gaS'
    rw [(d1 k).2, s5 k hk]) 0
  by_cases hE : nI (h % 24) = 23
  · rw [if_pos hE]
    have hF : ¬ enF h = 0 := fun q => enF_0.mp q hE
    refine ⟨hA, hB, ⟨d2, d3⟩, ⟨fun k hk => ?_, fun k hk => ?_, fun k hk => ?_, fun k hk => ?_, fun k hk => ?_, fun k hk => ?_⟩, ?_⟩
    · rw [if_neg hF]
      show w3.2.1 k = grow (vi k - (w2.2.2.2 k - la k))
      rw [(ck k).1, if_pos hk, (d1 k).1]
    · show w3.2.1 k = vi k - (w2.2.2.2 k - la k)
      rw [(ck k).1, if_neg (by show ¬ k < n; have : n ≤ k := hk; omega), (d1 k).1]
    · rw [if_neg hF]
      show w3.2.2.1 k = 0
      rw [(ck k).2.1, if_pos hk]
    · show w3.2.2.1 k = lt k + (w2.2.2.2 k - la k)
      rw [(ck k).2.1, if_neg (by show ¬ k < n; have : n ≤ k := hk; omega), (d1 k).2]
    · rw [if_neg hF]
      show w3.2.2.2 k = 0
      rw [(ck k).2.2, if_pos hk]
    · show w3.2.2.2 k = su k
      rw [(ck k).2.2, if_neg (by show ¬ k < n; have : n ≤ k := hk; omega)]
      exact s6 k hk
    · rw [if_neg hF]
      show co + w3.1 = co + yi n (gaH (pl, me, ins, n, kp, rg1, nk, dr, nc, wd) (vi, lt, su, la, pw, sh, cp, ha, co) (w3.2.1, w3.2.2.1, w3.2.2.2, w2.2.2.2, w1.1, w1.2.1, cq, w2.1, co + w3.1)) 0
      rw [c0, hC]
      rfl
  · rw [if_neg hE]
    have hF : enF h = 0 := enF_0.mpr hE
    refine ⟨hA, hB, ⟨d2, d3⟩, ⟨fun k hk => ?_, fun k hk => ?_, fun k hk => ?_, fun k hk => ?_, fun k hk => ?_, fun k hk => ?_⟩, ?_⟩
    · rw [if_pos hF]
      exact (d1 k).1
    · exact (d1 k).1
    · rw [if_pos hF]
      exact (d1 k).2
    · exact (d1 k).2
    · rw [if_pos hF]
      exact s5 k hk
    · exact s6 k hk
    · rw [if_pos hF]
theorem lou_rg {shf sh kp pl : fI} {me : fB} {k : Nat} : ∀ n, n ≤ 1000 → rg (yi n (louC shf sh kp pl me k) 0) 0 n := by
  intro n
  induction n with
  | zero => intro _; exact ⟨by rw [yi_0, t_0]; omega, by rw [yi_0, t_0]; omega⟩
  | succ n ih =>
    intro hn
    have a := ih (by omega)
    rw [yi_s]
    generalize yi n (louC shf sh kp pl me k) 0 = x at a ⊢
    unfold rg at a ⊢
    unfold louC
    have e1 : (x + Int32.ofInt 1).toInt = x.toInt + 1 := by
      have : (Int32.ofInt 1) = (1 : Int32) := rfl
      rw [this, t_add (by rw [t_1]; omega) (by rw [t_1]; omega), t_1]
    split
    · omega
    · split
      · omega
      · split
        · omega
        · rw [e1]; omega
theorem grow_rg {x : Int32} (h : rg x 0 99) : rg (grow x) 0 99 := by
  unfold rg at h ⊢
  unfold grow
  split
  · exact h
  · split
    · exact h
    · rename_i h1 h2
      rw [t_le, t_99] at h2
      rw [t_add (by rw [t_1]; omega) (by rw [t_1]; omega), t_1]
      omega
theorem Jv_hour {e : ES} {h : Nat} {s : DS} (hJ : Jv e h s) (hh : h ≤ 10000) : Jv e (h + 1) (hourF e h s) := by
  obtain ⟨⟨a1, a2, a3⟩, ⟨b1, b2, b3⟩, ⟨c1, c2⟩, ⟨d1, d2, d3, d4, d5, d6⟩, -⟩ := hour_sp hJ hh
  obtain ⟨g1, ⟨p1, p2, p3, p4, p5⟩, ⟨v1, v2, v3, v4, v5, v6, v7, v8⟩, ⟨z1, z2, z3⟩⟩ := hJ
  obtain ⟨h1, h2, h3⟩ := g1
  generalize hourF e h s = t at *
  have hla : ∀ k, (sLa t k).toInt = (sLa s k).toInt + (sLa t k - sLa s k).toInt := fun k => by
    have x := c1 k
    have y := v4 k
    have z := v1 k
    unfold rg at y z
    have e1 : sLa t k = sLa s k + (sLa t k - sLa s k) := by grind
    have e2 := t_add (x := sLa s k) (y := sLa t k - sLa s k) (by omega) (by omega)
    rw [← e1] at e2
    exact e2
  have hX : ∀ k, rg (sVi s k - (sLa t k - sLa s k)) 0 99 := fun k => by
    have x := c1 k
    have z := v1 k
    unfold rg at z ⊢
    rw [t_sub (by omega) (by omega)]
    omega
  refine ⟨⟨h1, h2, h3⟩, ⟨p1, p2, p3, p4, p5⟩, ⟨fun k => ?_, fun k => ?_, fun k => ?_, fun k => ?_, fun k => ?_, fun k => ?_, fun k => ?_, fun k => ?_⟩, ⟨fun k hk => ⟨?_, ?_, ?_⟩, fun k hk => ?_, fun k hk => ?_⟩⟩
  · by_cases hk : k < eN e
    · rw [d1 k hk]
      split
      · exact hX k
      · exact grow_rg (hX k)
    · rw [d2 k (by omega)]
      exact hX k
  · have x := c1 k
    have y := v2 k
    have z := v1 k
    unfold rg at y z
    have e1 : rg (sLt s k + (sLa t k - sLa s k)) 0 (99 * ((h + 1 : Nat) : Int)) := by
      unfold rg
      rw [t_add (by omega) (by omega)]
      omega
    by_cases hk : k < eN e
    · rw [d3 k hk]
      split
      · exact e1
      · exact rg_0 (by omega) (by omega)
    · rw [d4 k (by omega)]
      exact e1
  · have y := v3 k
    have l := lou_rg (shf := sSh t) (sh := sSh s) (kp := eKp e) (pl := ePl e) (me := eMe e) (k := k) (eNk e) (by omega)
    unfold rg at y l
    by_cases hk : k < eN e
    · rw [d5 k hk]
      split
      · unfold rg louH
        rw [t_add (by omega) (by omega)]
        omega
      · exact rg_0 (by omega) (by omega)
    · rw [d6 k (by omega)]
      unfold rg
      omega
  · have x := c1 k
    have y := v4 k
    have z := v1 k
    unfold rg at y z ⊢
    rw [hla k]
    omega
  · obtain ⟨x1, x2, x3, x4⟩ := b1 k
    have y := v5 k
    unfold rg at y ⊢
    refine ⟨x4, ?_⟩
    rw [x1, t_sub (by omega) (by omega)]
    omega
  · obtain ⟨x1, x2, x3, x4⟩ := b1 k
    have y := v6 k
    unfold rg at y ⊢
    have e1 : sSh t k = sSh s k + (sSh t k - sSh s k) := by grind
    have e2 := t_add (x := sSh s k) (y := sSh t k - sSh s k) (by omega) (by omega)
    rw [← e1] at e2
    rw [e2]
    omega
  · rw [a1 k]
    exact drive_rg p4 (p5 (h % 6)) v7 k
  · have x := a2 k
    have y := v8 k
    unfold rg at y ⊢
    omega
  · rw [d4 k hk, c2 k hk, (z1 k hk).1]
    grind
  · rw [d6 k hk, (z1 k hk).2.1]
  · rw [c2 k hk, (z1 k hk).2.2]
  · rw [(b2 k hk).2, z2 k hk]
  · rw [a1 k, drive_at, if_neg (by omega)]
    exact z3 k hk
