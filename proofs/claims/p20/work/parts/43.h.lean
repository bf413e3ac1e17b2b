-- PURE: an hour by rows is an hour
theorem CR_ha {L : fR} {cp dr ha : fI} (h : CR L cp dr ha) (j : Nat) (x : Int32) : CR (up2 L j 2 x) cp dr (upd ha j x) := by
  intro k
  obtain ⟨k0, k1, k2, k3⟩ := h k
  by_cases e : k = j
  · rw [e] at k0 k1 k3 ⊢
    refine ⟨?_, ?_, ?_, ?_⟩ <;> simp [up2_at, upd_at, *]
  · refine ⟨?_, ?_, ?_, ?_⟩ <;> simp [up2_at, upd_at, e, *]
theorem KR_sh {K : fR} {kp rg1 pw sh : fI} (h : KR K kp rg1 pw sh) (j : Nat) (x y : Int32) : KR (up2 (up2 K j 2 x) j 3 y) kp rg1 (upd pw j x) (upd sh j y) := by
  intro k
  obtain ⟨k0, k1, k2, k3⟩ := h k
  by_cases e : k = j
  · rw [e] at k0 k1 ⊢
    refine ⟨?_, ?_, ?_, ?_⟩ <;> simp [up2_at, upd_at, *]
  · refine ⟨?_, ?_, ?_, ?_⟩ <;> simp [up2_at, upd_at, e, *]
theorem YR_su {Y : fR} {pl vi : fI} {me ins : fB} {lt su la : fI} (h : YR Y pl vi me ins lt su la) (j : Nat) (x : Int32) : YR (up2 Y j 5 x) pl vi me ins lt (upd su j x) la := by
  intro k
  obtain ⟨k0, k1, k2, k3, k4, k5, k6⟩ := h k
  by_cases e : k = j
  · rw [e] at k0 k1 k2 k3 k4 k6 ⊢
    refine ⟨?_, ?_, ?_, ?_, ?_, ?_, ?_⟩ <;> simp [up2_at, upd_at, *]
  · refine ⟨?_, ?_, ?_, ?_, ?_, ?_, ?_⟩ <;> simp [up2_at, upd_at, e, *]
theorem YR_vi {Y : fR} {pl vi : fI} {me ins : fB} {lt su la : fI} (h : YR Y pl vi me ins lt su la) (j : Nat) (x : Int32) : YR (up2 Y j 1 x) pl (upd vi j x) me ins lt su la := by
  intro k
  obtain ⟨k0, k1, k2, k3, k4, k5, k6⟩ := h k
  by_cases e : k = j
  · rw [e] at k0 k2 k3 k4 k5 k6 ⊢
    refine ⟨?_, ?_, ?_, ?_, ?_, ?_, ?_⟩ <;> simp [up2_at, upd_at, *]
  · refine ⟨?_, ?_, ?_, ?_, ?_, ?_, ?_⟩ <;> simp [up2_at, upd_at, e, *]
theorem YR_lt {Y : fR} {pl vi : fI} {me ins : fB} {lt su la : fI} (h : YR Y pl vi me ins lt su la) (j : Nat) (x : Int32) : YR (up2 Y j 4 x) pl vi me ins (upd lt j x) su la := by
  intro k
  obtain ⟨k0, k1, k2, k3, k4, k5, k6⟩ := h k
  by_cases e : k = j
  · rw [e] at k0 k1 k2 k3 k5 k6 ⊢
    refine ⟨?_, ?_, ?_, ?_, ?_, ?_, ?_⟩ <;> simp [up2_at, upd_at, *]
  · refine ⟨?_, ?_, ?_, ?_, ?_, ?_, ?_⟩ <;> simp [up2_at, upd_at, e, *]
theorem YR_la {Y : fR} {pl vi : fI} {me ins : fB} {lt su la : fI} (h : YR Y pl vi me ins lt su la) (j : Nat) (x : Int32) : YR (up2 Y j 6 x) pl vi me ins lt su (upd la j x) := by
  intro k
  obtain ⟨k0, k1, k2, k3, k4, k5, k6⟩ := h k
  by_cases e : k = j
  · rw [e] at k0 k1 k2 k3 k4 k5 ⊢
    refine ⟨?_, ?_, ?_, ?_, ?_, ?_, ?_⟩ <;> simp [up2_at, upd_at, *]
  · refine ⟨?_, ?_, ?_, ?_, ?_, ?_, ?_⟩ <;> simp [up2_at, upd_at, e, *]
theorem YR_ext {Y : fR} {pl vi vi' : fI} {me ins : fB} {lt lt' su su' la la' : fI} (h : YR Y pl vi me ins lt su la) (h1 : ∀ k, vi k = vi' k) (h2 : ∀ k, lt k = lt' k) (h3 : ∀ k, su k = su' k) (h4 : ∀ k, la k = la' k) : YR Y pl vi' me ins lt' su' la' := by
  intro k
  obtain ⟨k0, k1, k2, k3, k4, k5, k6⟩ := h k
  exact ⟨k0, k1.trans (h1 k), k2, k3, k4.trans (h2 k), k5.trans (h3 k), k6.trans (h4 k)⟩
-- the wind
theorem bI_gn (x : Int32) : (if x < 0 then (1 : Int32) else if x ≤ 29 then 0 else 1) = bI (gn x) := by
  cases g : gn x with
  | true =>
    have := gn_t.mp g
    by_cases c : x < 0
    · rw [if_pos c]; rfl
    · rw [if_neg c, if_neg (by rw [t_lt, t_0] at c; rw [t_le, t_29]; omega)]; rfl
  | false =>
    have := gn_f.mp g
    rw [if_neg (by rw [t_lt, t_0]; omega), if_pos (by rw [t_le, t_29]; omega)]; rfl
theorem CR_cp {L : fR} {cp dr ha : fI} (h : CR L cp dr ha) (j : Nat) (x : Int32) : CR (up2 (up2 L j 0 x) j 3 (bI (gn x))) (upd cp j x) dr ha := by
  intro k
  obtain ⟨k0, k1, k2, k3⟩ := h k
  unfold gnF at k3 ⊢
  by_cases e : k = j
  · rw [e] at k1 k2 ⊢
    refine ⟨?_, ?_, ?_, ?_⟩ <;> simp [up2_at, upd_at, k1, k2]
  · refine ⟨?_, ?_, ?_, ?_⟩ <;> simp [up2_at, upd_at, e, k0, k1, k2, k3]
theorem dv_at {cp dr ha : fI} {b : Int32} {L : fR} (hL : CR L cp dr ha) : ∀ n, CR (yi n (dvS b) L) (driveF dr b n cp) dr ha := by
  intro n
  induction n with
  | zero => exact hL
  | succ n ih =>
    have hs : driveF dr b (n + 1) cp = driveS dr b n (driveF dr b n cp) := rfl
    rw [yi_s, hs]
    generalize yi n (dvS b) L = C at ih ⊢
    generalize driveF dr b n cp = c at ih ⊢
    obtain ⟨l0, l1, l2, l3⟩ := ih n
    unfold dvS driveS
    rw [l0, l1, l3]
    cases g : gnF c n with
    | true =>
      rw [cond_true, if_pos (show bI true = 1 from rfl)]
      exact ih
    | false =>
      rw [cond_false, if_neg (by decide), bI_gn, g_2 (c n) b (dr n)]
      exact CR_cp ih n _
-- the shots
theorem sus_at {pl vi : fI} {me ins : fB} {lt su la : fI} {p : Int32} {Y : fR} (hY : YR Y pl vi me ins lt su la) (hpl : ∀ k, rg (pl k) 0 29) (hp : rg p 0 29) : ∀ m, YR (yi m (suS p) Y) pl vi me ins lt (hearF pl me p m su) la := by
  intro m
  induction m with
  | zero => exact hY
  | succ m ih =>
    have hs : hearF pl me p (m + 1) su = hearS pl me p m (hearF pl me p m su) := rfl
    rw [yi_s, hs]
    generalize yi m (suS p) Y = V at ih ⊢
    generalize hearF pl me p m su = u at ih ⊢
    obtain ⟨k0, k1, k2, k3, k4, k5, k6⟩ := ih m
    unfold suS hearS
    rw [k0, k2, k5]
    cases g : me m with
    | true =>
      rw [cond_true, if_neg (show ¬ bI true = 0 by decide)]
      exact ih
    | false =>
      rw [cond_false, if_pos (show bI false = 0 from rfl)]
      have h1 := hpl m
      have hab := ab_sym (x := pl m) (y := p) (rg_w h1 (by omega) (by omega)) (rg_w hp (by omega) (by omega))
      unfold rg at h1 hp
      have e1 : (p - 2).toInt = p.toInt - 2 := by rw [t_sub (by rw [t_2c]; omega) (by rw [t_2c]; omega), t_2c]
      have e2 : (p + 2).toInt = p.toInt + 2 := by rw [t_add (by rw [t_2c]; omega) (by rw [t_2c]; omega), t_2c]
      by_cases c1 : pl m < p - 2
      · rw [if_pos c1, if_pos (show 2 < ab (pl m - p) by rw [t_lt, e1] at c1; rw [t_lt, t_2c]; omega)]
        exact ih
      · rw [if_neg c1]
        rw [t_lt, e1] at c1
        by_cases c2 : p + 2 < pl m
        · rw [if_pos c2, if_pos (show 2 < ab (pl m - p) by rw [t_lt, e2] at c2; rw [t_lt, t_2c]; omega)]
          exact ih
        · rw [if_neg c2, if_neg (show ¬ 2 < ab (pl m - p) by rw [t_lt, e2] at c2; rw [t_lt, t_2c]; omega)]
          exact YR_su ih m _
theorem sho_at {cq dr kp rg1 pl pw sh ha su vi lt la : fI} {me ins : fB} {n nc : Nat} {rr : Nat → Nat} {K L Y : fR} (hr : ∀ k, rg1 k = nI (rr k) ∧ rr k ≤ 9) (hkp : ∀ k, rg (kp k) 0 29) (hpl : ∀ k, rg (pl k) 0 29) (hcq : ∀ k, rg (cq k) (-5) 34) (hpw : ∀ k, rg (pw k) 0 60) (hsh : ∀ k, rg (sh k) 0 100000) (hh : ∀ k, rg (ha k) 0 60) (hnc : nc ≤ 1000)
    (hK : KR K kp rg1 pw sh) (hL : CR L cq dr ha) (hY : YR Y pl vi me ins lt su la) :
    ∀ i, KR (yi i (shR rr n nc) (K, L, Y)).1 kp rg1 (shootF kp rg1 cq pl me nc n i (pw, sh, ha, su)).1 (shootF kp rg1 cq pl me nc n i (pw, sh, ha, su)).2.1 ∧ CR (yi i (shR rr n nc) (K, L, Y)).2.1 cq dr (shootF kp rg1 cq pl me nc n i (pw, sh, ha, su)).2.2.1 ∧ YR (yi i (shR rr n nc) (K, L, Y)).2.2 pl vi me ins lt (shootF kp rg1 cq pl me nc n i (pw, sh, ha, su)).2.2.2 la := by
  intro i
  induction i with
  | zero => exact ⟨hK, hL, hY⟩
  | succ i ih =>
    have hrg : ∀ k, rg (rg1 k) 0 9 := fun k => by
      obtain ⟨a, b⟩ := hr k
      unfold rg
      rw [a, nI_toInt (by omega)]
      omega
    have hS := shoot_at (me := me) (n := n) (nc := nc) (su := su) hrg hkp hpl hcq hpw hsh hh hnc i
    have hs : shootF kp rg1 cq pl me nc n (i + 1) (pw, sh, ha, su) = shootS kp rg1 cq pl me nc n i (shootF kp rg1 cq pl me nc n i (pw, sh, ha, su)) := rfl
    rw [yi_s, hs]
    generalize yi i (shR rr n nc) (K, L, Y) = v at ih ⊢
    generalize shootF kp rg1 cq pl me nc n i (pw, sh, ha, su) = w at ih hS ⊢
    obtain ⟨iK, iL, iY⟩ := ih
    obtain ⟨s1, s2, s3, s4, s5, s6, s7⟩ := hS
    obtain ⟨k0, k1, k2, k3⟩ := iK i
    obtain ⟨r1, r2⟩ := hr i
    have hT : aimsF v.2.1 (v.1 i 0) (v.1 i 2) (rr i) nc = targF kp rg1 w.1 cq w.2.2.1 nc i := by
      rw [k0, k2]
      exact aims_core iL hcq (hkp i) r1 r2
    unfold shR shootS
    rw [hT]
    rcases targ_sp (kp := kp) (pw := w.1) (cp := cq) (ha := w.2.2.1) (nc := nc) (j := i) (hrg i) with ⟨e, q⟩ | ⟨t, ht, e, q1, q2, q3⟩
    · rw [e, if_neg (by decide), if_pos (by decide)]
      exact ⟨iK, iL, iY⟩
    · rw [e, if_pos (nI_pos' (by omega)), if_neg (nI_pos (by omega)), nI_clamp (by omega)]
      obtain ⟨l0, l1, l2, l3⟩ := iL t
      have hkpi := hkp i
      have hcqt := hcq t
      have hrgi := hrg i
      have hab := ab_sym (x := cq t) (y := kp i) (rg_w hcqt (by omega) (by omega)) (rg_w hkpi (by omega) (by omega))
      have h3 := s3 t
      have hht := hh t
      have q4 := q2.2.2
      unfold rg at hkpi hcqt hrgi hht
      have ed : (if kp i ≤ cq t then cq t - kp i else kp i - cq t) = ab (cq t - kp i) := by
        rw [t_eq, hab]
        by_cases c : kp i ≤ cq t
        · rw [if_pos c, t_sub (by omega) (by omega)]
          rw [t_le] at c
          omega
        · rw [if_neg c, t_sub (by omega) (by omega)]
          rw [t_le] at c
          omega
      have el : lessR v.1 v.2.1 i t = rg1 i + 1 - ab (cq t - kp i) := by
        unfold lessR
        rw [k0, k1, l0, ed, g_1]
      have er : (rg1 i + 1 - ab (cq t - kp i)).toInt = (rg1 i).toInt + 1 - (ab (cq t - kp i)).toInt := by
        have e2 : (rg1 i + 1).toInt = (rg1 i).toInt + 1 := by rw [t_add (by rw [t_1]; omega) (by rw [t_1]; omega), t_1]
        rw [t_sub (by rw [e2]; omega) (by rw [e2]; omega), e2]
      have em : (if v.2.1 t 2 ≤ lessR v.1 v.2.1 i t then 0 else v.2.1 t 2 - lessR v.1 v.2.1 i t) = mx (w.2.2.1 t - (rg1 i + 1 - ab (cq t - kp i))) 0 := by
        rw [el, l2, t_eq, mx_t, t_0, t_sub (by rw [er]; omega) (by rw [er]; omega), er]
        by_cases c : w.2.2.1 t ≤ rg1 i + 1 - ab (cq t - kp i)
        · rw [if_pos c, t_0]
          rw [t_le, er] at c
          omega
        · rw [if_neg c, t_sub (by rw [er]; omega) (by rw [er]; omega), er]
          rw [t_le, er] at c
          omega
      rw [em, k2, k3, k0]
      exact ⟨KR_sh iK i _ _, CR_ha iL t _, sus_at iY hpl (hkp i) n⟩
