-- Cannons
theorem near_ix (cp ha : fI) (p r : Int32) (n : Nat) : (yi n (nearS cp ha p) (-1, r + 1)).1 = -1 ∨ ∃ k, k < n ∧ (yi n (nearS cp ha p) (-1, r + 1)).1 = nI k := by
  induction n with
  | zero => exact Or.inl rfl
  | succ n ih =>
    have keep : (yi n (nearS cp ha p) (-1, r + 1)).1 = -1 ∨ ∃ k, k < n + 1 ∧ (yi n (nearS cp ha p) (-1, r + 1)).1 = nI k := by
      rcases ih with h | ⟨k, h1, h2⟩
      · exact Or.inl h
      · exact Or.inr ⟨k, by omega, h2⟩
    show (nearS cp ha p n (yi n (nearS cp ha p) (-1, r + 1))).1 = -1 ∨ ∃ k, k < n + 1 ∧ (nearS cp ha p n (yi n (nearS cp ha p) (-1, r + 1))).1 = nI k
    unfold nearS
    cases gnF cp n with
    | true => exact keep
    | false =>
      rw [cond_false]
      split
      · exact keep
      · split
        · exact keep
        · exact Or.inr ⟨n, by omega, rfl⟩
def targF (kp rg pw cp ha : fI) (nc : Nat) (j : Nat) : Int32 := if pw j ≤ 0 then -1 else nearF cp ha (kp j) (rg j) nc
theorem targ_ix {kp rg pw cp ha : fI} {nc j : Nat} (h : ¬ targF kp rg pw cp ha nc j < 0) : ∃ t, t < nc ∧ targF kp rg pw cp ha nc j = nI t := by
  unfold targF at h ⊢
  by_cases e : pw j ≤ 0
  · rw [if_pos e] at h
    exact absurd (by decide) h
  · rw [if_neg e] at h ⊢
    rcases near_ix cp ha (kp j) (rg j) nc with q | q
    · have q' : nearF cp ha (kp j) (rg j) nc = -1 := q
      rw [q'] at h
      exact absurd (by decide) h
    · exact q
def shootS (kp rg cp pl : fI) (me : fB) (nc ny j : Nat) (w : fI × fI × fI × fI) : fI × fI × fI × fI :=
  if targF kp rg w.1 cp w.2.2.1 nc j < 0 then w else
    (upd w.1 j (w.1 j - 1), upd w.2.1 j (w.2.1 j + 1), shotF cp (kp j) (rg j) (targF kp rg w.1 cp w.2.2.1 nc j).toNatClampNeg w.2.2.1, hearF pl me (kp j) ny w.2.2.2)
def shootF (kp rg cp pl : fI) (me : fB) (nc ny nk : Nat) (w : fI × fI × fI × fI) : fI × fI × fI × fI := yi nk (shootS kp rg cp pl me nc ny) w
def kfact (kp rg pw sh cp ha : fI) (nc j w : Nat) : Int32 := if w = 0 then kp j else if w = 1 then rg j else if w = 2 then pw j else if w = 3 then sh j else targF kp rg pw cp ha nc j
set_option maxHeartbeats 4000000 in
set_option maxRecDepth 100000 in
theorem c_X0_target (l : Launch) (d : yyD) (k0 : Nat) (k1 : Nat) (k2 : Nat) (k3 : Nat) (k4 : Nat) (e0 : Nat) (e1 : Nat) (e2 : Nat) (e3 : Nat) (e4 : Nat) (cp : fI) (ha : fI) (nc : Nat) (kp : fI) (rg : fI) (pw : fI) (nk : Nat) (j : Nat) (hc : nc ≤ 20) (hj : j < 6) : yyI l yX0_target cX0_target 3 (some .int) { frames := 2, cells := 0, slots := 0, locals := 39 } d [.ref k0, .int (nI j), .ref e0] [(k0, .inr (0, [.ref k1, .ref k2, .ref k3, .ref k4, .int (nI nk)])), (k1, aI d 6 kp), (k2, aI d 6 rg), (k3, aI d 6 pw), (e0, .inr (1, [.ref e1, .ref e2, .ref e3, .ref e4, .int (nI nc)])), (e1, aI d 20 cp), (e3, aI d 20 ha), (e4, aZ d 20 (gnF cp))] [(k0, .inr (0, [.ref k1, .ref k2, .ref k3, .ref k4, .int (nI nk)])), (k1, aI d 6 kp), (k2, aI d 6 rg), (k3, aI d 6 pw), (e0, .inr (1, [.ref e1, .ref e2, .ref e3, .ref e4, .int (nI nc)])), (e1, aI d 20 cp), (e3, aI d 20 ha), (e4, aZ d 20 (gnF cp))] (targF kp rg pw cp ha nc j) := by
  refine yyI_of (own := RX0) [(0, .ref k0), (1, .int (nI j)), (2, .ref e0)] (by decide +kernel) rfl (Nat.le_of_ble_eq_true rfl) rfl ?_
  intro G Q hQ hGL hC hGA
  refine y_aload_n (pc := 0) hC 0 dX0_target_0 rfl ?_
  refine y_get (pc := 1) hC 0 2 dX0_target_1 rfl rfl inX0 (by decide) kw_1_73 rfl rfl ?_
  refine y_iload_n (pc := 4) hC 1 dX0_target_4 rfl ?_
  refine y_iald (pc := 5) hC 3 (j := j) dX0_target_5 (pw j) rfl (by omega) rfl rfl ?_
  refine y_if_le (pc := 6) hC dX0_target_6 28 (by decide) (fun c_1 => ?_) (fun c_1 => ?_)
  · refine y_iconst (pc := 28) hC dX0_target_28 (-1) (by decide) ?_
    exact y_iret hC hQ rfl rfl (by simp only [targF, c_1, ↓reduceIte, cond_true, cond_false]) (nb rfl) (nb rfl) dX0_target_29
  · refine y_aload_n (pc := 9) hC 2 dX0_target_9 rfl ?_
    refine y_aload_n (pc := 10) hC 0 dX0_target_10 rfl ?_
    refine y_get (pc := 11) hC 0 0 dX0_target_11 rfl rfl inX0 (by decide) kw_1_70 rfl rfl ?_
    refine y_iload_n (pc := 14) hC 1 dX0_target_14 rfl ?_
    refine y_iald (pc := 15) hC 1 (j := j) dX0_target_15 (kp j) rfl (by omega) rfl rfl ?_
    refine y_aload_n (pc := 16) hC 0 dX0_target_16 rfl ?_
    refine y_get (pc := 17) hC 0 1 dX0_target_17 rfl rfl inX0 (by decide) kw_1_72 rfl rfl ?_
    refine y_iload_n (pc := 20) hC 1 dX0_target_20 rfl ?_
    refine y_iald (pc := 21) hC 2 (j := j) dX0_target_21 (rg j) rfl (by omega) rfl rfl ?_
    refine y_cI (pc := 22) (As := [.int (kp j), .int (rg j)]) (st := []) hC (c_X1_nearest (gL G) d e0 e1 e2 e3 e4 cp ha nc (kp j) (rg j) (by omega)) kw_1_231 kw_1_228 kw_1_229 kw_1_230 kw_1_5 n_X1_nearest ⟨⟨nb rfl, nb rfl⟩, ⟨nb rfl, nb rfl⟩, nb rfl⟩ [4, 5, 6, 7] [0, 1, 2, 3] [0, 1, 2, 3, 4, 5, 6, 7] 0 [(k0, .inr (0, [.ref k1, .ref k2, .ref k3, .ref k4, .int (nI nk)])), (k1, aI d 6 kp), (k2, aI d 6 rg), (k3, aI d 6 pw)] [(k0, .inr (0, [.ref k1, .ref k2, .ref k3, .ref k4, .int (nI nk)])), (k1, aI d 6 kp), (k2, aI d 6 rg), (k3, aI d 6 pw), (e0, .inr (1, [.ref e1, .ref e2, .ref e3, .ref e4, .int (nI nc)])), (e1, aI d 20 cp), (e3, aI d 20 ha), (e4, aZ d 20 (gnF cp))] rfl rfl ⟨rfl, by decide, rfl, by decide, by decide⟩ ⟨rfl, by decide⟩ rfl dX0_target_22 ?_
    refine y_goto (pc := 25) hC dX0_target_25 29 (by decide) ?_
    exact y_iret hC hQ rfl rfl (by simp only [targF, c_1, ↓reduceIte, cond_true, cond_false]) (nb rfl) (nb rfl) dX0_target_29
theorem n_X0_target : yyN yX0_target RX0 2 := by refine ⟨rfl, ?_, ?_, ?_⟩ <;> decide +kernel
set_option maxHeartbeats 4000000 in
set_option maxRecDepth 100000 in
theorem c_X0_add (l : Launch) (d : yyD) (k0 : Nat) (k1 : Nat) (k2 : Nat) (k3 : Nat) (k4 : Nat) (kp : fI) (rg : fI) (pw : fI) (nk : Nat) (x : Int32) (y : Int32) (z : Int32) (hk : nk < 6) : yyI l yX0_add cX0_add 5 (some .int) { frames := 0, cells := 0, slots := 0, locals := 0 } d [.ref k0, .int x, .int y, .int z] [(k0, .inr (0, [.ref k1, .ref k2, .ref k3, .ref k4, .int (nI nk)])), (k1, aI d 6 kp), (k2, aI d 6 rg), (k3, aI d 6 pw)] [(k0, .inr (0, [.ref k1, .ref k2, .ref k3, .ref k4, .int (nI (nk + 1))])), (k1, aI d 6 (upd kp nk x)), (k2, aI d 6 (upd rg nk y)), (k3, aI d 6 (upd pw nk z))] (nI nk) := by
  refine yyI_of (own := RX0) [(0, .ref k0), (1, .int x), (2, .int y), (3, .int z)] (by decide +kernel) rfl (Nat.le_of_ble_eq_true rfl) rfl ?_
  intro G Q hQ hGL hC hGA
  refine y_aload_n (pc := 0) hC 0 dX0_add_0 rfl ?_
  refine y_get (pc := 1) hC 0 4 dX0_add_1 rfl rfl inX0 (by decide) kw_1_75 rfl rfl ?_
  refine y_istore (pc := 4) hC dX0_add_4 [(4, .int (nI nk)), (0, .ref k0), (1, .int x), (2, .int y), (3, .int z)] rfl (by decide) ?_
  refine y_aload_n (pc := 6) hC 1 dX0_add_6 rfl ?_
  refine y_get (pc := 7) hC 0 0 dX0_add_7 rfl rfl inX0 (by decide) kw_1_70 rfl rfl ?_
  refine y_iload (pc := 10) hC 0 dX0_add_10 rfl ?_
  refine y_iload_n (pc := 12) hC 2 dX0_add_12 rfl ?_
  refine y_iast (pc := 13) hC 1 (j := nk) dX0_add_13 (upd kp nk x) [(k0, .inr (0, [.ref k1, .ref k2, .ref k3, .ref k4, .int (nI nk)])), (k1, aI d 6 (upd kp nk x)), (k2, aI d 6 rg), (k3, aI d 6 pw)] rfl (by omega) rfl rfl rfl ?_
  refine y_aload_n (pc := 14) hC 1 dX0_add_14 rfl ?_
  refine y_get (pc := 15) hC 0 1 dX0_add_15 rfl rfl inX0 (by decide) kw_1_72 rfl rfl ?_
  refine y_iload (pc := 18) hC 0 dX0_add_18 rfl ?_
  refine y_iload_n (pc := 20) hC 3 dX0_add_20 rfl ?_
  refine y_iast (pc := 21) hC 2 (j := nk) dX0_add_21 (upd rg nk y) [(k0, .inr (0, [.ref k1, .ref k2, .ref k3, .ref k4, .int (nI nk)])), (k1, aI d 6 (upd kp nk x)), (k2, aI d 6 (upd rg nk y)), (k3, aI d 6 pw)] rfl (by omega) rfl rfl rfl ?_
  refine y_aload_n (pc := 22) hC 1 dX0_add_22 rfl ?_
  refine y_get (pc := 23) hC 0 2 dX0_add_23 rfl rfl inX0 (by decide) kw_1_73 rfl rfl ?_
  refine y_iload (pc := 26) hC 0 dX0_add_26 rfl ?_
  refine y_iload_n (pc := 28) hC 4 dX0_add_28 rfl ?_
  refine y_iast (pc := 29) hC 3 (j := nk) dX0_add_29 (upd pw nk z) [(k0, .inr (0, [.ref k1, .ref k2, .ref k3, .ref k4, .int (nI nk)])), (k1, aI d 6 (upd kp nk x)), (k2, aI d 6 (upd rg nk y)), (k3, aI d 6 (upd pw nk z))] rfl (by omega) rfl rfl rfl ?_
  refine y_aload_n (pc := 30) hC 1 dX0_add_30 rfl ?_
  refine y_dup (pc := 31) hC dX0_add_31 rfl ?_
  refine y_get (pc := 32) hC 0 4 dX0_add_32 rfl rfl inX0 (by decide) kw_1_75 rfl rfl ?_
  refine y_iconst (pc := 35) hC dX0_add_35 1 (by decide) ?_
  refine y_iadd (pc := 36) hC dX0_add_36 (nI (nk + 1)) (nI_1 _) ?_
  refine y_put (pc := 37) hC 0 4 .int dX0_add_37 tyX0 [(k0, .inr (0, [.ref k1, .ref k2, .ref k3, .ref k4, .int (nI (nk + 1))])), (k1, aI d 6 (upd kp nk x)), (k2, aI d 6 (upd rg nk y)), (k3, aI d 6 (upd pw nk z))] rfl rfl rfl inX0 tyX0_ok nmX0 (by decide) kw_1_75 rfl rfl (by decide +kernel) rfl rfl (Nat.le_of_ble_eq_true rfl) ?_
  refine y_iload (pc := 40) hC 0 dX0_add_40 rfl ?_
  exact y_iret hC hQ rfl rfl rfl (nb rfl) (nb rfl) dX0_add_42
theorem n_X0_add : yyN yX0_add RX0 3 := by refine ⟨rfl, ?_, ?_, ?_⟩ <;> decide +kernel
set_option maxHeartbeats 4000000 in
set_option maxRecDepth 100000 in
theorem c_X0_addPowder (l : Launch) (d : yyD) (k0 : Nat) (k1 : Nat) (k2 : Nat) (k3 : Nat) (k4 : Nat) (pw : fI) (nk : Nat) (j : Nat) (x : Int32) (hj : j < 6) : yyI l yX0_addPowder cX0_addPowder 3 (some .int) { frames := 1, cells := 0, slots := 0, locals := 15 } d [.ref k0, .int (nI j), .int x] [(k0, .inr (0, [.ref k1, .ref k2, .ref k3, .ref k4, .int (nI nk)])), (k3, aI d 6 pw)] [(k0, .inr (0, [.ref k1, .ref k2, .ref k3, .ref k4, .int (nI nk)])), (k3, aI d 6 (upd pw j (mn (pw j + x) 60)))] (mn (pw j + x) 60) := by
  refine yyI_of (own := RX0) [(0, .ref k0), (1, .int (nI j)), (2, .int x)] (by decide +kernel) rfl (Nat.le_of_ble_eq_true rfl) rfl ?_
  intro G Q hQ hGL hC hGA
  refine y_aload_n (pc := 0) hC 0 dX0_addPowder_0 rfl ?_
  refine y_get (pc := 1) hC 0 2 dX0_addPowder_1 rfl rfl inX0 (by decide) kw_1_73 rfl rfl ?_
  refine y_iload_n (pc := 4) hC 1 dX0_addPowder_4 rfl ?_
  refine y_aload_n (pc := 5) hC 0 dX0_addPowder_5 rfl ?_
  refine y_get (pc := 6) hC 0 2 dX0_addPowder_6 rfl rfl inX0 (by decide) kw_1_73 rfl rfl ?_
  refine y_iload_n (pc := 9) hC 1 dX0_addPowder_9 rfl ?_
  refine y_iald (pc := 10) hC 1 (j := j) dX0_addPowder_10 (pw j) rfl (by omega) rfl rfl ?_
  refine y_iload_n (pc := 11) hC 2 dX0_addPowder_11 rfl ?_
  refine y_iadd (pc := 12) hC dX0_addPowder_12 ((pw j) + x) rfl ?_
  refine y_bipush (pc := 13) hC dX0_addPowder_13 60 (by decide) ?_
  refine y_min (pc := 15) hC dX0_addPowder_15 kw_3_42 kw_2_109 kw_1_13 kw_2_110 ⟨nb rfl, nb rfl, nb rfl, nb rfl⟩ ?_
  refine y_iast (pc := 18) hC 1 (j := j) dX0_addPowder_18 (upd pw j (mn ((pw j) + x) 60)) [(k0, .inr (0, [.ref k1, .ref k2, .ref k3, .ref k4, .int (nI nk)])), (k3, aI d 6 (upd pw j (mn ((pw j) + x) 60)))] rfl (by omega) rfl rfl rfl ?_
  refine y_aload_n (pc := 19) hC 0 dX0_addPowder_19 rfl ?_
  refine y_get (pc := 20) hC 0 2 dX0_addPowder_20 rfl rfl inX0 (by decide) kw_1_73 rfl rfl ?_
  refine y_iload_n (pc := 23) hC 1 dX0_addPowder_23 rfl ?_
  refine y_iald (pc := 24) hC 1 (j := j) dX0_addPowder_24 (mn ((pw j) + x) 60) rfl (by omega) rfl pk_us ?_
  exact y_iret hC hQ rfl rfl rfl (nb rfl) (nb rfl) dX0_addPowder_25
theorem n_X0_addPowder : yyN yX0_addPowder RX0 2 := by refine ⟨rfl, ?_, ?_, ?_⟩ <;> decide +kernel
set_option maxHeartbeats 4000000 in
set_option maxRecDepth 100000 in
theorem c_X0_fact (l : Launch) (d : yyD) (k0 : Nat) (k1 : Nat) (k2 : Nat) (k3 : Nat) (k4 : Nat) (e0 : Nat) (e1 : Nat) (e2 : Nat) (e3 : Nat) (e4 : Nat) (cp : fI) (ha : fI) (nc : Nat) (kp : fI) (rg : fI) (pw : fI) (sh : fI) (nk : Nat) (j : Nat) (w : Nat) (hc : nc ≤ 20) (hj : j < 6) (hw : w ≤ 4) : yyI l yX0_fact cX0_fact 4 (some .int) { frames := 3, cells := 0, slots := 0, locals := 61 } d [.ref k0, .int (nI j), .int (nI w), .ref e0] [(k0, .inr (0, [.ref k1, .ref k2, .ref k3, .ref k4, .int (nI nk)])), (k1, aI d 6 kp), (k2, aI d 6 rg), (k3, aI d 6 pw), (k4, aI d 6 sh), (e0, .inr (1, [.ref e1, .ref e2, .ref e3, .ref e4, .int (nI nc)])), (e1, aI d 20 cp), (e3, aI d 20 ha), (e4, aZ d 20 (gnF cp))] [(k0, .inr (0, [.ref k1, .ref k2, .ref k3, .ref k4, .int (nI nk)])), (k1, aI d 6 kp), (k2, aI d 6 rg), (k3, aI d 6 pw), (k4, aI d 6 sh), (e0, .inr (1, [.ref e1, .ref e2, .ref e3, .ref e4, .int (nI nc)])), (e1, aI d 20 cp), (e3, aI d 20 ha), (e4, aZ d 20 (gnF cp))] (kfact kp rg pw sh cp ha nc j w) := by
  refine yyI_of (own := RX0) [(0, .ref k0), (1, .int (nI j)), (2, .int (nI w)), (3, .ref e0)] (by decide +kernel) rfl (Nat.le_of_ble_eq_true rfl) rfl ?_
  intro G Q hQ hGL hC hGA
  refine y_iload_n (pc := 0) hC 2 dX0_fact_0 rfl ?_
  have hs1 : w = 0 ∨ w = 1 ∨ w = 2 ∨ w = 3 ∨ w = 4 := by omega
  rcases hs1 with rfl | rfl | rfl | rfl | rfl
  · refine y_tsw (pc := 1) (off := 31) hC dX0_fact_1 32 (by decide +kernel) (by decide +kernel) (by decide +kernel) (by decide) ?_
    refine y_aload_n (pc := 32) hC 0 dX0_fact_32 rfl ?_
    refine y_get (pc := 33) hC 0 0 dX0_fact_33 rfl rfl inX0 (by decide) kw_1_70 rfl rfl ?_
    refine y_iload_n (pc := 36) hC 1 dX0_fact_36 rfl ?_
    refine y_iald (pc := 37) hC 1 (j := j) dX0_fact_37 (kp j) rfl (by omega) rfl rfl ?_
    exact y_iret hC hQ rfl rfl rfl (nb rfl) (nb rfl) dX0_fact_38
  · refine y_tsw (pc := 1) (off := 38) hC dX0_fact_1 39 (by decide +kernel) (by decide +kernel) (by decide +kernel) (by decide) ?_
    refine y_aload_n (pc := 39) hC 0 dX0_fact_39 rfl ?_
    refine y_get (pc := 40) hC 0 1 dX0_fact_40 rfl rfl inX0 (by decide) kw_1_72 rfl rfl ?_
    refine y_iload_n (pc := 43) hC 1 dX0_fact_43 rfl ?_
    refine y_iald (pc := 44) hC 2 (j := j) dX0_fact_44 (rg j) rfl (by omega) rfl rfl ?_
    exact y_iret hC hQ rfl rfl rfl (nb rfl) (nb rfl) dX0_fact_45
  · refine y_tsw (pc := 1) (off := 45) hC dX0_fact_1 46 (by decide +kernel) (by decide +kernel) (by decide +kernel) (by decide) ?_
    refine y_aload_n (pc := 46) hC 0 dX0_fact_46 rfl ?_
    refine y_get (pc := 47) hC 0 2 dX0_fact_47 rfl rfl inX0 (by decide) kw_1_73 rfl rfl ?_
    refine y_iload_n (pc := 50) hC 1 dX0_fact_50 rfl ?_
    refine y_iald (pc := 51) hC 3 (j := j) dX0_fact_51 (pw j) rfl (by omega) rfl rfl ?_
    exact y_iret hC hQ rfl rfl rfl (nb rfl) (nb rfl) dX0_fact_52
  · refine y_tsw (pc := 1) (off := 52) hC dX0_fact_1 53 (by decide +kernel) (by decide +kernel) (by decide +kernel) (by decide) ?_
    refine y_aload_n (pc := 53) hC 0 dX0_fact_53 rfl ?_
    refine y_get (pc := 54) hC 0 3 dX0_fact_54 rfl rfl inX0 (by decide) kw_1_74 rfl rfl ?_
    refine y_iload_n (pc := 57) hC 1 dX0_fact_57 rfl ?_
    refine y_iald (pc := 58) hC 4 (j := j) dX0_fact_58 (sh j) rfl (by omega) rfl rfl ?_
    exact y_iret hC hQ rfl rfl rfl (nb rfl) (nb rfl) dX0_fact_59
  · refine y_tsd (pc := 1) hC dX0_fact_1 60 (by decide +kernel) (by decide) ?_
    refine y_aload_n (pc := 60) hC 0 dX0_fact_60 rfl ?_
    refine y_iload_n (pc := 61) hC 1 dX0_fact_61 rfl ?_
    refine y_aload_n (pc := 62) hC 3 dX0_fact_62 rfl ?_
    refine y_cI (pc := 63) (As := [.int (nI j), .ref e0]) (st := []) hC (c_X0_target (gL G) d k0 k1 k2 k3 k4 e0 e1 e2 e3 e4 cp ha nc kp rg pw nk j (by omega) (by omega)) kw_1_227 kw_1_224 kw_1_226 kw_s1 kw_1_4 n_X0_target ⟨⟨nb rfl, nb rfl⟩, ⟨nb rfl, nb rfl⟩, nb rfl⟩ [0, 1, 2, 3, 5, 6, 7, 8] [4] [1, 2, 3, 4, 0, 5, 6, 7, 8] 0 [(k4, aI d 6 sh)] [(k0, .inr (0, [.ref k1, .ref k2, .ref k3, .ref k4, .int (nI nk)])), (k1, aI d 6 kp), (k2, aI d 6 rg), (k3, aI d 6 pw), (k4, aI d 6 sh), (e0, .inr (1, [.ref e1, .ref e2, .ref e3, .ref e4, .int (nI nc)])), (e1, aI d 20 cp), (e3, aI d 20 ha), (e4, aZ d 20 (gnF cp))] rfl rfl ⟨rfl, by decide, rfl, by decide, by decide⟩ ⟨rfl, by decide⟩ rfl dX0_fact_63 ?_
    exact y_iret hC hQ rfl rfl rfl (nb rfl) (nb rfl) dX0_fact_66
theorem n_X0_fact : yyN yX0_fact RX0 3 := by refine ⟨rfl, ?_, ?_, ?_⟩ <;> decide +kernel
set_option maxHeartbeats 4000000 in
set_option maxRecDepth 100000 in
theorem c_X0_sumOfShots (l : Launch) (d : yyD) (k0 : Nat) (k1 : Nat) (k2 : Nat) (k3 : Nat) (k4 : Nat) (sh : fI) (nk : Nat) (hk : nk ≤ 6) : yyI l yX0_sumOfShots cX0_sumOfShots 3 (some .int) { frames := 0, cells := 0, slots := 0, locals := 0 } d [.ref k0] [(k0, .inr (0, [.ref k1, .ref k2, .ref k3, .ref k4, .int (nI nk)])), (k4, aI d 6 sh)] [(k0, .inr (0, [.ref k1, .ref k2, .ref k3, .ref k4, .int (nI nk)])), (k4, aI d 6 sh)] (sumF sh nk) := by
  refine yyI_of (own := RX0) [(0, .ref k0)] (by decide +kernel) rfl (Nat.le_of_ble_eq_true rfl) rfl ?_
  intro G Q hQ hGL hC hGA
  refine y_iconst (pc := 0) hC dX0_sumOfShots_0 0 (by decide) ?_
  refine y_istore_n (pc := 1) hC dX0_sumOfShots_1 [(1, .int 0), (0, .ref k0)] rfl (by decide) ?_
  refine y_iconst (pc := 2) hC dX0_sumOfShots_2 0 (by decide) ?_
  refine y_istore_n (pc := 3) hC dX0_sumOfShots_3 [(2, .int 0), (1, .int 0), (0, .ref k0)] rfl (by decide) ?_
  have lpj1 : ∀ r1 j1 : Nat, j1 + r1 = nk → yyW d G 0 0 Q [(k0, .inr (0, [.ref k1, .ref k2, .ref k3, .ref k4, .int (nI nk)])), (k4, aI d 6 sh)] [(2, .int (nI j1)), (1, .int (yi j1 (fun k a => a + sh k) 0)), (0, .ref k0)] 4 [] := by
    intro r1
    induction r1 with
    | zero =>
      intro j1 hj1
      have ej1 : j1 = nk := by omega
      rw [ej1]
      refine y_iload_n (pc := 4) hC 0 dX0_sumOfShots_4 rfl ?_
      refine y_aload_n (pc := 5) hC 2 dX0_sumOfShots_5 rfl ?_
      refine y_get (pc := 6) hC 0 4 dX0_sumOfShots_6 rfl rfl inX0 (by decide) kw_1_75 rfl rfl ?_
      refine y_ge_t (pc := 9) (a := nk) (b := nk) hC dX0_sumOfShots_9 27 (by decide) (by omega) (by omega) ?_
      refine y_iload_n (pc := 27) hC 1 dX0_sumOfShots_27 rfl ?_
      exact y_iret hC hQ rfl rfl rfl (nb rfl) (nb rfl) dX0_sumOfShots_28
    | succ r1 ihj1 =>
      intro j1 hj1
      have lj1 : j1 < nk := by omega
      refine y_iload_n (pc := 4) hC 0 dX0_sumOfShots_4 rfl ?_
      refine y_aload_n (pc := 5) hC 2 dX0_sumOfShots_5 rfl ?_
      refine y_get (pc := 6) hC 0 4 dX0_sumOfShots_6 rfl rfl inX0 (by decide) kw_1_75 rfl rfl ?_
      refine y_ge_f (pc := 9) (a := j1) (b := nk) hC dX0_sumOfShots_9 27 (by decide) (by omega) (by omega) ?_
      refine y_iload_n (pc := 12) hC 1 dX0_sumOfShots_12 rfl ?_
      refine y_aload_n (pc := 13) hC 2 dX0_sumOfShots_13 rfl ?_
      refine y_get (pc := 14) hC 0 3 dX0_sumOfShots_14 rfl rfl inX0 (by decide) kw_1_74 rfl rfl ?_
      refine y_iload_n (pc := 17) hC 0 dX0_sumOfShots_17 rfl ?_
      refine y_iald (pc := 18) hC 1 (j := j1) dX0_sumOfShots_18 (sh j1) rfl (by omega) rfl rfl ?_
      refine y_iadd (pc := 19) hC dX0_sumOfShots_19 ((yi j1 (fun k a => a + sh k) 0) + (sh j1)) rfl ?_
      refine y_istore_n (pc := 20) hC dX0_sumOfShots_20 [(1, .int ((yi j1 (fun k a => a + sh k) 0) + (sh j1))), (2, .int (nI j1)), (0, .ref k0)] rfl (by decide) ?_
      refine y_iinc (pc := 21) hC 1 dX0_sumOfShots_21 (nI (j1 + 1)) [(2, .int (nI (j1 + 1))), (1, .int ((yi j1 (fun k a => a + sh k) 0) + (sh j1))), (0, .ref k0)] rfl (nI_inc _) rfl (by decide) ?_
      refine y_goto (pc := 24) hC dX0_sumOfShots_24 4 (by decide) ?_
      refine y_ws [(k0, .inr (0, [.ref k1, .ref k2, .ref k3, .ref k4, .int (nI nk)])), (k4, aI d 6 sh)] rfl ?_
      refine y_lve [(2, .int (nI (j1 + 1))), (1, .int (yi (j1 + 1) (fun k a => a + sh k) 0)), (0, .ref k0)] (by simp only [yi, ↓reduceIte, cond_true, cond_false]) ?_
      exact ihj1 (j1 + 1) (by omega)
  refine y_lv [(2, .int 0), (1, .int 0), (0, .ref k0)] [0, 1, 2] rfl ?_
  exact lpj1 nk 0 (by omega)
theorem n_X0_sumOfShots : yyN yX0_sumOfShots RX0 0 := by refine ⟨rfl, ?_, ?_, ?_⟩ <;> decide +kernel
set_option maxHeartbeats 4000000 in
set_option maxRecDepth 100000 in
theorem c_X0_shoot (l : Launch) (d : yyD) (k0 : Nat) (k1 : Nat) (k2 : Nat) (k3 : Nat) (k4 : Nat) (e0 : Nat) (e1 : Nat) (e2 : Nat) (e3 : Nat) (e4 : Nat) (a0 : Nat) (a1 : Nat) (a2 : Nat) (a3 : Nat) (a4 : Nat) (a5 : Nat) (a6 : Nat) (a7 : Nat) (kp : fI) (rg : fI) (pw : fI) (sh : fI) (nk : Nat) (cp : fI) (ha : fI) (nc : Nat) (pl : fI) (me : fB) (su : fI) (n : Nat) (hk : nk ≤ 6) (hc : nc ≤ 20) (hn : n ≤ 10) : yyV (S := Unit) l yX0_shoot cX0_shoot 5 { frames := 3, cells := 0, slots := 0, locals := 61 } d [.ref k0, .ref e0, .ref a0] [(k0, .inr (0, [.ref k1, .ref k2, .ref k3, .ref k4, .int (nI nk)])), (k1, aI d 6 kp), (k2, aI d 6 rg), (k3, aI d 6 pw), (k4, aI d 6 sh), (e0, .inr (1, [.ref e1, .ref e2, .ref e3, .ref e4, .int (nI nc)])), (e1, aI d 20 cp), (e3, aI d 20 ha), (e4, aZ d 20 (gnF cp)), (a0, .inr (3, [.ref a1, .ref a2, .ref a3, .ref a4, .ref a5, .ref a6, .ref a7, .int (nI n)])), (a1, aI d 10 pl), (a3, aZ d 10 me), (a6, aI d 10 su)] (fun _ => True) (fun _ => [(k0, .inr (0, [.ref k1, .ref k2, .ref k3, .ref k4, .int (nI nk)])), (k1, aI d 6 kp), (k2, aI d 6 rg), (k3, aI d 6 ((shootF kp rg cp pl me nc n nk (pw, sh, ha, su)).1)), (k4, aI d 6 ((shootF kp rg cp pl me nc n nk (pw, sh, ha, su)).2.1)), (e0, .inr (1, [.ref e1, .ref e2, .ref e3, .ref e4, .int (nI nc)])), (e1, aI d 20 cp), (e3, aI d 20 ((shootF kp rg cp pl me nc n nk (pw, sh, ha, su)).2.2.1)), (e4, aZ d 20 (gnF cp)), (a0, .inr (3, [.ref a1, .ref a2, .ref a3, .ref a4, .ref a5, .ref a6, .ref a7, .int (nI n)])), (a1, aI d 10 pl), (a3, aZ d 10 me), (a6, aI d 10 ((shootF kp rg cp pl me nc n nk (pw, sh, ha, su)).2.2.2))]) := by
  refine yyV_of (own := RX0) [(0, .ref k0), (1, .ref e0), (2, .ref a0)] (by decide +kernel) rfl (Nat.le_of_ble_eq_true rfl) rfl ?_
  intro G Q hQ hGL hC hGA hin
  refine y_iconst (pc := 0) hC dX0_shoot_0 0 (by decide) ?_
  refine y_istore_n (pc := 1) hC dX0_shoot_1 [(3, .int 0), (0, .ref k0), (1, .ref e0), (2, .ref a0)] rfl (by decide) ?_
  have lpj1 : ∀ r1 j1 : Nat, j1 + r1 = nk → yyW d G 0 0 Q [(k0, .inr (0, [.ref k1, .ref k2, .ref k3, .ref k4, .int (nI nk)])), (k1, aI d 6 kp), (k2, aI d 6 rg), (k3, aI d 6 ((yi j1 (shootS kp rg cp pl me nc n) (pw, sh, ha, su)).1)), (k4, aI d 6 ((yi j1 (shootS kp rg cp pl me nc n) (pw, sh, ha, su)).2.1)), (e0, .inr (1, [.ref e1, .ref e2, .ref e3, .ref e4, .int (nI nc)])), (e1, aI d 20 cp), (e3, aI d 20 ((yi j1 (shootS kp rg cp pl me nc n) (pw, sh, ha, su)).2.2.1)), (e4, aZ d 20 (gnF cp)), (a0, .inr (3, [.ref a1, .ref a2, .ref a3, .ref a4, .ref a5, .ref a6, .ref a7, .int (nI n)])), (a1, aI d 10 pl), (a3, aZ d 10 me), (a6, aI d 10 ((yi j1 (shootS kp rg cp pl me nc n) (pw, sh, ha, su)).2.2.2))] [(3, .int (nI j1)), (0, .ref k0), (1, .ref e0), (2, .ref a0)] 2 [] := by
    intro r1
    induction r1 with
    | zero =>
      intro j1 hj1
      have ej1 : j1 = nk := by omega
      rw [ej1]
      refine y_iload_n (pc := 2) hC 0 dX0_shoot_2 rfl ?_
      refine y_aload_n (pc := 3) hC 1 dX0_shoot_3 rfl ?_
      refine y_get (pc := 4) hC 0 4 dX0_shoot_4 rfl rfl inX0 (by decide) kw_1_75 rfl rfl ?_
      refine y_ge_t (pc := 7) (a := nk) (b := nk) hC dX0_shoot_7 77 (by decide) (by omega) (by omega) ?_
      exact y_vret (()) hC hQ (trivial) rfl (nb rfl) (nb rfl) dX0_shoot_77
    | succ r1 ihj1 =>
      intro j1 hj1
      have lj1 : j1 < nk := by omega
      refine y_iload_n (pc := 2) hC 0 dX0_shoot_2 rfl ?_
      refine y_aload_n (pc := 3) hC 1 dX0_shoot_3 rfl ?_
      refine y_get (pc := 4) hC 0 4 dX0_shoot_4 rfl rfl inX0 (by decide) kw_1_75 rfl rfl ?_
      refine y_ge_f (pc := 7) (a := j1) (b := nk) hC dX0_shoot_7 77 (by decide) (by omega) (by omega) ?_
      refine y_aload_n (pc := 10) hC 1 dX0_shoot_10 rfl ?_
      refine y_iload_n (pc := 11) hC 0 dX0_shoot_11 rfl ?_
      refine y_aload_n (pc := 12) hC 2 dX0_shoot_12 rfl ?_
      refine y_cI (pc := 13) (As := [.int (nI j1), .ref e0]) (st := []) hC (c_X0_target (gL G) d k0 k1 k2 k3 k4 e0 e1 e2 e3 e4 cp ((yi j1 (shootS kp rg cp pl me nc n) (pw, sh, ha, su)).2.2.1) nc kp rg ((yi j1 (shootS kp rg cp pl me nc n) (pw, sh, ha, su)).1) nk j1 (by omega) (by omega)) kw_1_227 kw_1_224 kw_1_226 kw_s1 kw_1_4 n_X0_target ⟨⟨nb rfl, nb rfl⟩, ⟨nb rfl, nb rfl⟩, nb rfl⟩ [0, 1, 2, 3, 5, 6, 7, 8] [4, 9, 10, 11, 12] [5, 6, 7, 8, 0, 9, 10, 11, 12, 1, 2, 3, 4] 0 [(k4, aI d 6 ((yi j1 (shootS kp rg cp pl me nc n) (pw, sh, ha, su)).2.1)), (a0, .inr (3, [.ref a1, .ref a2, .ref a3, .ref a4, .ref a5, .ref a6, .ref a7, .int (nI n)])), (a1, aI d 10 pl), (a3, aZ d 10 me), (a6, aI d 10 ((yi j1 (shootS kp rg cp pl me nc n) (pw, sh, ha, su)).2.2.2))] [(k0, .inr (0, [.ref k1, .ref k2, .ref k3, .ref k4, .int (nI nk)])), (k1, aI d 6 kp), (k2, aI d 6 rg), (k3, aI d 6 ((yi j1 (shootS kp rg cp pl me nc n) (pw, sh, ha, su)).1)), (k4, aI d 6 ((yi j1 (shootS kp rg cp pl me nc n) (pw, sh, ha, su)).2.1)), (e0, .inr (1, [.ref e1, .ref e2, .ref e3, .ref e4, .int (nI nc)])), (e1, aI d 20 cp), (e3, aI d 20 ((yi j1 (shootS kp rg cp pl me nc n) (pw, sh, ha, su)).2.2.1)), (e4, aZ d 20 (gnF cp)), (a0, .inr (3, [.ref a1, .ref a2, .ref a3, .ref a4, .ref a5, .ref a6, .ref a7, .int (nI n)])), (a1, aI d 10 pl), (a3, aZ d 10 me), (a6, aI d 10 ((yi j1 (shootS kp rg cp pl me nc n) (pw, sh, ha, su)).2.2.2))] rfl rfl ⟨rfl, by decide, rfl, by decide, by decide⟩ ⟨rfl, by decide⟩ rfl dX0_shoot_13 ?_
      refine y_istore (pc := 16) hC dX0_shoot_16 [(4, .int (targF kp rg ((yi j1 (shootS kp rg cp pl me nc n) (pw, sh, ha, su)).1) cp ((yi j1 (shootS kp rg cp pl me nc n) (pw, sh, ha, su)).2.2.1) nc j1)), (3, .int (nI j1)), (0, .ref k0), (1, .ref e0), (2, .ref a0)] rfl (by decide) ?_
      refine y_iload (pc := 18) hC 0 dX0_shoot_18 rfl ?_
      refine y_if_lt (pc := 20) hC dX0_shoot_20 71 (by decide) (fun c_2 => ?_) (fun c_2 => ?_)
      · refine y_iinc (pc := 71) hC 1 dX0_shoot_71 (nI (j1 + 1)) [(3, .int (nI (j1 + 1))), (4, .int (targF kp rg ((yi j1 (shootS kp rg cp pl me nc n) (pw, sh, ha, su)).1) cp ((yi j1 (shootS kp rg cp pl me nc n) (pw, sh, ha, su)).2.2.1) nc j1)), (0, .ref k0), (1, .ref e0), (2, .ref a0)] rfl (nI_inc _) rfl (by decide) ?_
        refine y_goto (pc := 74) hC dX0_shoot_74 2 (by decide) ?_
        refine y_lv [(3, .int (nI (j1 + 1))), (0, .ref k0), (1, .ref e0), (2, .ref a0)] [0, 2, 3, 4] rfl ?_
        refine y_ws [(k0, .inr (0, [.ref k1, .ref k2, .ref k3, .ref k4, .int (nI nk)])), (k1, aI d 6 kp), (k2, aI d 6 rg), (k3, aI d 6 ((yi (j1 + 1) (shootS kp rg cp pl me nc n) (pw, sh, ha, su)).1)), (k4, aI d 6 ((yi (j1 + 1) (shootS kp rg cp pl me nc n) (pw, sh, ha, su)).2.1)), (e0, .inr (1, [.ref e1, .ref e2, .ref e3, .ref e4, .int (nI nc)])), (e1, aI d 20 cp), (e3, aI d 20 ((yi (j1 + 1) (shootS kp rg cp pl me nc n) (pw, sh, ha, su)).2.2.1)), (e4, aZ d 20 (gnF cp)), (a0, .inr (3, [.ref a1, .ref a2, .ref a3, .ref a4, .ref a5, .ref a6, .ref a7, .int (nI n)])), (a1, aI d 10 pl), (a3, aZ d 10 me), (a6, aI d 10 ((yi (j1 + 1) (shootS kp rg cp pl me nc n) (pw, sh, ha, su)).2.2.2))] (by simp only [yi, shootS, shotF, c_2, ↓reduceIte, cond_true, cond_false]) ?_
        exact ihj1 (j1 + 1) (by omega)
      · obtain ⟨t9, ht9, et9⟩ := targ_ix c_2
        have et8 : (nI t9).toNatClampNeg = t9 := nI_clamp (by omega)
        have et7 : ¬ nI t9 < 0 := et9 ▸ c_2
        rw [et9]
        refine y_aload_n (pc := 23) hC 2 dX0_shoot_23 rfl ?_
        refine y_get (pc := 24) hC 0 2 dX0_shoot_24 rfl rfl inX0 (by decide) kw_1_73 rfl rfl ?_
        refine y_iload_n (pc := 27) hC 1 dX0_shoot_27 rfl ?_
        refine y_dup2 (pc := 28) hC dX0_shoot_28 rfl rfl ?_
        refine y_iald (pc := 29) hC 3 (j := j1) dX0_shoot_29 (((yi j1 (shootS kp rg cp pl me nc n) (pw, sh, ha, su)).1) j1) rfl (by omega) rfl rfl ?_
        refine y_iconst (pc := 30) hC dX0_shoot_30 1 (by decide) ?_
        refine y_isub (pc := 31) hC dX0_shoot_31 ((((yi j1 (shootS kp rg cp pl me nc n) (pw, sh, ha, su)).1) j1) - 1) rfl ?_
        refine y_iast (pc := 32) hC 3 (j := j1) dX0_shoot_32 (upd ((yi j1 (shootS kp rg cp pl me nc n) (pw, sh, ha, su)).1) j1 ((((yi j1 (shootS kp rg cp pl me nc n) (pw, sh, ha, su)).1) j1) - 1)) [(k0, .inr (0, [.ref k1, .ref k2, .ref k3, .ref k4, .int (nI nk)])), (k1, aI d 6 kp), (k2, aI d 6 rg), (k3, aI d 6 (upd ((yi j1 (shootS kp rg cp pl me nc n) (pw, sh, ha, su)).1) j1 ((((yi j1 (shootS kp rg cp pl me nc n) (pw, sh, ha, su)).1) j1) - 1))), (k4, aI d 6 ((yi j1 (shootS kp rg cp pl me nc n) (pw, sh, ha, su)).2.1)), (e0, .inr (1, [.ref e1, .ref e2, .ref e3, .ref e4, .int (nI nc)])), (e1, aI d 20 cp), (e3, aI d 20 ((yi j1 (shootS kp rg cp pl me nc n) (pw, sh, ha, su)).2.2.1)), (e4, aZ d 20 (gnF cp)), (a0, .inr (3, [.ref a1, .ref a2, .ref a3, .ref a4, .ref a5, .ref a6, .ref a7, .int (nI n)])), (a1, aI d 10 pl), (a3, aZ d 10 me), (a6, aI d 10 ((yi j1 (shootS kp rg cp pl me nc n) (pw, sh, ha, su)).2.2.2))] rfl (by omega) rfl rfl rfl ?_
        refine y_aload_n (pc := 33) hC 2 dX0_shoot_33 rfl ?_
        refine y_get (pc := 34) hC 0 3 dX0_shoot_34 rfl rfl inX0 (by decide) kw_1_74 rfl rfl ?_
        refine y_iload_n (pc := 37) hC 1 dX0_shoot_37 rfl ?_
        refine y_dup2 (pc := 38) hC dX0_shoot_38 rfl rfl ?_
        refine y_iald (pc := 39) hC 4 (j := j1) dX0_shoot_39 (((yi j1 (shootS kp rg cp pl me nc n) (pw, sh, ha, su)).2.1) j1) rfl (by omega) rfl rfl ?_
        refine y_iconst (pc := 40) hC dX0_shoot_40 1 (by decide) ?_
        refine y_iadd (pc := 41) hC dX0_shoot_41 ((((yi j1 (shootS kp rg cp pl me nc n) (pw, sh, ha, su)).2.1) j1) + 1) rfl ?_
        refine y_iast (pc := 42) hC 4 (j := j1) dX0_shoot_42 (upd ((yi j1 (shootS kp rg cp pl me nc n) (pw, sh, ha, su)).2.1) j1 ((((yi j1 (shootS kp rg cp pl me nc n) (pw, sh, ha, su)).2.1) j1) + 1)) [(k0, .inr (0, [.ref k1, .ref k2, .ref k3, .ref k4, .int (nI nk)])), (k1, aI d 6 kp), (k2, aI d 6 rg), (k3, aI d 6 (upd ((yi j1 (shootS kp rg cp pl me nc n) (pw, sh, ha, su)).1) j1 ((((yi j1 (shootS kp rg cp pl me nc n) (pw, sh, ha, su)).1) j1) - 1))), (k4, aI d 6 (upd ((yi j1 (shootS kp rg cp pl me nc n) (pw, sh, ha, su)).2.1) j1 ((((yi j1 (shootS kp rg cp pl me nc n) (pw, sh, ha, su)).2.1) j1) + 1))), (e0, .inr (1, [.ref e1, .ref e2, .ref e3, .ref e4, .int (nI nc)])), (e1, aI d 20 cp), (e3, aI d 20 ((yi j1 (shootS kp rg cp pl me nc n) (pw, sh, ha, su)).2.2.1)), (e4, aZ d 20 (gnF cp)), (a0, .inr (3, [.ref a1, .ref a2, .ref a3, .ref a4, .ref a5, .ref a6, .ref a7, .int (nI n)])), (a1, aI d 10 pl), (a3, aZ d 10 me), (a6, aI d 10 ((yi j1 (shootS kp rg cp pl me nc n) (pw, sh, ha, su)).2.2.2))] rfl (by omega) rfl rfl rfl ?_
        refine y_aload_n (pc := 43) hC 3 dX0_shoot_43 rfl ?_
        refine y_iload (pc := 44) hC 0 dX0_shoot_44 rfl ?_
        refine y_aload_n (pc := 46) hC 2 dX0_shoot_46 rfl ?_
        refine y_get (pc := 47) hC 0 0 dX0_shoot_47 rfl rfl inX0 (by decide) kw_1_70 rfl rfl ?_
        refine y_iload_n (pc := 50) hC 1 dX0_shoot_50 rfl ?_
        refine y_iald (pc := 51) hC 1 (j := j1) dX0_shoot_51 (kp j1) rfl (by omega) rfl rfl ?_
        refine y_aload_n (pc := 52) hC 2 dX0_shoot_52 rfl ?_
        refine y_get (pc := 53) hC 0 1 dX0_shoot_53 rfl rfl inX0 (by decide) kw_1_72 rfl rfl ?_
        refine y_iload_n (pc := 56) hC 1 dX0_shoot_56 rfl ?_
        refine y_iald (pc := 57) hC 2 (j := j1) dX0_shoot_57 (rg j1) rfl (by omega) rfl rfl ?_
        refine y_cV (pc := 58) (As := [.int (nI t9), .int (kp j1), .int (rg j1)]) (st := []) hC (c_X1_takeShot (gL G) d e0 e1 e2 e3 e4 cp ((yi j1 (shootS kp rg cp pl me nc n) (pw, sh, ha, su)).2.2.1) nc t9 (kp j1) (rg j1) (by omega) (by omega)) kw_2_95 kw_2_92 kw_2_93 kw_2_94 kw_1_5 n_X1_takeShot ⟨⟨nb rfl, nb rfl⟩, ⟨nb rfl, nb rfl⟩, nb rfl⟩ [5, 6, 7] [0, 1, 2, 3, 4, 8, 9, 10, 11, 12] [0, 1, 2, 3, 4, 10, 11, 12, 5, 6, 7, 8, 9] 0 [(k0, .inr (0, [.ref k1, .ref k2, .ref k3, .ref k4, .int (nI nk)])), (k1, aI d 6 kp), (k2, aI d 6 rg), (k3, aI d 6 (upd ((yi j1 (shootS kp rg cp pl me nc n) (pw, sh, ha, su)).1) j1 ((((yi j1 (shootS kp rg cp pl me nc n) (pw, sh, ha, su)).1) j1) - 1))), (k4, aI d 6 (upd ((yi j1 (shootS kp rg cp pl me nc n) (pw, sh, ha, su)).2.1) j1 ((((yi j1 (shootS kp rg cp pl me nc n) (pw, sh, ha, su)).2.1) j1) + 1))), (e4, aZ d 20 (gnF cp)), (a0, .inr (3, [.ref a1, .ref a2, .ref a3, .ref a4, .ref a5, .ref a6, .ref a7, .int (nI n)])), (a1, aI d 10 pl), (a3, aZ d 10 me), (a6, aI d 10 ((yi j1 (shootS kp rg cp pl me nc n) (pw, sh, ha, su)).2.2.2))] (fun _ => [(k0, .inr (0, [.ref k1, .ref k2, .ref k3, .ref k4, .int (nI nk)])), (k1, aI d 6 kp), (k2, aI d 6 rg), (k3, aI d 6 (upd ((yi j1 (shootS kp rg cp pl me nc n) (pw, sh, ha, su)).1) j1 ((((yi j1 (shootS kp rg cp pl me nc n) (pw, sh, ha, su)).1) j1) - 1))), (k4, aI d 6 (upd ((yi j1 (shootS kp rg cp pl me nc n) (pw, sh, ha, su)).2.1) j1 ((((yi j1 (shootS kp rg cp pl me nc n) (pw, sh, ha, su)).2.1) j1) + 1))), (e0, .inr (1, [.ref e1, .ref e2, .ref e3, .ref e4, .int (nI nc)])), (e1, aI d 20 cp), (e3, aI d 20 (shotF cp (kp j1) (rg j1) t9 ((yi j1 (shootS kp rg cp pl me nc n) (pw, sh, ha, su)).2.2.1))), (e4, aZ d 20 (gnF cp)), (a0, .inr (3, [.ref a1, .ref a2, .ref a3, .ref a4, .ref a5, .ref a6, .ref a7, .int (nI n)])), (a1, aI d 10 pl), (a3, aZ d 10 me), (a6, aI d 10 ((yi j1 (shootS kp rg cp pl me nc n) (pw, sh, ha, su)).2.2.2))]) rfl rfl ⟨rfl, by decide, rfl, by decide, by decide⟩ (fun _ => ⟨rfl, by decide⟩) rfl dX0_shoot_58 ?_
        intro _ _
        refine y_aload_n (pc := 61) hC 4 dX0_shoot_61 rfl ?_
        refine y_aload_n (pc := 62) hC 2 dX0_shoot_62 rfl ?_
        refine y_get (pc := 63) hC 0 0 dX0_shoot_63 rfl rfl inX0 (by decide) kw_1_70 rfl rfl ?_
        refine y_iload_n (pc := 66) hC 1 dX0_shoot_66 rfl ?_
        refine y_iald (pc := 67) hC 1 (j := j1) dX0_shoot_67 (kp j1) rfl (by omega) rfl rfl ?_
        refine y_cV (pc := 68) (As := [.int (kp j1)]) (st := []) hC (c_X3_hearShot (gL G) d a0 a1 a2 a3 a4 a5 a6 a7 pl me ((yi j1 (shootS kp rg cp pl me nc n) (pw, sh, ha, su)).2.2.2) n (kp j1) (by omega)) kw_2_102 kw_2_99 kw_2_100 kw_2_101 kw_1_3 n_X3_hearShot ⟨⟨nb rfl, nb rfl⟩, ⟨nb rfl, nb rfl⟩, nb rfl⟩ [9, 10, 11, 12] [0, 1, 2, 3, 4, 5, 6, 7, 8] [0, 1, 2, 3, 4, 5, 6, 7, 8, 9, 10, 11, 12] 0 [(k0, .inr (0, [.ref k1, .ref k2, .ref k3, .ref k4, .int (nI nk)])), (k1, aI d 6 kp), (k2, aI d 6 rg), (k3, aI d 6 (upd ((yi j1 (shootS kp rg cp pl me nc n) (pw, sh, ha, su)).1) j1 ((((yi j1 (shootS kp rg cp pl me nc n) (pw, sh, ha, su)).1) j1) - 1))), (k4, aI d 6 (upd ((yi j1 (shootS kp rg cp pl me nc n) (pw, sh, ha, su)).2.1) j1 ((((yi j1 (shootS kp rg cp pl me nc n) (pw, sh, ha, su)).2.1) j1) + 1))), (e0, .inr (1, [.ref e1, .ref e2, .ref e3, .ref e4, .int (nI nc)])), (e1, aI d 20 cp), (e3, aI d 20 (shotF cp (kp j1) (rg j1) t9 ((yi j1 (shootS kp rg cp pl me nc n) (pw, sh, ha, su)).2.2.1))), (e4, aZ d 20 (gnF cp))] (fun _ => [(k0, .inr (0, [.ref k1, .ref k2, .ref k3, .ref k4, .int (nI nk)])), (k1, aI d 6 kp), (k2, aI d 6 rg), (k3, aI d 6 (upd ((yi j1 (shootS kp rg cp pl me nc n) (pw, sh, ha, su)).1) j1 ((((yi j1 (shootS kp rg cp pl me nc n) (pw, sh, ha, su)).1) j1) - 1))), (k4, aI d 6 (upd ((yi j1 (shootS kp rg cp pl me nc n) (pw, sh, ha, su)).2.1) j1 ((((yi j1 (shootS kp rg cp pl me nc n) (pw, sh, ha, su)).2.1) j1) + 1))), (e0, .inr (1, [.ref e1, .ref e2, .ref e3, .ref e4, .int (nI nc)])), (e1, aI d 20 cp), (e3, aI d 20 (shotF cp (kp j1) (rg j1) t9 ((yi j1 (shootS kp rg cp pl me nc n) (pw, sh, ha, su)).2.2.1))), (e4, aZ d 20 (gnF cp)), (a0, .inr (3, [.ref a1, .ref a2, .ref a3, .ref a4, .ref a5, .ref a6, .ref a7, .int (nI n)])), (a1, aI d 10 pl), (a3, aZ d 10 me), (a6, aI d 10 (hearF pl me (kp j1) n ((yi j1 (shootS kp rg cp pl me nc n) (pw, sh, ha, su)).2.2.2)))]) rfl rfl ⟨rfl, by decide, rfl, by decide, by decide⟩ (fun _ => ⟨rfl, by decide⟩) rfl dX0_shoot_68 ?_
        intro _ _
        refine y_iinc (pc := 71) hC 1 dX0_shoot_71 (nI (j1 + 1)) [(3, .int (nI (j1 + 1))), (4, .int (nI t9)), (0, .ref k0), (1, .ref e0), (2, .ref a0)] rfl (nI_inc _) rfl (by decide) ?_
        refine y_goto (pc := 74) hC dX0_shoot_74 2 (by decide) ?_
        refine y_lv [(3, .int (nI (j1 + 1))), (0, .ref k0), (1, .ref e0), (2, .ref a0)] [0, 2, 3, 4] rfl ?_
        refine y_ws [(k0, .inr (0, [.ref k1, .ref k2, .ref k3, .ref k4, .int (nI nk)])), (k1, aI d 6 kp), (k2, aI d 6 rg), (k3, aI d 6 ((yi (j1 + 1) (shootS kp rg cp pl me nc n) (pw, sh, ha, su)).1)), (k4, aI d 6 ((yi (j1 + 1) (shootS kp rg cp pl me nc n) (pw, sh, ha, su)).2.1)), (e0, .inr (1, [.ref e1, .ref e2, .ref e3, .ref e4, .int (nI nc)])), (e1, aI d 20 cp), (e3, aI d 20 ((yi (j1 + 1) (shootS kp rg cp pl me nc n) (pw, sh, ha, su)).2.2.1)), (e4, aZ d 20 (gnF cp)), (a0, .inr (3, [.ref a1, .ref a2, .ref a3, .ref a4, .ref a5, .ref a6, .ref a7, .int (nI n)])), (a1, aI d 10 pl), (a3, aZ d 10 me), (a6, aI d 10 ((yi (j1 + 1) (shootS kp rg cp pl me nc n) (pw, sh, ha, su)).2.2.2))] (by simp only [yi, shootS, shotF, et9, et8, et7, ↓reduceIte, cond_true, cond_false]) ?_
        exact ihj1 (j1 + 1) (by omega)
  refine y_lv [(3, .int 0), (0, .ref k0), (1, .ref e0), (2, .ref a0)] [0, 1, 2, 3] rfl ?_
  exact lpj1 nk 0 (by omega)
theorem n_X0_shoot : yyN yX0_shoot RX0 2 := by refine ⟨rfl, ?_, ?_, ?_⟩ <;> decide +kernel
set_option maxHeartbeats 4000000 in
set_option maxRecDepth 100000 in
theorem c_X0_copyFrom (l : Launch) (d : yyD) (k0 : Nat) (k1 : Nat) (k2 : Nat) (k3 : Nat) (k4 : Nat) (g0 : Nat) (g1 : Nat) (g2 : Nat) (g3 : Nat) (g4 : Nat) (kp : fI) (rg : fI) (pw : fI) (sh : fI) (kp2 : fI) (rg2 : fI) (pw2 : fI) (sh2 : fI) (n : Nat) (n2 : Nat)  : yyV (S := Unit) l yX0_copyFrom cX0_copyFrom 2 { frames := 1, cells := 0, slots := 0, locals := 18 } d [.ref k0, .ref g0] [(k0, .inr (0, [.ref k1, .ref k2, .ref k3, .ref k4, .int (nI n)])), (k1, aI d 6 kp), (k2, aI d 6 rg), (k3, aI d 6 pw), (k4, aI d 6 sh), (g0, .inr (0, [.ref g1, .ref g2, .ref g3, .ref g4, .int (nI n2)])), (g1, aI d 6 kp2), (g2, aI d 6 rg2), (g3, aI d 6 pw2), (g4, aI d 6 sh2)] (fun _ => True) (fun _ => [(k0, .inr (0, [.ref k1, .ref k2, .ref k3, .ref k4, .int (nI n2)])), (k1, aI d 6 kp2), (k2, aI d 6 rg2), (k3, aI d 6 pw2), (k4, aI d 6 sh2), (g0, .inr (0, [.ref g1, .ref g2, .ref g3, .ref g4, .int (nI n2)])), (g1, aI d 6 kp2), (g2, aI d 6 rg2), (g3, aI d 6 pw2), (g4, aI d 6 sh2)]) := by
  refine yyV_of (own := RX0) [(0, .ref k0), (1, .ref g0)] (by decide +kernel) rfl (Nat.le_of_ble_eq_true rfl) rfl ?_
  intro G Q hQ hGL hC hGA hin
  refine y_aload_n (pc := 0) hC 1 dX0_copyFrom_0 rfl ?_
  refine y_get (pc := 1) hC 5 0 dX0_copyFrom_1 rfl rfl inX0 (by decide) kw_1_70 rfl rfl ?_
  refine y_iconst (pc := 4) hC dX0_copyFrom_4 0 (by decide) ?_
  refine y_aload_n (pc := 5) hC 0 dX0_copyFrom_5 rfl ?_
  refine y_get (pc := 6) hC 0 0 dX0_copyFrom_6 rfl rfl inX0 (by decide) kw_1_70 rfl rfl ?_
  refine y_iconst (pc := 9) hC dX0_copyFrom_9 0 (by decide) ?_
  refine y_bipush (pc := 10) hC dX0_copyFrom_10 6 (by decide) ?_
  refine y_copyI (pc := 12) hC dX0_copyFrom_12 6 1 [(k0, .inr (0, [.ref k1, .ref k2, .ref k3, .ref k4, .int (nI n)])), (k1, aI d 6 kp2), (k2, aI d 6 rg), (k3, aI d 6 pw), (k4, aI d 6 sh), (g0, .inr (0, [.ref g1, .ref g2, .ref g3, .ref g4, .int (nI n2)])), (g1, aI d 6 kp2), (g2, aI d 6 rg2), (g3, aI d 6 pw2), (g4, aI d 6 sh2)] rfl rfl rfl rfl rfl rfl rfl kw_2_139 kw_2_134 kw_2_133 kw_1_14 ⟨nb rfl, nb rfl⟩ ?_
  refine y_aload_n (pc := 15) hC 1 dX0_copyFrom_15 rfl ?_
  refine y_get (pc := 16) hC 5 1 dX0_copyFrom_16 rfl rfl inX0 (by decide) kw_1_72 rfl rfl ?_
  refine y_iconst (pc := 19) hC dX0_copyFrom_19 0 (by decide) ?_
  refine y_aload_n (pc := 20) hC 0 dX0_copyFrom_20 rfl ?_
  refine y_get (pc := 21) hC 0 1 dX0_copyFrom_21 rfl rfl inX0 (by decide) kw_1_72 rfl rfl ?_
  refine y_iconst (pc := 24) hC dX0_copyFrom_24 0 (by decide) ?_
  refine y_bipush (pc := 25) hC dX0_copyFrom_25 6 (by decide) ?_
  refine y_copyI (pc := 27) hC dX0_copyFrom_27 7 2 [(k0, .inr (0, [.ref k1, .ref k2, .ref k3, .ref k4, .int (nI n)])), (k1, aI d 6 kp2), (k2, aI d 6 rg2), (k3, aI d 6 pw), (k4, aI d 6 sh), (g0, .inr (0, [.ref g1, .ref g2, .ref g3, .ref g4, .int (nI n2)])), (g1, aI d 6 kp2), (g2, aI d 6 rg2), (g3, aI d 6 pw2), (g4, aI d 6 sh2)] rfl rfl rfl rfl rfl rfl rfl kw_2_139 kw_2_134 kw_2_133 kw_1_14 ⟨nb rfl, nb rfl⟩ ?_
  refine y_aload_n (pc := 30) hC 1 dX0_copyFrom_30 rfl ?_
  refine y_get (pc := 31) hC 5 2 dX0_copyFrom_31 rfl rfl inX0 (by decide) kw_1_73 rfl rfl ?_
  refine y_iconst (pc := 34) hC dX0_copyFrom_34 0 (by decide) ?_
  refine y_aload_n (pc := 35) hC 0 dX0_copyFrom_35 rfl ?_
  refine y_get (pc := 36) hC 0 2 dX0_copyFrom_36 rfl rfl inX0 (by decide) kw_1_73 rfl rfl ?_
  refine y_iconst (pc := 39) hC dX0_copyFrom_39 0 (by decide) ?_
  refine y_bipush (pc := 40) hC dX0_copyFrom_40 6 (by decide) ?_
  refine y_copyI (pc := 42) hC dX0_copyFrom_42 8 3 [(k0, .inr (0, [.ref k1, .ref k2, .ref k3, .ref k4, .int (nI n)])), (k1, aI d 6 kp2), (k2, aI d 6 rg2), (k3, aI d 6 pw2), (k4, aI d 6 sh), (g0, .inr (0, [.ref g1, .ref g2, .ref g3, .ref g4, .int (nI n2)])), (g1, aI d 6 kp2), (g2, aI d 6 rg2), (g3, aI d 6 pw2), (g4, aI d 6 sh2)] rfl rfl rfl rfl rfl rfl rfl kw_2_139 kw_2_134 kw_2_133 kw_1_14 ⟨nb rfl, nb rfl⟩ ?_
  refine y_aload_n (pc := 45) hC 1 dX0_copyFrom_45 rfl ?_
  refine y_get (pc := 46) hC 5 3 dX0_copyFrom_46 rfl rfl inX0 (by decide) kw_1_74 rfl rfl ?_
  refine y_iconst (pc := 49) hC dX0_copyFrom_49 0 (by decide) ?_
  refine y_aload_n (pc := 50) hC 0 dX0_copyFrom_50 rfl ?_
  refine y_get (pc := 51) hC 0 3 dX0_copyFrom_51 rfl rfl inX0 (by decide) kw_1_74 rfl rfl ?_
  refine y_iconst (pc := 54) hC dX0_copyFrom_54 0 (by decide) ?_
  refine y_bipush (pc := 55) hC dX0_copyFrom_55 6 (by decide) ?_
  refine y_copyI (pc := 57) hC dX0_copyFrom_57 9 4 [(k0, .inr (0, [.ref k1, .ref k2, .ref k3, .ref k4, .int (nI n)])), (k1, aI d 6 kp2), (k2, aI d 6 rg2), (k3, aI d 6 pw2), (k4, aI d 6 sh2), (g0, .inr (0, [.ref g1, .ref g2, .ref g3, .ref g4, .int (nI n2)])), (g1, aI d 6 kp2), (g2, aI d 6 rg2), (g3, aI d 6 pw2), (g4, aI d 6 sh2)] rfl rfl rfl rfl rfl rfl rfl kw_2_139 kw_2_134 kw_2_133 kw_1_14 ⟨nb rfl, nb rfl⟩ ?_
  refine y_aload_n (pc := 60) hC 0 dX0_copyFrom_60 rfl ?_
  refine y_aload_n (pc := 61) hC 1 dX0_copyFrom_61 rfl ?_
  refine y_get (pc := 62) hC 5 4 dX0_copyFrom_62 rfl rfl inX0 (by decide) kw_1_75 rfl rfl ?_
  refine y_put (pc := 65) hC 0 4 .int dX0_copyFrom_65 tyX0 [(k0, .inr (0, [.ref k1, .ref k2, .ref k3, .ref k4, .int (nI n2)])), (k1, aI d 6 kp2), (k2, aI d 6 rg2), (k3, aI d 6 pw2), (k4, aI d 6 sh2), (g0, .inr (0, [.ref g1, .ref g2, .ref g3, .ref g4, .int (nI n2)])), (g1, aI d 6 kp2), (g2, aI d 6 rg2), (g3, aI d 6 pw2), (g4, aI d 6 sh2)] rfl rfl rfl inX0 tyX0_ok nmX0 (by decide) kw_1_75 rfl rfl (by decide +kernel) rfl rfl (Nat.le_of_ble_eq_true rfl) ?_
  exact y_vret (()) hC hQ (trivial) rfl (nb rfl) (nb rfl) dX0_copyFrom_68
theorem n_X0_copyFrom : yyN yX0_copyFrom RX0 1 := by refine ⟨rfl, ?_, ?_, ?_⟩ <;> decide +kernel
set_option maxHeartbeats 4000000 in
set_option maxRecDepth 100000 in
theorem c_X0_init (l : Launch) (d : yyD) (a0 : Nat)  : yyV (S := Nat → Nat) l yX0_init cX0_init 1 { frames := 1, cells := 4, slots := 24, locals := 12 } d [.ref a0] [(a0, .inr (0, [.null, .null, .null, .null, .int 0]))] (fun _ => True) (fun u => [(a0, .inr (0, [.ref (u 1), .ref (u 2), .ref (u 3), .ref (u 4), .int (nI 0)])), (u 1, aI d 6 (fun _ => 0)), (u 2, aI d 6 (fun _ => 0)), (u 3, aI d 6 (fun _ => 0)), (u 4, aI d 6 (fun _ => 0))]) := by
  refine yyV_of (own := RX0) [(0, .ref a0)] (by decide +kernel) rfl (Nat.le_of_ble_eq_true rfl) rfl ?_
  intro G Q hQ hGL hC hGA hin
  refine y_aload_n (pc := 0) hC 0 dX0_init_0 rfl ?_
  refine y_obj (pc := 1) hC kw_1_69 kw_1_21 kw_1_22 ⟨nb rfl, nb rfl⟩ dX0_init_1 ?_
  refine y_aload_n (pc := 4) hC 0 dX0_init_4 rfl ?_
  refine y_bipush (pc := 5) hC dX0_init_5 6 (by decide) ?_
  refine y_newaI (pc := 7) hC dX0_init_7 6 (fun q1 => [(a0, .inr (0, [.null, .null, .null, .null, .int 0])), (q1, aI d 6 (fun _ => 0))]) rfl rfl kw_1_62 ⟨nb rfl, nb rfl⟩ (fun _ => rfl) (fun q1 => ?_)
  refine y_putF (pc := 9) hC hin 0 0 (.array .int) dX0_init_9 tyX0 [(a0, .inr (0, [.ref q1, .null, .null, .null, .int 0])), (q1, aI d 6 (fun _ => 0))] rfl rfl rfl inX0 tyX0_ok nmX0 (by decide) kw_1_70 rfl rfl rfl (by decide +kernel) rfl rfl (Nat.le_of_ble_eq_true rfl) ?_
  refine y_aload_n (pc := 12) hC 0 dX0_init_12 rfl ?_
  refine y_bipush (pc := 13) hC dX0_init_13 6 (by decide) ?_
  refine y_newaI (pc := 15) hC dX0_init_15 6 (fun q2 => [(a0, .inr (0, [.ref q1, .null, .null, .null, .int 0])), (q1, aI d 6 (fun _ => 0)), (q2, aI d 6 (fun _ => 0))]) rfl rfl kw_1_62 ⟨nb rfl, nb rfl⟩ (fun _ => rfl) (fun q2 => ?_)
  refine y_putF (pc := 17) hC hin 0 1 (.array .int) dX0_init_17 tyX0 [(a0, .inr (0, [.ref q1, .ref q2, .null, .null, .int 0])), (q1, aI d 6 (fun _ => 0)), (q2, aI d 6 (fun _ => 0))] rfl rfl rfl inX0 tyX0_ok nmX0 (by decide) kw_1_72 rfl rfl rfl (by decide +kernel) rfl rfl (Nat.le_of_ble_eq_true rfl) ?_
  refine y_aload_n (pc := 20) hC 0 dX0_init_20 rfl ?_
  refine y_bipush (pc := 21) hC dX0_init_21 6 (by decide) ?_
  refine y_newaI (pc := 23) hC dX0_init_23 6 (fun q3 => [(a0, .inr (0, [.ref q1, .ref q2, .null, .null, .int 0])), (q1, aI d 6 (fun _ => 0)), (q2, aI d 6 (fun _ => 0)), (q3, aI d 6 (fun _ => 0))]) rfl rfl kw_1_62 ⟨nb rfl, nb rfl⟩ (fun _ => rfl) (fun q3 => ?_)
  refine y_putF (pc := 25) hC hin 0 2 (.array .int) dX0_init_25 tyX0 [(a0, .inr (0, [.ref q1, .ref q2, .ref q3, .null, .int 0])), (q1, aI d 6 (fun _ => 0)), (q2, aI d 6 (fun _ => 0)), (q3, aI d 6 (fun _ => 0))] rfl rfl rfl inX0 tyX0_ok nmX0 (by decide) kw_1_73 rfl rfl rfl (by decide +kernel) rfl rfl (Nat.le_of_ble_eq_true rfl) ?_
  refine y_aload_n (pc := 28) hC 0 dX0_init_28 rfl ?_
  refine y_bipush (pc := 29) hC dX0_init_29 6 (by decide) ?_
  refine y_newaI (pc := 31) hC dX0_init_31 6 (fun q4 => [(a0, .inr (0, [.ref q1, .ref q2, .ref q3, .null, .int 0])), (q1, aI d 6 (fun _ => 0)), (q2, aI d 6 (fun _ => 0)), (q3, aI d 6 (fun _ => 0)), (q4, aI d 6 (fun _ => 0))]) rfl rfl kw_1_62 ⟨nb rfl, nb rfl⟩ (fun _ => rfl) (fun q4 => ?_)
  refine y_putF (pc := 33) hC hin 0 3 (.array .int) dX0_init_33 tyX0 [(a0, .inr (0, [.ref q1, .ref q2, .ref q3, .ref q4, .int 0])), (q1, aI d 6 (fun _ => 0)), (q2, aI d 6 (fun _ => 0)), (q3, aI d 6 (fun _ => 0)), (q4, aI d 6 (fun _ => 0))] rfl rfl rfl inX0 tyX0_ok nmX0 (by decide) kw_1_74 rfl rfl rfl (by decide +kernel) rfl rfl (Nat.le_of_ble_eq_true rfl) ?_
  refine y_aload_n (pc := 36) hC 0 dX0_init_36 rfl ?_
  refine y_iconst (pc := 37) hC dX0_init_37 0 (by decide) ?_
  refine y_put (pc := 38) hC 0 4 .int dX0_init_38 tyX0 [(a0, .inr (0, [.ref q1, .ref q2, .ref q3, .ref q4, .int 0])), (q1, aI d 6 (fun _ => 0)), (q2, aI d 6 (fun _ => 0)), (q3, aI d 6 (fun _ => 0)), (q4, aI d 6 (fun _ => 0))] rfl rfl rfl inX0 tyX0_ok nmX0 (by decide) kw_1_75 rfl rfl (by decide +kernel) rfl rfl (Nat.le_of_ble_eq_true rfl) ?_
  exact y_vret (fun i => match i with | 1 => q1 | 2 => q2 | 3 => q3 | 4 => q4 | _ => a0) hC hQ (trivial) rfl (nb rfl) (nb rfl) dX0_init_41
theorem n_X0_init : yyN yX0_init RX0 0 := by refine ⟨rfl, ?_, ?_, ?_⟩ <;> decide +kernel
