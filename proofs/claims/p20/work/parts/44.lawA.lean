-- ROWS FOR THE LAW: below, cell, isSame
theorem and_nn (v : Int32) : v &&& 2147483647 = nI (v &&& 2147483647).toNatClampNeg ∧ (v &&& 2147483647).toNatClampNeg < 2 ^ 31 := by
  have h0 : (v &&& 2147483647).toBitVec.toNat < 2 ^ 31 := by
    show (v.toBitVec &&& (2147483647 : Int32).toBitVec).toNat < 2 ^ 31
    rw [BitVec.toNat_and]
    exact Nat.lt_of_le_of_lt Nat.and_le_right (by decide)
  generalize v &&& 2147483647 = x at h0 ⊢
  have e1 : x.toInt = (x.toBitVec.toNat : Int) := by
    show x.toBitVec.toInt = _
    rw [BitVec.toInt_eq_toNat_cond]
    split
    · rfl
    · omega
  have e2 : x.toNatClampNeg = x.toInt.toNat := rfl
  rw [e2, e1]
  refine ⟨?_, by omega⟩
  apply Int32.toInt_inj.mp
  rw [nI_toInt (by omega), e1]
  omega
theorem bw_rem {v : Int32} {n : Nat} (h0 : 0 < n) (hn : n < 2 ^ 31) : (v &&& 2147483647) - (v &&& 2147483647) / nI n * nI n = nI (bw v n) := by
  obtain ⟨e, hl⟩ := and_nn v
  unfold bw
  generalize (v &&& 2147483647).toNatClampNeg = a at e hl ⊢
  rw [e]
  exact pk_rem hl h0 hn
theorem nI_nz {n : Nat} (h0 : 0 < n) (hn : n < 2 ^ 31) : ¬ nI n = 0 := fun h => by
  have := nI_toInt hn
  rw [h] at this
  have e : (0 : Int32).toInt = 0 := rfl
  omega
theorem mean_cm {a m : Int32} (h : ¬ m = 0) : Op.cmpValue (FP.dcmp (FP.ddiv (FP.i2d a) (FP.i2d m)) (FP.ddiv (FP.i2d a) (FP.i2d m))) .l = 0 := by
  have hb : FP.Core.DFin (FP.Core.i2d m) := FP.Core.i2d_fin m
  have hz : ¬ FP.Core.DZero (FP.Core.i2d m) := fun z => FP.Core.i2d_ne_zero h ((FP.Core.zero_bits2 _).mp z)
  have ha : FP.Core.dIsNaN (FP.Core.i2d a) = false := by
    have := (FP.Core.fin_bits _).mp (FP.Core.i2d_fin a)
    have q := mt (FP.Core.isNaN_bits (FP.Core.i2d a)).mp (by omega)
    exact Bool.not_eq_true _ ▸ q
  have hn : ¬ FP.Core.dIsNaN (FP.Core.ddiv (FP.Core.i2d a) (FP.Core.i2d m)) = true := by
    rw [FP.Core.ddiv_out ha hb hz]
    decide
  have e : FP.ddiv (FP.i2d a) (FP.i2d m) = FP.Core.ddiv (FP.Core.i2d a) (FP.Core.i2d m) := by rw [FP.ddiv_core, FP.i2d_core]
  have hv : FP.Core.val64 (FP.Core.ddiv (FP.Core.i2d a) (FP.Core.i2d m)) ≠ .nan := mt (FP.Core.dIsNaN_iff _).mpr hn
  rw [e, FP.dcmp_core, FP.Core.dcmp_self hv]
  rfl
theorem mean_c0 (f : fI) {n : Nat} (h : nI n = 0) : Op.cmpValue (FP.dcmp (meanF f n) FP.dconst0) .l = 0 := by
  unfold meanF
  rw [if_pos h]
  decide +kernel
theorem mean_c1 {f : fI} {a : Int32} {n : Nat} (h : ¬ nI n = 0) (ha : a = sumF f n) : Op.cmpValue (FP.dcmp (meanF f n) (FP.ddiv (FP.i2d a) (FP.i2d (nI n)))) .l = 0 := by
  unfold meanF
  rw [if_neg h, ha]
  exact mean_cm h
set_option maxHeartbeats 8000000 in
set_option maxRecDepth 100000 in
theorem c_L_below (l : Launch) (d : yyD) (v : Int32) (n : Nat) (h0 : 0 < n) (hn : n < 2 ^ 31) : yyI l yL_below cL_below 2 (some .int) { frames := 0, cells := 0, slots := 0, locals := 0 } d [.int v, .int (nI n)] (fl []) (fl []) (nI (bw v n)) := by
  refine yyI_of (own := RL) [(0, .int v), (1, .int (nI n))] (by decide +kernel) rfl (Nat.le_of_ble_eq_true rfl) rfl ?_
  intro G Q hQ hGL hC hGA
  refine y_iload_n (pc := 0) hC 0 dL_below_0 rfl ?_
  refine y_ldc (pc := 1) hC dL_below_1 kw_2_216 ?_
  refine y_iand (pc := 3) hC dL_below_3 (v &&& 2147483647) rfl ?_
  refine y_iload_n (pc := 4) hC 1 dL_below_4 rfl ?_
  refine y_irem (pc := 5) hC dL_below_5 (nI (bw v n)) (bw_rem h0 hn) (nI_nz h0 hn) ?_
  exact y_iret hC hQ rfl rfl rfl (nb rfl) (nb rfl) dL_below_6
theorem n_L_below : yyN yL_below RL 2 := by refine ⟨rfl, ?_, ?_, ?_⟩ <;> decide +kernel
set_option maxHeartbeats 8000000 in
set_option maxRecDepth 100000 in
theorem c_L_cell (l : Launch) (d : yyD) (b : Nat) (L : Nat) (xs : Nat → Int32) (k : Nat) (hL : L ≤ 260) (hk : k < 1000) : yyIX b L xs l yL_cell cL_cell 2 (some .int) { frames := 0, cells := 0, slots := 0, locals := 0 } d [.ref b, .int (nI k)] (fl []) (fl []) (cellF xs L k) := by
  refine yyIX_of (own := RL) [(0, .ref b), (1, .int (nI k))] (by decide +kernel) rfl (Nat.le_of_ble_eq_true rfl) rfl ?_
  intro G Q hQ hGL hC hF
  refine y_iload_n (pc := 0) hC 1 dL_cell_0 rfl ?_
  refine y_aload_n (pc := 1) hC 0 dL_cell_1 rfl ?_
  refine y_slen (pc := 2) hC hF dL_cell_2 ?_
  refine y_cmp_ge (pc := 3) hC dL_cell_3 12 (by decide) (fun c_1 => ?_) (fun c_1 => ?_)
  · refine y_ldc (pc := 12) hC dL_cell_12 kw_2_220 ?_
    refine y_iload_n (pc := 14) hC 1 dL_cell_14 rfl ?_
    refine y_iconst (pc := 15) hC dL_cell_15 3 (by decide) ?_
    refine y_iadd (pc := 16) hC dL_cell_16 ((nI k) + 3) rfl ?_
    refine y_imul (pc := 17) hC dL_cell_17 (790386105 * ((nI k) + 3)) rfl ?_
    exact y_iret hC hQ rfl rfl (by unfold cellF; simp only [c_1, ↓reduceIte]) (nb rfl) (nb rfl) dL_cell_18
  · refine y_aload_n (pc := 6) hC 0 dL_cell_6 rfl ?_
    refine y_iload_n (pc := 7) hC 1 dL_cell_7 rfl ?_
    refine y_sld (pc := 8) hC hF dL_cell_8 (xs k) hL (Nat.lt_of_not_le (fun q => c_1 (nI_le q (by omega)))) rfl ?_
    refine y_goto (pc := 9) hC dL_cell_9 18 (by decide) ?_
    exact y_iret hC hQ rfl rfl (by unfold cellF; simp only [c_1, ↓reduceIte]) (nb rfl) (nb rfl) dL_cell_18
theorem n_L_cell : yyN yL_cell RL 2 := by refine ⟨rfl, ?_, ?_, ?_⟩ <;> decide +kernel
set_option maxHeartbeats 8000000 in
set_option maxRecDepth 100000 in
theorem c_X5_isSame (l : Launch) (d : yyD) (x : Nat) (v : Nat → Nat) (a : Nat → Nat) (b : Nat → Nat) (c : Nat → Nat) (x0 : Nat) (u : Nat → Nat) (e : ES) (h : Nat) (s : DS) (hJ : Jv e h s) (hh : h ≤ 10000) : yyI l yX5_isSame cX5_isSame 4 (some .boolean) { frames := 5, cells := 1, slots := 10, locals := 106 } d [.ref x, .ref x0] (fl [[(x, .inr (5, [.int (nI h), .int (sCo s), .ref (v 0), .ref (v 1), .ref (v 2), .ref (v 3)]))], [(v 0, aI d 6 (eWd e))], [(v 1, aR d (eN e) (fun i => some (a i)))], [(v 2, aR d (eNk e) (fun i => some (b i)))], [(v 3, aR d (eNc e) (fun i => some (c i)))], sg d 7 a (yrow e s) (eN e), sg d 4 b (krow e s) (eNk e), sg d 4 c (crow e s) (eNc e), mN d x0 u e h s]) (fl [[(x, .inr (5, [.int (nI h), .int (sCo s), .ref (v 0), .ref (v 1), .ref (v 2), .ref (v 3)]))], [(v 0, aI d 6 (eWd e))], [(v 1, aR d (eN e) (fun i => some (a i)))], [(v 2, aR d (eNk e) (fun i => some (b i)))], [(v 3, aR d (eNc e) (fun i => some (c i)))], sg d 7 a (yrow e s) (eN e), sg d 4 b (krow e s) (eNk e), sg d 4 c (crow e s) (eNc e), mN d x0 u e h s]) 1 := by
  refine yyI_of (own := RX5) [(0, .ref x), (1, .ref x0)] (by decide +kernel) rfl (Nat.le_of_ble_eq_true rfl) rfl ?_
  intro G Q hQ hGL hC hGA
  have hb1 := hJ.1.1
  have hb2 := hJ.1.2.1
  have hb3 := hJ.1.2.2
  refine y_iconst (pc := 0) hC dX5_isSame_0 0 (by decide) ?_
  refine y_istore_n (pc := 1) hC dX5_isSame_1 [(2, .int 0), (0, .ref x), (1, .ref x0)] rfl (by decide) ?_
  have lpj1 : ∀ r1 j1 : Nat, j1 + r1 = (eN e) → yyW d G 0 0 Q (fl [[(x, .inr (5, [.int (nI h), .int (sCo s), .ref (v 0), .ref (v 1), .ref (v 2), .ref (v 3)]))], [(v 0, aI d 6 (eWd e))], [(v 1, aR d (eN e) (fun i => some (a i)))], [(v 2, aR d (eNk e) (fun i => some (b i)))], [(v 3, aR d (eNc e) (fun i => some (c i)))], sg d 7 a (yrow e s) (eN e), sg d 4 b (krow e s) (eNk e), sg d 4 c (crow e s) (eNc e), mN d x0 u e h s]) [(2, .int (nI j1)), (0, .ref x), (1, .ref x0)] 2 [] := by
    intro r1
    induction r1 with
    | zero =>
      intro j1 hj1
      have ej1 : j1 = eN e := by omega
      rw [ej1]
      refine y_iload_n (pc := 2) hC 0 dX5_isSame_2 rfl ?_
      refine y_aload_n (pc := 3) hC 1 dX5_isSame_3 rfl ?_
      refine y_get (pc := 4) hC 0 3 dX5_isSame_4 rfl rfl inX5 (by decide) kw_3_73 rfl rfl ?_
      refine y_alenR (pc := 7) hC 2 dX5_isSame_7 rfl ?_
      refine y_ge_t (pc := 8) (a := eN e) (b := eN e) hC dX5_isSame_8 50 (by decide) (by omega) (by omega) ?_
      refine y_iconst (pc := 50) hC dX5_isSame_50 0 (by decide) ?_
      refine y_istore_n (pc := 51) hC dX5_isSame_51 [(2, .int 0), (0, .ref x), (1, .ref x0)] rfl (by decide) ?_
      have lpj2 : ∀ r2 j2 : Nat, j2 + r2 = (eNk e) → yyW d G 0 0 Q (fl [[(x, .inr (5, [.int (nI h), .int (sCo s), .ref (v 0), .ref (v 1), .ref (v 2), .ref (v 3)]))], [(v 0, aI d 6 (eWd e))], [(v 1, aR d (eN e) (fun i => some (a i)))], [(v 2, aR d (eNk e) (fun i => some (b i)))], [(v 3, aR d (eNc e) (fun i => some (c i)))], sg d 7 a (yrow e s) (eN e), sg d 4 b (krow e s) (eNk e), sg d 4 c (crow e s) (eNc e), mN d x0 u e h s]) [(2, .int (nI j2)), (0, .ref x), (1, .ref x0)] 52 [] := by
        intro r2
        induction r2 with
        | zero =>
          intro j2 hj2
          have ej2 : j2 = eNk e := by omega
          rw [ej2]
          refine y_iload_n (pc := 52) hC 0 dX5_isSame_52 rfl ?_
          refine y_aload_n (pc := 53) hC 1 dX5_isSame_53 rfl ?_
          refine y_get (pc := 54) hC 0 4 dX5_isSame_54 rfl rfl inX5 (by decide) kw_3_75 rfl rfl ?_
          refine y_alenR (pc := 57) hC 3 dX5_isSame_57 rfl ?_
          refine y_ge_t (pc := 58) (a := eNk e) (b := eNk e) hC dX5_isSame_58 120 (by decide) (by omega) (by omega) ?_
          refine y_iconst (pc := 120) hC dX5_isSame_120 0 (by decide) ?_
          refine y_istore_n (pc := 121) hC dX5_isSame_121 [(2, .int 0), (0, .ref x), (1, .ref x0)] rfl (by decide) ?_
          have lpj3 : ∀ r3 j3 : Nat, j3 + r3 = (eNc e) → yyW d G 0 0 Q (fl [[(x, .inr (5, [.int (nI h), .int (sCo s), .ref (v 0), .ref (v 1), .ref (v 2), .ref (v 3)]))], [(v 0, aI d 6 (eWd e))], [(v 1, aR d (eN e) (fun i => some (a i)))], [(v 2, aR d (eNk e) (fun i => some (b i)))], [(v 3, aR d (eNc e) (fun i => some (c i)))], sg d 7 a (yrow e s) (eN e), sg d 4 b (krow e s) (eNk e), sg d 4 c (crow e s) (eNc e), mN d x0 u e h s]) [(2, .int (nI j3)), (0, .ref x), (1, .ref x0)] 122 [] := by
            intro r3
            induction r3 with
            | zero =>
              intro j3 hj3
              have ej3 : j3 = eNc e := by omega
              rw [ej3]
              refine y_iload_n (pc := 122) hC 0 dX5_isSame_122 rfl ?_
              refine y_aload_n (pc := 123) hC 1 dX5_isSame_123 rfl ?_
              refine y_get (pc := 124) hC 0 5 dX5_isSame_124 rfl rfl inX5 (by decide) kw_3_77 rfl rfl ?_
              refine y_alenR (pc := 127) hC 4 dX5_isSame_127 rfl ?_
              refine y_ge_t (pc := 128) (a := eNc e) (b := eNc e) hC dX5_isSame_128 169 (by decide) (by omega) (by omega) ?_
              refine y_aload_n (pc := 169) hC 1 dX5_isSame_169 rfl ?_
              refine yb_cut [0, 1, 2, 3, 4, 5, 6, 7, 8] 9 [[(x, .inr (5, [.int (nI h), .int (sCo s), .ref (v 0), .ref (v 1), .ref (v 2), .ref (v 3)]))], [(v 0, aI d 6 (eWd e))], [(v 1, aR d (eN e) (fun i => some (a i)))], [(v 2, aR d (eNk e) (fun i => some (b i)))], [(v 3, aR d (eNc e) (fun i => some (c i)))], sg d 7 a (yrow e s) (eN e), sg d 4 b (krow e s) (eNk e), sg d 4 c (crow e s) (eNc e)] [mN d x0 u e h s] _ rfl (by decide) rfl rfl ?_
              refine yb_cA (pc := 170) (As := []) (st := []) hC (c_X5_counts (gL G) d x v a b c h (sCo s) (eWd e) (eN e) (eNk e) (eNc e) (yrow e s) (krow e s) (crow e s) (by omega) (by omega) (by omega) (by omega)) kw_2_202 kw_2_199 kw_2_200 kw_2_201 kw_1_6 n_X5_counts ⟨⟨nb rfl, nb rfl⟩, ⟨(by show 0 + 1 ≤ 1; omega), (by show 0 + 10 ≤ 10; omega)⟩, nb rfl⟩ 0 rfl rfl rfl dX5_isSame_170 ?_
              intro a4
              refine yb_putp [[(a4, aI d 10 (cntR h (sCo s) (eN e) (eNk e) (eNc e) (yrow e s) (krow e s) (crow e s)))], [(x, .inr (5, [.int (nI h), .int (sCo s), .ref (v 0), .ref (v 1), .ref (v 2), .ref (v 3)]))], [(v 0, aI d 6 (eWd e))], [(v 1, aR d (eN e) (fun i => some (a i)))], [(v 2, aR d (eNk e) (fun i => some (b i)))], [(v 3, aR d (eNc e) (fun i => some (c i)))], sg d 7 a (yrow e s) (eN e), sg d 4 b (krow e s) (eNk e), sg d 4 c (crow e s) (eNc e)] [0, 1, 2, 3, 4, 5, 6, 7, 8, 9] 10 [[(a4, aI d 10 (cntR h (sCo s) (eN e) (eNk e) (eNc e) (yrow e s) (krow e s) (crow e s)))], [(x, .inr (5, [.int (nI h), .int (sCo s), .ref (v 0), .ref (v 1), .ref (v 2), .ref (v 3)]))], [(v 0, aI d 6 (eWd e))], [(v 1, aR d (eN e) (fun i => some (a i)))], [(v 2, aR d (eNk e) (fun i => some (b i)))], [(v 3, aR d (eNc e) (fun i => some (c i)))], sg d 7 a (yrow e s) (eN e), sg d 4 b (krow e s) (eNk e), sg d 4 c (crow e s) (eNc e), mN d x0 u e h s] rfl rfl (by decide) rfl ?_
              refine y_astore_n (pc := 173) hC dX5_isSame_173 [(2, .ref a4), (0, .ref x), (1, .ref x0)] rfl (by decide) ?_
              refine y_iconst (pc := 174) hC dX5_isSame_174 0 (by decide) ?_
              refine y_istore_n (pc := 175) hC dX5_isSame_175 [(3, .int 0), (2, .ref a4), (0, .ref x), (1, .ref x0)] rfl (by decide) ?_
              have lpj5 : ∀ r5 j5 : Nat, j5 + r5 = 10 → yyW d G (0 + 1) (0 + 10) Q (fl [[(a4, aI d 10 (cntR h (sCo s) (eN e) (eNk e) (eNc e) (yrow e s) (krow e s) (crow e s)))], [(x, .inr (5, [.int (nI h), .int (sCo s), .ref (v 0), .ref (v 1), .ref (v 2), .ref (v 3)]))], [(v 0, aI d 6 (eWd e))], [(v 1, aR d (eN e) (fun i => some (a i)))], [(v 2, aR d (eNk e) (fun i => some (b i)))], [(v 3, aR d (eNc e) (fun i => some (c i)))], sg d 7 a (yrow e s) (eN e), sg d 4 b (krow e s) (eNk e), sg d 4 c (crow e s) (eNc e), mN d x0 u e h s]) [(3, .int (nI j5)), (2, .ref a4), (0, .ref x), (1, .ref x0)] 176 [] := by
                intro r5
                induction r5 with
                | zero =>
                  intro j5 hj5
                  have ej5 : j5 = 10 := by omega
                  rw [ej5]
                  refine y_iload_n (pc := 176) hC 0 dX5_isSame_176 rfl ?_
                  refine y_bipush (pc := 177) hC dX5_isSame_177 10 (by decide) ?_
                  refine y_ge_t (pc := 179) (a := 10) (b := 10) hC dX5_isSame_179 201 (by decide) (by omega) (by omega) ?_
                  refine y_aload_n (pc := 201) hC 3 dX5_isSame_201 rfl ?_
                  refine yb_cut [9, 0, 1, 2, 3, 4, 5, 6, 7, 8] 10 [mN d x0 u e h s] [[(a4, aI d 10 (cntR h (sCo s) (eN e) (eNk e) (eNc e) (yrow e s) (krow e s) (crow e s)))], [(x, .inr (5, [.int (nI h), .int (sCo s), .ref (v 0), .ref (v 1), .ref (v 2), .ref (v 3)]))], [(v 0, aI d 6 (eWd e))], [(v 1, aR d (eN e) (fun i => some (a i)))], [(v 2, aR d (eNk e) (fun i => some (b i)))], [(v 3, aR d (eNc e) (fun i => some (c i)))], sg d 7 a (yrow e s) (eN e), sg d 4 b (krow e s) (eNk e), sg d 4 c (crow e s) (eNc e)] _ rfl (by decide) rfl rfl ?_
                  refine y_cM (pc := 202) (As := []) (st := []) hC (m_mean (gL G) d x0 u e h s (by omega)) kw_2_211 kw_2_208 kw_2_209 kw_2_210 kw_1_1 n_X4_mean ⟨⟨nb rfl, nb rfl⟩, ⟨(by show 0 + 1 + 0 ≤ 1; omega), (by show 0 + 10 + 0 ≤ 10; omega)⟩, nb rfl⟩ 0 rfl rfl rfl dX5_isSame_202 ?_
                  refine yb_putp [mN d x0 u e h s] [1, 2, 3, 4, 5, 6, 7, 8, 9, 0] 10 [[(a4, aI d 10 (cntR h (sCo s) (eN e) (eNk e) (eNc e) (yrow e s) (krow e s) (crow e s)))], [(x, .inr (5, [.int (nI h), .int (sCo s), .ref (v 0), .ref (v 1), .ref (v 2), .ref (v 3)]))], [(v 0, aI d 6 (eWd e))], [(v 1, aR d (eN e) (fun i => some (a i)))], [(v 2, aR d (eNk e) (fun i => some (b i)))], [(v 3, aR d (eNc e) (fun i => some (c i)))], sg d 7 a (yrow e s) (eN e), sg d 4 b (krow e s) (eNk e), sg d 4 c (crow e s) (eNc e), mN d x0 u e h s] rfl rfl (by decide) rfl ?_
                  refine y_aload_n (pc := 205) hC 2 dX5_isSame_205 rfl ?_
                  refine y_get (pc := 206) hC 1 3 dX5_isSame_206 rfl rfl inX5 (by decide) kw_3_73 rfl rfl ?_
                  refine y_alenR (pc := 209) hC 3 dX5_isSame_209 rfl ?_
                  refine y_if_ne (pc := 210) hC dX5_isSame_210 217 (by decide) (fun c_6 => ?_) (fun c_6 => ?_)
                  · refine y_aload_n (pc := 217) hC 2 dX5_isSame_217 rfl ?_
                    refine y_aload_n (pc := 218) hC 2 dX5_isSame_218 rfl ?_
                    refine y_get (pc := 219) hC 1 3 dX5_isSame_219 rfl rfl inX5 (by decide) kw_3_73 rfl rfl ?_
                    refine y_iconst (pc := 222) hC dX5_isSame_222 1 (by decide) ?_
                    refine yb_cut [1, 3, 6, 0, 2, 4, 5, 7, 8, 9] 10 [[(x, .inr (5, [.int (nI h), .int (sCo s), .ref (v 0), .ref (v 1), .ref (v 2), .ref (v 3)]))], [(v 1, aR d (eN e) (fun i => some (a i)))], sg d 7 a (yrow e s) (eN e)] [[(a4, aI d 10 (cntR h (sCo s) (eN e) (eNk e) (eNc e) (yrow e s) (krow e s) (crow e s)))], [(v 0, aI d 6 (eWd e))], [(v 2, aR d (eNk e) (fun i => some (b i)))], [(v 3, aR d (eNc e) (fun i => some (c i)))], sg d 4 b (krow e s) (eNk e), sg d 4 c (crow e s) (eNc e), mN d x0 u e h s] _ rfl (by decide) rfl rfl ?_
                    refine y_cI (pc := 223) (As := [.ref (v 1), .int 1]) (st := [.double (meanF (sVi s) (eN e))]) hC (c_X5_sum7 (gL G) d x v a (v 1) h (sCo s) (yrow e s) (eN e) 1 (by omega) (by omega)) kw_2_206 kw_2_203 kw_2_204 kw_2_205 kw_1_6 n_X5_sum ⟨⟨nb rfl, nb rfl⟩, ⟨(by show 0 + 1 + 0 + 0 ≤ 1; omega), (by show 0 + 10 + 0 + 0 ≤ 10; omega)⟩, nb rfl⟩ _ _ _ 0 _ _ rfl rfl (cut_app _ _) (put_app _ _) rfl dX5_isSame_223 ?_
                    refine yb_putp [[(x, .inr (5, [.int (nI h), .int (sCo s), .ref (v 0), .ref (v 1), .ref (v 2), .ref (v 3)]))], [(v 1, aR d (eN e) (fun i => some (a i)))], sg d 7 a (yrow e s) (eN e)] [3, 0, 4, 1, 5, 6, 2, 7, 8, 9] 10 [[(a4, aI d 10 (cntR h (sCo s) (eN e) (eNk e) (eNc e) (yrow e s) (krow e s) (crow e s)))], [(x, .inr (5, [.int (nI h), .int (sCo s), .ref (v 0), .ref (v 1), .ref (v 2), .ref (v 3)]))], [(v 0, aI d 6 (eWd e))], [(v 1, aR d (eN e) (fun i => some (a i)))], [(v 2, aR d (eNk e) (fun i => some (b i)))], [(v 3, aR d (eNc e) (fun i => some (c i)))], sg d 7 a (yrow e s) (eN e), sg d 4 b (krow e s) (eNk e), sg d 4 c (crow e s) (eNc e), mN d x0 u e h s] rfl rfl (by decide) rfl ?_
                    refine y_i2d (pc := 226) hC dX5_isSame_226 ?_
                    refine y_aload_n (pc := 227) hC 2 dX5_isSame_227 rfl ?_
                    refine y_get (pc := 228) hC 1 3 dX5_isSame_228 rfl rfl inX5 (by decide) kw_3_73 rfl rfl ?_
                    refine y_alenR (pc := 231) hC 3 dX5_isSame_231 rfl ?_
                    refine y_i2d (pc := 232) hC dX5_isSame_232 ?_
                    refine y_ddiv (pc := 233) hC dX5_isSame_233 (fp_no _ _ c_6) ?_
                    refine y_dcmp (pc := 234) hC dX5_isSame_234 ?_
                    refine y_if_ne (pc := 235) hC dX5_isSame_235 242 (by decide) (fun c => absurd (mean_c1 c_6 (mean_eq e s)) c) (fun _ => ?_)
                    refine y_iconst (pc := 238) hC dX5_isSame_238 1 (by decide) ?_
                    refine y_goto (pc := 239) hC dX5_isSame_239 243 (by decide) ?_
                    refine yb_drop [1, 2, 3, 4, 5, 6, 7, 8, 9, 0] 10 [[(x, .inr (5, [.int (nI h), .int (sCo s), .ref (v 0), .ref (v 1), .ref (v 2), .ref (v 3)]))], [(v 0, aI d 6 (eWd e))], [(v 1, aR d (eN e) (fun i => some (a i)))], [(v 2, aR d (eNk e) (fun i => some (b i)))], [(v 3, aR d (eNc e) (fun i => some (c i)))], sg d 7 a (yrow e s) (eN e), sg d 4 b (krow e s) (eNk e), sg d 4 c (crow e s) (eNc e), mN d x0 u e h s] [[(a4, aI d 10 (cntR h (sCo s) (eN e) (eNk e) (eNc e) (yrow e s) (krow e s) (crow e s)))]] rfl (by decide) rfl ?_
                    exact y_iret hC hQ rfl rfl rfl (by show 0 + 1 + 0 + 0 ≤ 1; omega) (by show 0 + 10 + 0 + 0 ≤ 10; omega) dX5_isSame_243
                  · refine y_dconst0 (pc := 213) hC dX5_isSame_213 ?_
                    refine y_goto (pc := 214) hC dX5_isSame_214 234 (by decide) ?_
                    refine y_dcmp (pc := 234) hC dX5_isSame_234 ?_
                    refine y_if_ne (pc := 235) hC dX5_isSame_235 242 (by decide) (fun c => absurd (mean_c0 _ c_6) c) (fun _ => ?_)
                    refine y_iconst (pc := 238) hC dX5_isSame_238 1 (by decide) ?_
                    refine y_goto (pc := 239) hC dX5_isSame_239 243 (by decide) ?_
                    refine yb_drop [1, 2, 3, 4, 5, 6, 7, 8, 9, 0] 10 [[(x, .inr (5, [.int (nI h), .int (sCo s), .ref (v 0), .ref (v 1), .ref (v 2), .ref (v 3)]))], [(v 0, aI d 6 (eWd e))], [(v 1, aR d (eN e) (fun i => some (a i)))], [(v 2, aR d (eNk e) (fun i => some (b i)))], [(v 3, aR d (eNc e) (fun i => some (c i)))], sg d 7 a (yrow e s) (eN e), sg d 4 b (krow e s) (eNk e), sg d 4 c (crow e s) (eNc e), mN d x0 u e h s] [[(a4, aI d 10 (cntR h (sCo s) (eN e) (eNk e) (eNc e) (yrow e s) (krow e s) (crow e s)))]] rfl (by decide) rfl ?_
                    exact y_iret hC hQ rfl rfl rfl (by show 0 + 1 + 0 ≤ 1; omega) (by show 0 + 10 + 0 ≤ 10; omega) dX5_isSame_243
                | succ r5 ihj5 =>
                  intro j5 hj5
                  have lj5 : j5 < 10 := by omega
                  refine y_iload_n (pc := 176) hC 0 dX5_isSame_176 rfl ?_
                  refine y_bipush (pc := 177) hC dX5_isSame_177 10 (by decide) ?_
                  refine y_ge_f (pc := 179) (a := j5) (b := 10) hC dX5_isSame_179 201 (by decide) (by omega) (by omega) ?_
                  refine y_aload_n (pc := 182) hC 3 dX5_isSame_182 rfl ?_
                  refine y_iload_n (pc := 183) hC 0 dX5_isSame_183 rfl ?_
                  refine yb_cut [9, 0, 1, 2, 3, 4, 5, 6, 7, 8] 10 [mN d x0 u e h s] [[(a4, aI d 10 (cntR h (sCo s) (eN e) (eNk e) (eNc e) (yrow e s) (krow e s) (crow e s)))], [(x, .inr (5, [.int (nI h), .int (sCo s), .ref (v 0), .ref (v 1), .ref (v 2), .ref (v 3)]))], [(v 0, aI d 6 (eWd e))], [(v 1, aR d (eN e) (fun i => some (a i)))], [(v 2, aR d (eNk e) (fun i => some (b i)))], [(v 3, aR d (eNc e) (fun i => some (c i)))], sg d 7 a (yrow e s) (eN e), sg d 4 b (krow e s) (eNk e), sg d 4 c (crow e s) (eNc e)] _ rfl (by decide) rfl rfl ?_
                  refine y_cI (pc := 184) (As := [.int (nI j5)]) (st := []) hC (m_count (gL G) d x0 u e h s j5 (by omega) (by omega) (by omega) (by omega) (by omega)) kw_2_6 kw_2_207 kw_2_4 kw_2_5 kw_1_1 n_X4_count ⟨⟨nb rfl, nb rfl⟩, ⟨(by show 0 + 1 + 0 ≤ 1; omega), (by show 0 + 10 + 0 ≤ 10; omega)⟩, nb rfl⟩ _ _ _ 0 _ _ rfl rfl (cut_app _ _) (put_app _ _) rfl dX5_isSame_184 ?_
                  refine yb_putp [mN d x0 u e h s] [1, 2, 3, 4, 5, 6, 7, 8, 9, 0] 10 [[(a4, aI d 10 (cntR h (sCo s) (eN e) (eNk e) (eNc e) (yrow e s) (krow e s) (crow e s)))], [(x, .inr (5, [.int (nI h), .int (sCo s), .ref (v 0), .ref (v 1), .ref (v 2), .ref (v 3)]))], [(v 0, aI d 6 (eWd e))], [(v 1, aR d (eN e) (fun i => some (a i)))], [(v 2, aR d (eNk e) (fun i => some (b i)))], [(v 3, aR d (eNc e) (fun i => some (c i)))], sg d 7 a (yrow e s) (eN e), sg d 4 b (krow e s) (eNk e), sg d 4 c (crow e s) (eNc e), mN d x0 u e h s] rfl rfl (by decide) rfl ?_
                  refine y_aload_n (pc := 187) hC 1 dX5_isSame_187 rfl ?_
                  refine y_iload_n (pc := 188) hC 0 dX5_isSame_188 rfl ?_
                  refine y_iald (pc := 189) hC 0 (j := j5) dX5_isSame_189 ((cntR h (sCo s) (eN e) (eNk e) (eNc e) (yrow e s) (krow e s) (crow e s)) j5) rfl (by omega) rfl rfl ?_
                  refine y_cmp_eq (pc := 190) hC dX5_isSame_190 195 (by decide) (fun _ => ?_) (fun c => absurd (cnt_eq (by omega)).symm c)
                  refine y_iinc (pc := 195) hC 0 dX5_isSame_195 (nI (j5 + 1)) [(3, .int (nI (j5 + 1))), (2, .ref a4), (0, .ref x), (1, .ref x0)] rfl (nI_inc _) rfl (by decide) ?_
                  refine y_goto (pc := 198) hC dX5_isSame_198 176 (by decide) ?_
                  refine y_ws (fl [[(a4, aI d 10 (cntR h (sCo s) (eN e) (eNk e) (eNc e) (yrow e s) (krow e s) (crow e s)))], [(x, .inr (5, [.int (nI h), .int (sCo s), .ref (v 0), .ref (v 1), .ref (v 2), .ref (v 3)]))], [(v 0, aI d 6 (eWd e))], [(v 1, aR d (eN e) (fun i => some (a i)))], [(v 2, aR d (eNk e) (fun i => some (b i)))], [(v 3, aR d (eNc e) (fun i => some (c i)))], sg d 7 a (yrow e s) (eN e), sg d 4 b (krow e s) (eNk e), sg d 4 c (crow e s) (eNc e), mN d x0 u e h s]) rfl ?_
                  exact ihj5 (j5 + 1) (by omega)
              refine y_lv [(3, .int 0), (2, .ref a4), (0, .ref x), (1, .ref x0)] [0, 1, 2, 3] rfl ?_
              exact lpj5 10 0 (by omega)
            | succ r3 ihj3 =>
              intro j3 hj3
              have lj3 : j3 < eNc e := by omega
              refine y_iload_n (pc := 122) hC 0 dX5_isSame_122 rfl ?_
              refine y_aload_n (pc := 123) hC 1 dX5_isSame_123 rfl ?_
              refine y_get (pc := 124) hC 0 5 dX5_isSame_124 rfl rfl inX5 (by decide) kw_3_77 rfl rfl ?_
              refine y_alenR (pc := 127) hC 4 dX5_isSame_127 rfl ?_
              refine y_ge_f (pc := 128) (a := j3) (b := eNc e) hC dX5_isSame_128 169 (by decide) (by omega) (by omega) ?_
              refine y_iconst (pc := 131) hC dX5_isSame_131 0 (by decide) ?_
              refine y_istore_n (pc := 132) hC dX5_isSame_132 [(3, .int 0), (2, .int (nI j3)), (0, .ref x), (1, .ref x0)] rfl (by decide) ?_
              have lpj7 : ∀ r7 j7 : Nat, j7 + r7 = 4 → yyW d G 0 0 Q (fl [[(x, .inr (5, [.int (nI h), .int (sCo s), .ref (v 0), .ref (v 1), .ref (v 2), .ref (v 3)]))], [(v 0, aI d 6 (eWd e))], [(v 1, aR d (eN e) (fun i => some (a i)))], [(v 2, aR d (eNk e) (fun i => some (b i)))], [(v 3, aR d (eNc e) (fun i => some (c i)))], sg d 7 a (yrow e s) (eN e), sg d 4 b (krow e s) (eNk e), sg d 4 c (crow e s) (eNc e), mN d x0 u e h s]) [(3, .int (nI j7)), (2, .int (nI j3)), (0, .ref x), (1, .ref x0)] 133 [] := by
                intro r7
                induction r7 with
                | zero =>
                  intro j7 hj7
                  have ej7 : j7 = 4 := by omega
                  rw [ej7]
                  refine y_iload_n (pc := 133) hC 0 dX5_isSame_133 rfl ?_
                  refine y_iconst (pc := 134) hC dX5_isSame_134 4 (by decide) ?_
                  refine y_ge_t (pc := 135) (a := 4) (b := 4) hC dX5_isSame_135 163 (by decide) (by omega) (by omega) ?_
                  refine y_iinc (pc := 163) hC 1 dX5_isSame_163 (nI (j3 + 1)) [(2, .int (nI (j3 + 1))), (3, .int (nI 4)), (0, .ref x), (1, .ref x0)] rfl (nI_inc _) rfl (by decide) ?_
                  refine y_goto (pc := 166) hC dX5_isSame_166 122 (by decide) ?_
                  refine y_lv [(2, .int (nI (j3 + 1))), (0, .ref x), (1, .ref x0)] [0, 2, 3] rfl ?_
                  refine y_ws (fl [[(x, .inr (5, [.int (nI h), .int (sCo s), .ref (v 0), .ref (v 1), .ref (v 2), .ref (v 3)]))], [(v 0, aI d 6 (eWd e))], [(v 1, aR d (eN e) (fun i => some (a i)))], [(v 2, aR d (eNk e) (fun i => some (b i)))], [(v 3, aR d (eNc e) (fun i => some (c i)))], sg d 7 a (yrow e s) (eN e), sg d 4 b (krow e s) (eNk e), sg d 4 c (crow e s) (eNc e), mN d x0 u e h s]) rfl ?_
                  exact ihj3 (j3 + 1) (by omega)
                | succ r7 ihj7 =>
                  intro j7 hj7
                  have lj7 : j7 < 4 := by omega
                  refine y_iload_n (pc := 133) hC 0 dX5_isSame_133 rfl ?_
                  refine y_iconst (pc := 134) hC dX5_isSame_134 4 (by decide) ?_
                  refine y_ge_f (pc := 135) (a := j7) (b := 4) hC dX5_isSame_135 163 (by decide) (by omega) (by omega) ?_
                  refine y_aload_n (pc := 138) hC 3 dX5_isSame_138 rfl ?_
                  refine y_iload_n (pc := 139) hC 1 dX5_isSame_139 rfl ?_
                  refine y_iload_n (pc := 140) hC 0 dX5_isSame_140 rfl ?_
                  refine yb_cut [8, 0, 1, 2, 3, 4, 5, 6, 7] 9 [mN d x0 u e h s] [[(x, .inr (5, [.int (nI h), .int (sCo s), .ref (v 0), .ref (v 1), .ref (v 2), .ref (v 3)]))], [(v 0, aI d 6 (eWd e))], [(v 1, aR d (eN e) (fun i => some (a i)))], [(v 2, aR d (eNk e) (fun i => some (b i)))], [(v 3, aR d (eNc e) (fun i => some (c i)))], sg d 7 a (yrow e s) (eN e), sg d 4 b (krow e s) (eNk e), sg d 4 c (crow e s) (eNc e)] _ rfl (by decide) rfl rfl ?_
                  refine y_cI (pc := 141) (As := [.int (nI j3), .int (nI j7)]) (st := []) hC (m_cloud (gL G) d x0 u e h s j3 j7 (by omega) (by omega) (by omega)) kw_1_238 kw_2_198 kw_1_236 kw_1_237 kw_1_1 n_X4_cloud ⟨⟨nb rfl, nb rfl⟩, ⟨(by show 0 + 0 ≤ 1; omega), (by show 0 + 0 ≤ 10; omega)⟩, nb rfl⟩ _ _ _ 0 _ _ rfl rfl (cut_app _ _) (put_app _ _) rfl dX5_isSame_141 ?_
                  refine yb_putp [mN d x0 u e h s] [1, 2, 3, 4, 5, 6, 7, 8, 0] 9 [[(x, .inr (5, [.int (nI h), .int (sCo s), .ref (v 0), .ref (v 1), .ref (v 2), .ref (v 3)]))], [(v 0, aI d 6 (eWd e))], [(v 1, aR d (eN e) (fun i => some (a i)))], [(v 2, aR d (eNk e) (fun i => some (b i)))], [(v 3, aR d (eNc e) (fun i => some (c i)))], sg d 7 a (yrow e s) (eN e), sg d 4 b (krow e s) (eNk e), sg d 4 c (crow e s) (eNc e), mN d x0 u e h s] rfl rfl (by decide) rfl ?_
                  refine y_aload_n (pc := 144) hC 2 dX5_isSame_144 rfl ?_
                  refine y_get (pc := 145) hC 0 5 dX5_isSame_145 rfl rfl inX5 (by decide) kw_3_77 rfl rfl ?_
                  refine y_iload_n (pc := 148) hC 1 dX5_isSame_148 rfl ?_
                  refine y_aald (pc := 149) hC 4 (j := j3) dX5_isSame_149 (c j3) rfl (by omega) (by omega) rfl ?_
                  refine y_iload_n (pc := 150) hC 0 dX5_isSame_150 rfl ?_
                  refine yb_iald (pc := 151) hC 7 (r := j3) (j := j7) dX5_isSame_151 ((crow e s) j3 j7) rfl (by omega) (by omega) rfl rfl ?_
                  refine y_cmp_eq (pc := 152) hC dX5_isSame_152 157 (by decide) (fun _ => ?_) (fun c => absurd rfl c)
                  refine y_iinc (pc := 157) hC 0 dX5_isSame_157 (nI (j7 + 1)) [(3, .int (nI (j7 + 1))), (2, .int (nI j3)), (0, .ref x), (1, .ref x0)] rfl (nI_inc _) rfl (by decide) ?_
                  refine y_goto (pc := 160) hC dX5_isSame_160 133 (by decide) ?_
                  refine y_ws (fl [[(x, .inr (5, [.int (nI h), .int (sCo s), .ref (v 0), .ref (v 1), .ref (v 2), .ref (v 3)]))], [(v 0, aI d 6 (eWd e))], [(v 1, aR d (eN e) (fun i => some (a i)))], [(v 2, aR d (eNk e) (fun i => some (b i)))], [(v 3, aR d (eNc e) (fun i => some (c i)))], sg d 7 a (yrow e s) (eN e), sg d 4 b (krow e s) (eNk e), sg d 4 c (crow e s) (eNc e), mN d x0 u e h s]) rfl ?_
                  exact ihj7 (j7 + 1) (by omega)
              refine y_lv [(3, .int 0), (2, .int (nI j3)), (0, .ref x), (1, .ref x0)] [0, 1, 2, 3] rfl ?_
              exact lpj7 4 0 (by omega)
          refine y_lv [(2, .int 0), (0, .ref x), (1, .ref x0)] [0, 1, 2] rfl ?_
          exact lpj3 (eNc e) 0 (by omega)
        | succ r2 ihj2 =>
          intro j2 hj2
          have lj2 : j2 < eNk e := by omega
          refine y_iload_n (pc := 52) hC 0 dX5_isSame_52 rfl ?_
          refine y_aload_n (pc := 53) hC 1 dX5_isSame_53 rfl ?_
          refine y_get (pc := 54) hC 0 4 dX5_isSame_54 rfl rfl inX5 (by decide) kw_3_75 rfl rfl ?_
          refine y_alenR (pc := 57) hC 3 dX5_isSame_57 rfl ?_
          refine y_ge_f (pc := 58) (a := j2) (b := eNk e) hC dX5_isSame_58 120 (by decide) (by omega) (by omega) ?_
          refine y_iconst (pc := 61) hC dX5_isSame_61 0 (by decide) ?_
          refine y_istore_n (pc := 62) hC dX5_isSame_62 [(3, .int 0), (2, .int (nI j2)), (0, .ref x), (1, .ref x0)] rfl (by decide) ?_
          have lpj8 : ∀ r8 j8 : Nat, j8 + r8 = 4 → yyW d G 0 0 Q (fl [[(x, .inr (5, [.int (nI h), .int (sCo s), .ref (v 0), .ref (v 1), .ref (v 2), .ref (v 3)]))], [(v 0, aI d 6 (eWd e))], [(v 1, aR d (eN e) (fun i => some (a i)))], [(v 2, aR d (eNk e) (fun i => some (b i)))], [(v 3, aR d (eNc e) (fun i => some (c i)))], sg d 7 a (yrow e s) (eN e), sg d 4 b (krow e s) (eNk e), sg d 4 c (crow e s) (eNc e), mN d x0 u e h s]) [(3, .int (nI j8)), (2, .int (nI j2)), (0, .ref x), (1, .ref x0)] 63 [] := by
            intro r8
            induction r8 with
            | zero =>
              intro j8 hj8
              have ej8 : j8 = 4 := by omega
              rw [ej8]
              refine y_iload_n (pc := 63) hC 0 dX5_isSame_63 rfl ?_
              refine y_iconst (pc := 64) hC dX5_isSame_64 4 (by decide) ?_
              refine y_ge_t (pc := 65) (a := 4) (b := 4) hC dX5_isSame_65 93 (by decide) (by omega) (by omega) ?_
              refine y_aload_n (pc := 93) hC 3 dX5_isSame_93 rfl ?_
              refine y_iload_n (pc := 94) hC 1 dX5_isSame_94 rfl ?_
              refine y_iconst (pc := 95) hC dX5_isSame_95 4 (by decide) ?_
              refine yb_cut [8, 0, 1, 2, 3, 4, 5, 6, 7] 9 [mN d x0 u e h s] [[(x, .inr (5, [.int (nI h), .int (sCo s), .ref (v 0), .ref (v 1), .ref (v 2), .ref (v 3)]))], [(v 0, aI d 6 (eWd e))], [(v 1, aR d (eN e) (fun i => some (a i)))], [(v 2, aR d (eNk e) (fun i => some (b i)))], [(v 3, aR d (eNc e) (fun i => some (c i)))], sg d 7 a (yrow e s) (eN e), sg d 4 b (krow e s) (eNk e), sg d 4 c (crow e s) (eNc e)] _ rfl (by decide) rfl rfl ?_
              refine y_cI (pc := 96) (As := [.int (nI j2), .int 4]) (st := []) hC (m_about (gL G) d x0 u e h s j2 4 (by omega) (by omega) (by omega) (by omega)) kw_1_219 kw_2_197 kw_1_217 kw_1_218 kw_1_1 n_X4_about ⟨⟨nb rfl, nb rfl⟩, ⟨(by show 0 + 0 ≤ 1; omega), (by show 0 + 0 ≤ 10; omega)⟩, nb rfl⟩ _ _ _ 0 _ _ rfl rfl (cut_app _ _) (put_app _ _) rfl dX5_isSame_96 ?_
              refine yb_putp [mN d x0 u e h s] [1, 2, 3, 4, 5, 6, 7, 8, 0] 9 [[(x, .inr (5, [.int (nI h), .int (sCo s), .ref (v 0), .ref (v 1), .ref (v 2), .ref (v 3)]))], [(v 0, aI d 6 (eWd e))], [(v 1, aR d (eN e) (fun i => some (a i)))], [(v 2, aR d (eNk e) (fun i => some (b i)))], [(v 3, aR d (eNc e) (fun i => some (c i)))], sg d 7 a (yrow e s) (eN e), sg d 4 b (krow e s) (eNk e), sg d 4 c (crow e s) (eNc e), mN d x0 u e h s] rfl rfl (by decide) rfl ?_
              refine y_aload_n (pc := 99) hC 2 dX5_isSame_99 rfl ?_
              refine y_aload_n (pc := 100) hC 2 dX5_isSame_100 rfl ?_
              refine y_get (pc := 101) hC 0 4 dX5_isSame_101 rfl rfl inX5 (by decide) kw_3_75 rfl rfl ?_
              refine y_iload_n (pc := 104) hC 1 dX5_isSame_104 rfl ?_
              refine y_aald (pc := 105) hC 3 (j := j2) dX5_isSame_105 (b j2) rfl (by omega) (by omega) rfl ?_
              refine yb_cut [0, 4, 7, 6, 1, 2, 3, 5, 8] 9 [[(x, .inr (5, [.int (nI h), .int (sCo s), .ref (v 0), .ref (v 1), .ref (v 2), .ref (v 3)]))], [(v 3, aR d (eNc e) (fun i => some (c i)))], sg d 4 c (crow e s) (eNc e), sg d 4 b (krow e s) (eNk e)] [[(v 0, aI d 6 (eWd e))], [(v 1, aR d (eN e) (fun i => some (a i)))], [(v 2, aR d (eNk e) (fun i => some (b i)))], sg d 7 a (yrow e s) (eN e), mN d x0 u e h s] _ rfl (by decide) rfl rfl ?_
              refine y_cI (pc := 106) (As := [.ref (b j2)]) (st := [.int (arow e s j2 4)]) hC (c_X5_aims (gL G) d x v b c h (sCo s) (eNk e) (eNc e) (krow e s) (crow e s) j2 (rrF e j2) (by omega) (by omega) (by omega) (rr_eq hJ _).1 (rr_eq hJ _).2) kw_2_191 kw_2_188 kw_2_189 kw_2_190 kw_1_6 n_X5_aims ⟨⟨nb rfl, nb rfl⟩, ⟨(by show 0 + 0 + 0 ≤ 1; omega), (by show 0 + 0 + 0 ≤ 10; omega)⟩, nb rfl⟩ _ _ _ 0 _ _ rfl rfl (cut_app _ _) (put_app _ _) rfl dX5_isSame_106 ?_
              refine yb_putp [[(x, .inr (5, [.int (nI h), .int (sCo s), .ref (v 0), .ref (v 1), .ref (v 2), .ref (v 3)]))], [(v 3, aR d (eNc e) (fun i => some (c i)))], sg d 4 c (crow e s) (eNc e), sg d 4 b (krow e s) (eNk e)] [0, 4, 5, 6, 1, 7, 3, 2, 8] 9 [[(x, .inr (5, [.int (nI h), .int (sCo s), .ref (v 0), .ref (v 1), .ref (v 2), .ref (v 3)]))], [(v 0, aI d 6 (eWd e))], [(v 1, aR d (eN e) (fun i => some (a i)))], [(v 2, aR d (eNk e) (fun i => some (b i)))], [(v 3, aR d (eNc e) (fun i => some (c i)))], sg d 7 a (yrow e s) (eN e), sg d 4 b (krow e s) (eNk e), sg d 4 c (crow e s) (eNc e), mN d x0 u e h s] rfl rfl (by decide) rfl ?_
              refine y_cmp_eq (pc := 109) hC dX5_isSame_109 114 (by decide) (fun _ => ?_) (fun c => absurd (aims_eq hJ _).symm c)
              refine y_iinc (pc := 114) hC 1 dX5_isSame_114 (nI (j2 + 1)) [(2, .int (nI (j2 + 1))), (3, .int (nI 4)), (0, .ref x), (1, .ref x0)] rfl (nI_inc _) rfl (by decide) ?_
              refine y_goto (pc := 117) hC dX5_isSame_117 52 (by decide) ?_
              refine y_lv [(2, .int (nI (j2 + 1))), (0, .ref x), (1, .ref x0)] [0, 2, 3] rfl ?_
              refine y_ws (fl [[(x, .inr (5, [.int (nI h), .int (sCo s), .ref (v 0), .ref (v 1), .ref (v 2), .ref (v 3)]))], [(v 0, aI d 6 (eWd e))], [(v 1, aR d (eN e) (fun i => some (a i)))], [(v 2, aR d (eNk e) (fun i => some (b i)))], [(v 3, aR d (eNc e) (fun i => some (c i)))], sg d 7 a (yrow e s) (eN e), sg d 4 b (krow e s) (eNk e), sg d 4 c (crow e s) (eNc e), mN d x0 u e h s]) rfl ?_
              exact ihj2 (j2 + 1) (by omega)
            | succ r8 ihj8 =>
              intro j8 hj8
              have lj8 : j8 < 4 := by omega
              refine y_iload_n (pc := 63) hC 0 dX5_isSame_63 rfl ?_
              refine y_iconst (pc := 64) hC dX5_isSame_64 4 (by decide) ?_
              refine y_ge_f (pc := 65) (a := j8) (b := 4) hC dX5_isSame_65 93 (by decide) (by omega) (by omega) ?_
              refine y_aload_n (pc := 68) hC 3 dX5_isSame_68 rfl ?_
              refine y_iload_n (pc := 69) hC 1 dX5_isSame_69 rfl ?_
              refine y_iload_n (pc := 70) hC 0 dX5_isSame_70 rfl ?_
              refine yb_cut [8, 0, 1, 2, 3, 4, 5, 6, 7] 9 [mN d x0 u e h s] [[(x, .inr (5, [.int (nI h), .int (sCo s), .ref (v 0), .ref (v 1), .ref (v 2), .ref (v 3)]))], [(v 0, aI d 6 (eWd e))], [(v 1, aR d (eN e) (fun i => some (a i)))], [(v 2, aR d (eNk e) (fun i => some (b i)))], [(v 3, aR d (eNc e) (fun i => some (c i)))], sg d 7 a (yrow e s) (eN e), sg d 4 b (krow e s) (eNk e), sg d 4 c (crow e s) (eNc e)] _ rfl (by decide) rfl rfl ?_
              refine y_cI (pc := 71) (As := [.int (nI j2), .int (nI j8)]) (st := []) hC (m_about (gL G) d x0 u e h s j2 j8 (by omega) (by omega) (by omega) (by omega)) kw_1_219 kw_2_197 kw_1_217 kw_1_218 kw_1_1 n_X4_about ⟨⟨nb rfl, nb rfl⟩, ⟨(by show 0 + 0 ≤ 1; omega), (by show 0 + 0 ≤ 10; omega)⟩, nb rfl⟩ _ _ _ 0 _ _ rfl rfl (cut_app _ _) (put_app _ _) rfl dX5_isSame_71 ?_
              refine yb_putp [mN d x0 u e h s] [1, 2, 3, 4, 5, 6, 7, 8, 0] 9 [[(x, .inr (5, [.int (nI h), .int (sCo s), .ref (v 0), .ref (v 1), .ref (v 2), .ref (v 3)]))], [(v 0, aI d 6 (eWd e))], [(v 1, aR d (eN e) (fun i => some (a i)))], [(v 2, aR d (eNk e) (fun i => some (b i)))], [(v 3, aR d (eNc e) (fun i => some (c i)))], sg d 7 a (yrow e s) (eN e), sg d 4 b (krow e s) (eNk e), sg d 4 c (crow e s) (eNc e), mN d x0 u e h s] rfl rfl (by decide) rfl ?_
              refine y_aload_n (pc := 74) hC 2 dX5_isSame_74 rfl ?_
              refine y_get (pc := 75) hC 0 4 dX5_isSame_75 rfl rfl inX5 (by decide) kw_3_75 rfl rfl ?_
              refine y_iload_n (pc := 78) hC 1 dX5_isSame_78 rfl ?_
              refine y_aald (pc := 79) hC 3 (j := j2) dX5_isSame_79 (b j2) rfl (by omega) (by omega) rfl ?_
              refine y_iload_n (pc := 80) hC 0 dX5_isSame_80 rfl ?_
              refine yb_iald (pc := 81) hC 6 (r := j2) (j := j8) dX5_isSame_81 ((krow e s) j2 j8) rfl (by omega) (by omega) rfl rfl ?_
              refine y_cmp_eq (pc := 82) hC dX5_isSame_82 87 (by decide) (fun _ => ?_) (fun c => absurd (arow_k (by omega)) c)
              refine y_iinc (pc := 87) hC 0 dX5_isSame_87 (nI (j8 + 1)) [(3, .int (nI (j8 + 1))), (2, .int (nI j2)), (0, .ref x), (1, .ref x0)] rfl (nI_inc _) rfl (by decide) ?_
              refine y_goto (pc := 90) hC dX5_isSame_90 63 (by decide) ?_
              refine y_ws (fl [[(x, .inr (5, [.int (nI h), .int (sCo s), .ref (v 0), .ref (v 1), .ref (v 2), .ref (v 3)]))], [(v 0, aI d 6 (eWd e))], [(v 1, aR d (eN e) (fun i => some (a i)))], [(v 2, aR d (eNk e) (fun i => some (b i)))], [(v 3, aR d (eNc e) (fun i => some (c i)))], sg d 7 a (yrow e s) (eN e), sg d 4 b (krow e s) (eNk e), sg d 4 c (crow e s) (eNc e), mN d x0 u e h s]) rfl ?_
              exact ihj8 (j8 + 1) (by omega)
          refine y_lv [(3, .int 0), (2, .int (nI j2)), (0, .ref x), (1, .ref x0)] [0, 1, 2, 3] rfl ?_
          exact lpj8 4 0 (by omega)
      refine y_lv [(2, .int 0), (0, .ref x), (1, .ref x0)] [0, 1, 2] rfl ?_
      exact lpj2 (eNk e) 0 (by omega)
    | succ r1 ihj1 =>
      intro j1 hj1
      have lj1 : j1 < eN e := by omega
      refine y_iload_n (pc := 2) hC 0 dX5_isSame_2 rfl ?_
      refine y_aload_n (pc := 3) hC 1 dX5_isSame_3 rfl ?_
      refine y_get (pc := 4) hC 0 3 dX5_isSame_4 rfl rfl inX5 (by decide) kw_3_73 rfl rfl ?_
      refine y_alenR (pc := 7) hC 2 dX5_isSame_7 rfl ?_
      refine y_ge_f (pc := 8) (a := j1) (b := eN e) hC dX5_isSame_8 50 (by decide) (by omega) (by omega) ?_
      refine y_iconst (pc := 11) hC dX5_isSame_11 0 (by decide) ?_
      refine y_istore_n (pc := 12) hC dX5_isSame_12 [(3, .int 0), (2, .int (nI j1)), (0, .ref x), (1, .ref x0)] rfl (by decide) ?_
      have lpj9 : ∀ r9 j9 : Nat, j9 + r9 = 7 → yyW d G 0 0 Q (fl [[(x, .inr (5, [.int (nI h), .int (sCo s), .ref (v 0), .ref (v 1), .ref (v 2), .ref (v 3)]))], [(v 0, aI d 6 (eWd e))], [(v 1, aR d (eN e) (fun i => some (a i)))], [(v 2, aR d (eNk e) (fun i => some (b i)))], [(v 3, aR d (eNc e) (fun i => some (c i)))], sg d 7 a (yrow e s) (eN e), sg d 4 b (krow e s) (eNk e), sg d 4 c (crow e s) (eNc e), mN d x0 u e h s]) [(3, .int (nI j9)), (2, .int (nI j1)), (0, .ref x), (1, .ref x0)] 13 [] := by
        intro r9
        induction r9 with
        | zero =>
          intro j9 hj9
          have ej9 : j9 = 7 := by omega
          rw [ej9]
          refine y_iload_n (pc := 13) hC 0 dX5_isSame_13 rfl ?_
          refine y_bipush (pc := 14) hC dX5_isSame_14 7 (by decide) ?_
          refine y_ge_t (pc := 16) (a := 7) (b := 7) hC dX5_isSame_16 44 (by decide) (by omega) (by omega) ?_
          refine y_iinc (pc := 44) hC 1 dX5_isSame_44 (nI (j1 + 1)) [(2, .int (nI (j1 + 1))), (3, .int (nI 7)), (0, .ref x), (1, .ref x0)] rfl (nI_inc _) rfl (by decide) ?_
          refine y_goto (pc := 47) hC dX5_isSame_47 2 (by decide) ?_
          refine y_lv [(2, .int (nI (j1 + 1))), (0, .ref x), (1, .ref x0)] [0, 2, 3] rfl ?_
          refine y_ws (fl [[(x, .inr (5, [.int (nI h), .int (sCo s), .ref (v 0), .ref (v 1), .ref (v 2), .ref (v 3)]))], [(v 0, aI d 6 (eWd e))], [(v 1, aR d (eN e) (fun i => some (a i)))], [(v 2, aR d (eNk e) (fun i => some (b i)))], [(v 3, aR d (eNc e) (fun i => some (c i)))], sg d 7 a (yrow e s) (eN e), sg d 4 b (krow e s) (eNk e), sg d 4 c (crow e s) (eNc e), mN d x0 u e h s]) rfl ?_
          exact ihj1 (j1 + 1) (by omega)
        | succ r9 ihj9 =>
          intro j9 hj9
          have lj9 : j9 < 7 := by omega
          refine y_iload_n (pc := 13) hC 0 dX5_isSame_13 rfl ?_
          refine y_bipush (pc := 14) hC dX5_isSame_14 7 (by decide) ?_
          refine y_ge_f (pc := 16) (a := j9) (b := 7) hC dX5_isSame_16 44 (by decide) (by omega) (by omega) ?_
          refine y_aload_n (pc := 19) hC 3 dX5_isSame_19 rfl ?_
          refine y_iload_n (pc := 20) hC 1 dX5_isSame_20 rfl ?_
          refine y_iload_n (pc := 21) hC 0 dX5_isSame_21 rfl ?_
          refine yb_cut [8, 0, 1, 2, 3, 4, 5, 6, 7] 9 [mN d x0 u e h s] [[(x, .inr (5, [.int (nI h), .int (sCo s), .ref (v 0), .ref (v 1), .ref (v 2), .ref (v 3)]))], [(v 0, aI d 6 (eWd e))], [(v 1, aR d (eN e) (fun i => some (a i)))], [(v 2, aR d (eNk e) (fun i => some (b i)))], [(v 3, aR d (eNc e) (fun i => some (c i)))], sg d 7 a (yrow e s) (eN e), sg d 4 b (krow e s) (eNk e), sg d 4 c (crow e s) (eNc e)] _ rfl (by decide) rfl rfl ?_
          refine y_cI (pc := 22) (As := [.int (nI j1), .int (nI j9)]) (st := []) hC (m_vineyard (gL G) d x0 u e h s j1 j9 (by omega) (by omega) (by omega)) kw_1_145 kw_2_196 kw_1_143 kw_1_144 kw_1_1 n_X4_vineyard ⟨⟨nb rfl, nb rfl⟩, ⟨(by show 0 + 0 ≤ 1; omega), (by show 0 + 0 ≤ 10; omega)⟩, nb rfl⟩ _ _ _ 0 _ _ rfl rfl (cut_app _ _) (put_app _ _) rfl dX5_isSame_22 ?_
          refine yb_putp [mN d x0 u e h s] [1, 2, 3, 4, 5, 6, 7, 8, 0] 9 [[(x, .inr (5, [.int (nI h), .int (sCo s), .ref (v 0), .ref (v 1), .ref (v 2), .ref (v 3)]))], [(v 0, aI d 6 (eWd e))], [(v 1, aR d (eN e) (fun i => some (a i)))], [(v 2, aR d (eNk e) (fun i => some (b i)))], [(v 3, aR d (eNc e) (fun i => some (c i)))], sg d 7 a (yrow e s) (eN e), sg d 4 b (krow e s) (eNk e), sg d 4 c (crow e s) (eNc e), mN d x0 u e h s] rfl rfl (by decide) rfl ?_
          refine y_aload_n (pc := 25) hC 2 dX5_isSame_25 rfl ?_
          refine y_get (pc := 26) hC 0 3 dX5_isSame_26 rfl rfl inX5 (by decide) kw_3_73 rfl rfl ?_
          refine y_iload_n (pc := 29) hC 1 dX5_isSame_29 rfl ?_
          refine y_aald (pc := 30) hC 2 (j := j1) dX5_isSame_30 (a j1) rfl (by omega) (by omega) rfl ?_
          refine y_iload_n (pc := 31) hC 0 dX5_isSame_31 rfl ?_
          refine yb_iald (pc := 32) hC 5 (r := j1) (j := j9) dX5_isSame_32 ((yrow e s) j1 j9) rfl (by omega) (by omega) rfl rfl ?_
          refine y_cmp_eq (pc := 33) hC dX5_isSame_33 38 (by decide) (fun _ => ?_) (fun c => absurd rfl c)
          refine y_iinc (pc := 38) hC 0 dX5_isSame_38 (nI (j9 + 1)) [(3, .int (nI (j9 + 1))), (2, .int (nI j1)), (0, .ref x), (1, .ref x0)] rfl (nI_inc _) rfl (by decide) ?_
          refine y_goto (pc := 41) hC dX5_isSame_41 13 (by decide) ?_
          refine y_ws (fl [[(x, .inr (5, [.int (nI h), .int (sCo s), .ref (v 0), .ref (v 1), .ref (v 2), .ref (v 3)]))], [(v 0, aI d 6 (eWd e))], [(v 1, aR d (eN e) (fun i => some (a i)))], [(v 2, aR d (eNk e) (fun i => some (b i)))], [(v 3, aR d (eNc e) (fun i => some (c i)))], sg d 7 a (yrow e s) (eN e), sg d 4 b (krow e s) (eNk e), sg d 4 c (crow e s) (eNc e), mN d x0 u e h s]) rfl ?_
          exact ihj9 (j9 + 1) (by omega)
      refine y_lv [(3, .int 0), (2, .int (nI j1)), (0, .ref x), (1, .ref x0)] [0, 1, 2, 3] rfl ?_
      exact lpj9 7 0 (by omega)
  refine y_lv [(2, .int 0), (0, .ref x), (1, .ref x0)] [0, 1, 2] rfl ?_
  exact lpj1 (eN e) 0 (by omega)
theorem n_X5_isSame : yyN yX5_isSame RX5 1 := by refine ⟨rfl, ?_, ?_, ?_⟩ <;> decide +kernel
