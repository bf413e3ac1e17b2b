set_option maxHeartbeats 8000000 in
set_option maxRecDepth 100000 in
theorem c_X5_sum7 (l : Launch) (d : yyD) (x : Nat) (v : Nat → Nat) (a : Nat → Nat) (r : Nat) (h : Nat) (co : Int32) (F : fR) (n : Nat) (w : Nat) (hn : n ≤ 20) (hw : w < 7) : yyI l yX5_sum cX5_sum 8 (some .int) { frames := 0, cells := 0, slots := 0, locals := 0 } d [.ref x, .ref r, .int (nI w)] (fl [[(x, .inr (5, [.int (nI h), .int co, .ref (v 0), .ref (v 1), .ref (v 2), .ref (v 3)]))], [(r, aR d n (fun i => some (a i)))], sg d 7 a F n]) (fl [[(x, .inr (5, [.int (nI h), .int co, .ref (v 0), .ref (v 1), .ref (v 2), .ref (v 3)]))], [(r, aR d n (fun i => some (a i)))], sg d 7 a F n]) (sumR F w n) := by
  refine yyI_of (own := RX5) [(0, .ref x), (1, .ref r), (2, .int (nI w))] (by decide +kernel) rfl (Nat.le_of_ble_eq_true rfl) rfl ?_
  intro G Q hQ hGL hC hGA
  refine y_iconst (pc := 0) hC dX5_sum_0 0 (by decide) ?_
  refine y_istore_n (pc := 1) hC dX5_sum_1 [(3, .int 0), (0, .ref x), (1, .ref r), (2, .int (nI w))] rfl (by decide) ?_
  refine y_aload_n (pc := 2) hC 2 dX5_sum_2 rfl ?_
  refine y_astore (pc := 3) hC dX5_sum_3 [(4, .ref r), (3, .int 0), (0, .ref x), (1, .ref r), (2, .int (nI w))] rfl (by decide) ?_
  refine y_aload (pc := 5) hC 0 dX5_sum_5 rfl ?_
  refine y_alenR (pc := 7) hC 1 dX5_sum_7 rfl ?_
  refine y_istore (pc := 8) hC dX5_sum_8 [(5, .int (nI n)), (4, .ref r), (3, .int 0), (0, .ref x), (1, .ref r), (2, .int (nI w))] rfl (by decide) ?_
  refine y_iconst (pc := 10) hC dX5_sum_10 0 (by decide) ?_
  refine y_istore (pc := 11) hC dX5_sum_11 [(6, .int 0), (5, .int (nI n)), (4, .ref r), (3, .int 0), (0, .ref x), (1, .ref r), (2, .int (nI w))] rfl (by decide) ?_
  have lpj1 : ∀ r1 j1 : Nat, j1 + r1 = n → yyW d G 0 0 Q (fl [[(x, .inr (5, [.int (nI h), .int co, .ref (v 0), .ref (v 1), .ref (v 2), .ref (v 3)]))], [(r, aR d n (fun i => some (a i)))], sg d 7 a F n]) [(6, .int (nI j1)), (3, .int (yi j1 (fun k a => a + F k w) 0)), (4, .ref r), (5, .int (nI n)), (0, .ref x), (1, .ref r), (2, .int (nI w))] 13 [] := by
    intro r1
    induction r1 with
    | zero =>
      intro j1 hj1
      have ej1 : j1 = n := by omega
      rw [ej1]
      refine y_iload (pc := 13) hC 0 dX5_sum_13 rfl ?_
      refine y_iload (pc := 15) hC 3 dX5_sum_15 rfl ?_
      refine y_ge_t (pc := 17) (a := n) (b := n) hC dX5_sum_17 40 (by decide) (by omega) (by omega) ?_
      refine y_iload_n (pc := 40) hC 1 dX5_sum_40 rfl ?_
      exact y_iret hC hQ rfl rfl rfl (nb rfl) (nb rfl) dX5_sum_41
    | succ r1 ihj1 =>
      intro j1 hj1
      have lj1 : j1 < n := by omega
      refine y_iload (pc := 13) hC 0 dX5_sum_13 rfl ?_
      refine y_iload (pc := 15) hC 3 dX5_sum_15 rfl ?_
      refine y_ge_f (pc := 17) (a := j1) (b := n) hC dX5_sum_17 40 (by decide) (by omega) (by omega) ?_
      refine y_aload (pc := 20) hC 2 dX5_sum_20 rfl ?_
      refine y_iload (pc := 22) hC 0 dX5_sum_22 rfl ?_
      refine y_aald (pc := 24) hC 1 (j := j1) dX5_sum_24 (a j1) rfl (by omega) (by omega) rfl ?_
      refine y_astore (pc := 25) hC dX5_sum_25 [(7, .ref (a j1)), (6, .int (nI j1)), (3, .int (yi j1 (fun k a => a + F k w) 0)), (4, .ref r), (5, .int (nI n)), (0, .ref x), (1, .ref r), (2, .int (nI w))] rfl (by decide) ?_
      refine y_iload_n (pc := 27) hC 2 dX5_sum_27 rfl ?_
      refine y_aload (pc := 28) hC 0 dX5_sum_28 rfl ?_
      refine y_iload_n (pc := 30) hC 7 dX5_sum_30 rfl ?_
      refine yb_iald (pc := 31) hC 2 (r := j1) (j := w) dX5_sum_31 (F j1 w) rfl (by omega) (by omega) rfl rfl ?_
      refine y_iadd (pc := 32) hC dX5_sum_32 ((yi j1 (fun k a => a + F k w) 0) + (F j1 w)) rfl ?_
      refine y_istore_n (pc := 33) hC dX5_sum_33 [(3, .int ((yi j1 (fun k a => a + F k w) 0) + (F j1 w))), (7, .ref (a j1)), (6, .int (nI j1)), (4, .ref r), (5, .int (nI n)), (0, .ref x), (1, .ref r), (2, .int (nI w))] rfl (by decide) ?_
      refine y_iinc (pc := 34) hC 2 dX5_sum_34 (nI (j1 + 1)) [(6, .int (nI (j1 + 1))), (3, .int ((yi j1 (fun k a => a + F k w) 0) + (F j1 w))), (7, .ref (a j1)), (4, .ref r), (5, .int (nI n)), (0, .ref x), (1, .ref r), (2, .int (nI w))] rfl (nI_inc _) rfl (by decide) ?_
      refine y_goto (pc := 37) hC dX5_sum_37 13 (by decide) ?_
      refine y_lv [(6, .int (nI (j1 + 1))), (3, .int ((yi j1 (fun k a => a + F k w) 0) + (F j1 w))), (4, .ref r), (5, .int (nI n)), (0, .ref x), (1, .ref r), (2, .int (nI w))] [0, 1, 3, 4, 5, 6, 7] rfl ?_
      refine y_ws (fl [[(x, .inr (5, [.int (nI h), .int co, .ref (v 0), .ref (v 1), .ref (v 2), .ref (v 3)]))], [(r, aR d n (fun i => some (a i)))], sg d 7 a F n]) rfl ?_
      refine y_lve [(6, .int (nI (j1 + 1))), (3, .int (yi (j1 + 1) (fun k a => a + F k w) 0)), (4, .ref r), (5, .int (nI n)), (0, .ref x), (1, .ref r), (2, .int (nI w))] (by simp only [yi, ↓reduceIte, cond_true, cond_false]) ?_
      exact ihj1 (j1 + 1) (by omega)
  refine y_lv [(6, .int 0), (3, .int 0), (4, .ref r), (5, .int (nI n)), (0, .ref x), (1, .ref r), (2, .int (nI w))] [0, 3, 2, 1, 4, 5, 6] rfl ?_
  exact lpj1 n 0 (by omega)
set_option maxHeartbeats 8000000 in
set_option maxRecDepth 100000 in
theorem c_X5_sum4 (l : Launch) (d : yyD) (x : Nat) (v : Nat → Nat) (a : Nat → Nat) (r : Nat) (h : Nat) (co : Int32) (F : fR) (n : Nat) (w : Nat) (hn : n ≤ 20) (hw : w < 4) : yyI l yX5_sum cX5_sum 8 (some .int) { frames := 0, cells := 0, slots := 0, locals := 0 } d [.ref x, .ref r, .int (nI w)] (fl [[(x, .inr (5, [.int (nI h), .int co, .ref (v 0), .ref (v 1), .ref (v 2), .ref (v 3)]))], [(r, aR d n (fun i => some (a i)))], sg d 4 a F n]) (fl [[(x, .inr (5, [.int (nI h), .int co, .ref (v 0), .ref (v 1), .ref (v 2), .ref (v 3)]))], [(r, aR d n (fun i => some (a i)))], sg d 4 a F n]) (sumR F w n) := by
  refine yyI_of (own := RX5) [(0, .ref x), (1, .ref r), (2, .int (nI w))] (by decide +kernel) rfl (Nat.le_of_ble_eq_true rfl) rfl ?_
  intro G Q hQ hGL hC hGA
  refine y_iconst (pc := 0) hC dX5_sum_0 0 (by decide) ?_
  refine y_istore_n (pc := 1) hC dX5_sum_1 [(3, .int 0), (0, .ref x), (1, .ref r), (2, .int (nI w))] rfl (by decide) ?_
  refine y_aload_n (pc := 2) hC 2 dX5_sum_2 rfl ?_
  refine y_astore (pc := 3) hC dX5_sum_3 [(4, .ref r), (3, .int 0), (0, .ref x), (1, .ref r), (2, .int (nI w))] rfl (by decide) ?_
  refine y_aload (pc := 5) hC 0 dX5_sum_5 rfl ?_
  refine y_alenR (pc := 7) hC 1 dX5_sum_7 rfl ?_
  refine y_istore (pc := 8) hC dX5_sum_8 [(5, .int (nI n)), (4, .ref r), (3, .int 0), (0, .ref x), (1, .ref r), (2, .int (nI w))] rfl (by decide) ?_
  refine y_iconst (pc := 10) hC dX5_sum_10 0 (by decide) ?_
  refine y_istore (pc := 11) hC dX5_sum_11 [(6, .int 0), (5, .int (nI n)), (4, .ref r), (3, .int 0), (0, .ref x), (1, .ref r), (2, .int (nI w))] rfl (by decide) ?_
  have lpj1 : ∀ r1 j1 : Nat, j1 + r1 = n → yyW d G 0 0 Q (fl [[(x, .inr (5, [.int (nI h), .int co, .ref (v 0), .ref (v 1), .ref (v 2), .ref (v 3)]))], [(r, aR d n (fun i => some (a i)))], sg d 4 a F n]) [(6, .int (nI j1)), (3, .int (yi j1 (fun k a => a + F k w) 0)), (4, .ref r), (5, .int (nI n)), (0, .ref x), (1, .ref r), (2, .int (nI w))] 13 [] := by
    intro r1
    induction r1 with
    | zero =>
      intro j1 hj1
      have ej1 : j1 = n := by omega
      rw [ej1]
      refine y_iload (pc := 13) hC 0 dX5_sum_13 rfl ?_
      refine y_iload (pc := 15) hC 3 dX5_sum_15 rfl ?_
      refine y_ge_t (pc := 17) (a := n) (b := n) hC dX5_sum_17 40 (by decide) (by omega) (by omega) ?_
      refine y_iload_n (pc := 40) hC 1 dX5_sum_40 rfl ?_
      exact y_iret hC hQ rfl rfl rfl (nb rfl) (nb rfl) dX5_sum_41
    | succ r1 ihj1 =>
      intro j1 hj1
      have lj1 : j1 < n := by omega
      refine y_iload (pc := 13) hC 0 dX5_sum_13 rfl ?_
      refine y_iload (pc := 15) hC 3 dX5_sum_15 rfl ?_
      refine y_ge_f (pc := 17) (a := j1) (b := n) hC dX5_sum_17 40 (by decide) (by omega) (by omega) ?_
      refine y_aload (pc := 20) hC 2 dX5_sum_20 rfl ?_
      refine y_iload (pc := 22) hC 0 dX5_sum_22 rfl ?_
      refine y_aald (pc := 24) hC 1 (j := j1) dX5_sum_24 (a j1) rfl (by omega) (by omega) rfl ?_
      refine y_astore (pc := 25) hC dX5_sum_25 [(7, .ref (a j1)), (6, .int (nI j1)), (3, .int (yi j1 (fun k a => a + F k w) 0)), (4, .ref r), (5, .int (nI n)), (0, .ref x), (1, .ref r), (2, .int (nI w))] rfl (by decide) ?_
      refine y_iload_n (pc := 27) hC 2 dX5_sum_27 rfl ?_
      refine y_aload (pc := 28) hC 0 dX5_sum_28 rfl ?_
      refine y_iload_n (pc := 30) hC 7 dX5_sum_30 rfl ?_
      refine yb_iald (pc := 31) hC 2 (r := j1) (j := w) dX5_sum_31 (F j1 w) rfl (by omega) (by omega) rfl rfl ?_
      refine y_iadd (pc := 32) hC dX5_sum_32 ((yi j1 (fun k a => a + F k w) 0) + (F j1 w)) rfl ?_
      refine y_istore_n (pc := 33) hC dX5_sum_33 [(3, .int ((yi j1 (fun k a => a + F k w) 0) + (F j1 w))), (7, .ref (a j1)), (6, .int (nI j1)), (4, .ref r), (5, .int (nI n)), (0, .ref x), (1, .ref r), (2, .int (nI w))] rfl (by decide) ?_
      refine y_iinc (pc := 34) hC 2 dX5_sum_34 (nI (j1 + 1)) [(6, .int (nI (j1 + 1))), (3, .int ((yi j1 (fun k a => a + F k w) 0) + (F j1 w))), (7, .ref (a j1)), (4, .ref r), (5, .int (nI n)), (0, .ref x), (1, .ref r), (2, .int (nI w))] rfl (nI_inc _) rfl (by decide) ?_
      refine y_goto (pc := 37) hC dX5_sum_37 13 (by decide) ?_
      refine y_lv [(6, .int (nI (j1 + 1))), (3, .int ((yi j1 (fun k a => a + F k w) 0) + (F j1 w))), (4, .ref r), (5, .int (nI n)), (0, .ref x), (1, .ref r), (2, .int (nI w))] [0, 1, 3, 4, 5, 6, 7] rfl ?_
      refine y_ws (fl [[(x, .inr (5, [.int (nI h), .int co, .ref (v 0), .ref (v 1), .ref (v 2), .ref (v 3)]))], [(r, aR d n (fun i => some (a i)))], sg d 4 a F n]) rfl ?_
      refine y_lve [(6, .int (nI (j1 + 1))), (3, .int (yi (j1 + 1) (fun k a => a + F k w) 0)), (4, .ref r), (5, .int (nI n)), (0, .ref x), (1, .ref r), (2, .int (nI w))] (by simp only [yi, ↓reduceIte, cond_true, cond_false]) ?_
      exact ihj1 (j1 + 1) (by omega)
  refine y_lv [(6, .int 0), (3, .int 0), (4, .ref r), (5, .int (nI n)), (0, .ref x), (1, .ref r), (2, .int (nI w))] [0, 3, 2, 1, 4, 5, 6] rfl ?_
  exact lpj1 n 0 (by omega)
theorem n_X5_sum : yyN yX5_sum RX5 2 := by refine ⟨rfl, ?_, ?_, ?_⟩ <;> decide +kernel
