set_option maxHeartbeats 8000000 in
set_option maxRecDepth 100000 in
theorem c_X5_aims (l : Launch) (d : yyD) (x : Nat) (v : Nat → Nat) (b : Nat → Nat) (c : Nat → Nat) (h : Nat) (co : Int32) (nk : Nat) (nc : Nat) (K : fR) (L : fR) (i : Nat) (r : Nat) (hk : nk ≤ 6) (hc : nc ≤ 20) (hi : i < nk) (hr : K i 1 = nI r) (h9 : r ≤ 9) : yyI l yX5_aims cX5_aims 5 (some .int) { frames := 0, cells := 0, slots := 0, locals := 0 } d [.ref x, .ref (b i)] (fl [[(x, .inr (5, [.int (nI h), .int co, .ref (v 0), .ref (v 1), .ref (v 2), .ref (v 3)]))], [(v 3, aR d nc (fun i => some (c i)))], sg d 4 c L nc, sg d 4 b K nk]) (fl [[(x, .inr (5, [.int (nI h), .int co, .ref (v 0), .ref (v 1), .ref (v 2), .ref (v 3)]))], [(v 3, aR d nc (fun i => some (c i)))], sg d 4 c L nc, sg d 4 b K nk]) (aimsF L (K i 0) (K i 2) r nc) := by
  refine yyI_of (own := RX5) [(0, .ref x), (1, .ref (b i))] (by decide +kernel) rfl (Nat.le_of_ble_eq_true rfl) rfl ?_
  intro G Q hQ hGL hC hGA
  refine y_iconst (pc := 0) hC dX5_aims_0 0 (by decide) ?_
  refine y_istore_n (pc := 1) hC dX5_aims_1 [(2, .int 0), (0, .ref x), (1, .ref (b i))] rfl (by decide) ?_
  by_cases hp : K i 2 ≤ 0
  · refine y_iload_n (pc := 2) hC 0 dX5_aims_2 rfl ?_
    refine y_aload_n (pc := 3) hC 2 dX5_aims_3 rfl ?_
    refine y_iconst (pc := 4) hC dX5_aims_4 1 (by decide) ?_
    refine yb_iald (pc := 5) hC 3 (r := i) (j := 1) dX5_aims_5 (nI r) rfl (by omega) (by decide) rfl hr ?_
    refine y_gt_f (pc := 6) (a := 0) (b := r) hC dX5_aims_6 86 (by decide) (by omega) (by omega) ?_
    refine y_aload_n (pc := 9) hC 2 dX5_aims_9 rfl ?_
    refine y_iconst (pc := 10) hC dX5_aims_10 2 (by decide) ?_
    refine yb_iald (pc := 11) hC 3 (r := i) (j := 2) dX5_aims_11 (K i 2) rfl (by omega) (by decide) rfl rfl ?_
    refine y_if_le (pc := 12) hC dX5_aims_12 86 (by decide) (fun _ => ?_) (fun c => absurd hp c)
    refine y_iconst (pc := 86) hC dX5_aims_86 (-1) (by decide) ?_
    exact y_iret hC hQ rfl rfl (by unfold aimsF; rw [if_pos hp]) (nb rfl) (nb rfl) dX5_aims_87
  · have lpf : ∀ q f : Nat, f + q = r + 1 → aimR L (K i 0) nc f q = aimsF L (K i 0) (K i 2) r nc → yyW d G 0 0 Q (fl [[(x, .inr (5, [.int (nI h), .int co, .ref (v 0), .ref (v 1), .ref (v 2), .ref (v 3)]))], [(v 3, aR d nc (fun i => some (c i)))], sg d 4 c L nc, sg d 4 b K nk]) [(2, .int (nI f)), (0, .ref x), (1, .ref (b i))] 2 [] := by
      intro q
      induction q with
      | zero =>
        intro f hf hv
        refine y_iload_n (pc := 2) hC 0 dX5_aims_2 rfl ?_
        refine y_aload_n (pc := 3) hC 2 dX5_aims_3 rfl ?_
        refine y_iconst (pc := 4) hC dX5_aims_4 1 (by decide) ?_
        refine yb_iald (pc := 5) hC 3 (r := i) (j := 1) dX5_aims_5 (nI r) rfl (by omega) (by decide) rfl hr ?_
        refine y_gt_t (pc := 6) (a := f) (b := r) hC dX5_aims_6 86 (by decide) (by omega) (by omega) ?_
        refine y_iconst (pc := 86) hC dX5_aims_86 (-1) (by decide) ?_
        exact y_iret hC hQ rfl rfl hv (nb rfl) (nb rfl) dX5_aims_87
      | succ q ihf =>
        intro f hf hv
        refine y_iload_n (pc := 2) hC 0 dX5_aims_2 rfl ?_
        refine y_aload_n (pc := 3) hC 2 dX5_aims_3 rfl ?_
        refine y_iconst (pc := 4) hC dX5_aims_4 1 (by decide) ?_
        refine yb_iald (pc := 5) hC 3 (r := i) (j := 1) dX5_aims_5 (nI r) rfl (by omega) (by decide) rfl hr ?_
        refine y_gt_f (pc := 6) (a := f) (b := r) hC dX5_aims_6 86 (by decide) (by omega) (by omega) ?_
        refine y_aload_n (pc := 9) hC 2 dX5_aims_9 rfl ?_
        refine y_iconst (pc := 10) hC dX5_aims_10 2 (by decide) ?_
        refine yb_iald (pc := 11) hC 3 (r := i) (j := 2) dX5_aims_11 (K i 2) rfl (by omega) (by decide) rfl rfl ?_
        refine y_if_le (pc := 12) hC dX5_aims_12 86 (by decide) (fun c => absurd c hp) (fun _ => ?_)
        refine y_iconst (pc := 15) hC dX5_aims_15 0 (by decide) ?_
        refine y_istore_n (pc := 16) hC dX5_aims_16 [(3, .int 0), (2, .int (nI f)), (0, .ref x), (1, .ref (b i))] rfl (by decide) ?_
        have lpc : ∀ q9 c9 : Nat, c9 + q9 = nc → (match ringF L (K i 0) (nI f) c9 q9 with | some t => nI t | none => aimR L (K i 0) nc (f + 1) q) = aimsF L (K i 0) (K i 2) r nc → yyW d G 0 0 Q (fl [[(x, .inr (5, [.int (nI h), .int co, .ref (v 0), .ref (v 1), .ref (v 2), .ref (v 3)]))], [(v 3, aR d nc (fun i => some (c i)))], sg d 4 c L nc, sg d 4 b K nk]) [(3, .int (nI c9)), (2, .int (nI f)), (0, .ref x), (1, .ref (b i))] 17 [] := by
          intro q9
          induction q9 with
          | zero =>
            intro c9 hc9 hv
            refine y_iload_n (pc := 17) hC 0 dX5_aims_17 rfl ?_
            refine y_aload_n (pc := 18) hC 2 dX5_aims_18 rfl ?_
            refine y_get (pc := 19) hC 0 5 dX5_aims_19 rfl rfl inX5 (by decide) kw_3_77 rfl rfl ?_
            refine y_alenR (pc := 22) hC 1 dX5_aims_22 rfl ?_
            refine y_ge_t (pc := 23) (a := c9) (b := nc) hC dX5_aims_23 80 (by decide) (by omega) (by omega) ?_
            refine y_iinc (pc := 80) hC 1 dX5_aims_80 (nI (f + 1)) [(2, .int (nI (f + 1))), (3, .int (nI c9)), (0, .ref x), (1, .ref (b i))] rfl (nI_inc _) rfl (by decide) ?_
            refine y_goto (pc := 83) hC dX5_aims_83 2 (by decide) ?_
            refine y_lv [(2, .int (nI (f + 1))), (0, .ref x), (1, .ref (b i))] [0, 2, 3] rfl ?_
            exact ihf (f + 1) (by omega) hv
          | succ q9 ihc =>
            intro c9 hc9 hv
            refine y_iload_n (pc := 17) hC 0 dX5_aims_17 rfl ?_
            refine y_aload_n (pc := 18) hC 2 dX5_aims_18 rfl ?_
            refine y_get (pc := 19) hC 0 5 dX5_aims_19 rfl rfl inX5 (by decide) kw_3_77 rfl rfl ?_
            refine y_alenR (pc := 22) hC 1 dX5_aims_22 rfl ?_
            refine y_ge_f (pc := 23) (a := c9) (b := nc) hC dX5_aims_23 80 (by decide) (by omega) (by omega) ?_
            refine y_aload_n (pc := 26) hC 2 dX5_aims_26 rfl ?_
            refine y_get (pc := 27) hC 0 5 dX5_aims_27 rfl rfl inX5 (by decide) kw_3_77 rfl rfl ?_
            refine y_iload_n (pc := 30) hC 0 dX5_aims_30 rfl ?_
            refine y_aald (pc := 31) hC 1 (j := c9) dX5_aims_31 (c c9) rfl (by omega) (by omega) rfl ?_
            refine y_astore (pc := 32) hC dX5_aims_32 [(4, .ref (c c9)), (3, .int (nI c9)), (2, .int (nI f)), (0, .ref x), (1, .ref (b i))] rfl (by decide) ?_
            refine y_aload (pc := 34) hC 0 dX5_aims_34 rfl ?_
            refine y_iconst (pc := 36) hC dX5_aims_36 3 (by decide) ?_
            refine yb_iald (pc := 37) hC 2 (r := c9) (j := 3) dX5_aims_37 (L c9 3) rfl (by omega) (by decide) rfl rfl ?_
            refine y_if_ne (pc := 38) hC dX5_aims_38 74 (by decide) (fun c_1 => ?_) (fun c_1 => ?_)
            · refine y_iinc (pc := 74) hC 1 dX5_aims_74 (nI (c9 + 1)) [(3, .int (nI (c9 + 1))), (4, .ref (c c9)), (2, .int (nI f)), (0, .ref x), (1, .ref (b i))] rfl (nI_inc _) rfl (by decide) ?_
              refine y_goto (pc := 77) hC dX5_aims_77 17 (by decide) ?_
              refine y_lv [(3, .int (nI (c9 + 1))), (2, .int (nI f)), (0, .ref x), (1, .ref (b i))] [0, 2, 3, 4] rfl ?_
              exact ihc (c9 + 1) (by omega) (by simpa [ringF, hitC, c_1] using hv)
            · refine y_aload (pc := 41) hC 0 dX5_aims_41 rfl ?_
              refine y_iconst (pc := 43) hC dX5_aims_43 2 (by decide) ?_
              refine yb_iald (pc := 44) hC 2 (r := c9) (j := 2) dX5_aims_44 (L c9 2) rfl (by omega) (by decide) rfl rfl ?_
              refine y_if_le (pc := 45) hC dX5_aims_45 74 (by decide) (fun c_2 => ?_) (fun c_2 => ?_)
              · refine y_iinc (pc := 74) hC 1 dX5_aims_74 (nI (c9 + 1)) [(3, .int (nI (c9 + 1))), (4, .ref (c c9)), (2, .int (nI f)), (0, .ref x), (1, .ref (b i))] rfl (nI_inc _) rfl (by decide) ?_
                refine y_goto (pc := 77) hC dX5_aims_77 17 (by decide) ?_
                refine y_lv [(3, .int (nI (c9 + 1))), (2, .int (nI f)), (0, .ref x), (1, .ref (b i))] [0, 2, 3, 4] rfl ?_
                exact ihc (c9 + 1) (by omega) (by simpa [ringF, hitC, c_1, c_2] using hv)
              · refine y_aload (pc := 48) hC 0 dX5_aims_48 rfl ?_
                refine y_iconst (pc := 50) hC dX5_aims_50 0 (by decide) ?_
                refine yb_iald (pc := 51) hC 2 (r := c9) (j := 0) dX5_aims_51 (L c9 0) rfl (by omega) (by decide) rfl rfl ?_
                refine y_aload_n (pc := 52) hC 4 dX5_aims_52 rfl ?_
                refine y_iconst (pc := 53) hC dX5_aims_53 0 (by decide) ?_
                refine yb_iald (pc := 54) hC 3 (r := i) (j := 0) dX5_aims_54 (K i 0) rfl (by omega) (by decide) rfl rfl ?_
                refine y_iload_n (pc := 55) hC 2 dX5_aims_55 rfl ?_
                refine y_isub (pc := 56) hC dX5_aims_56 ((K i 0) - (nI f)) rfl ?_
                refine y_cmp_eq (pc := 57) hC dX5_aims_57 72 (by decide) (fun c_3 => ?_) (fun c_3 => ?_)
                · refine y_iload_n (pc := 72) hC 1 dX5_aims_72 rfl ?_
                  exact y_iret hC hQ rfl rfl (by simpa [ringF, hitC, c_1, c_2, c_3] using hv) (nb rfl) (nb rfl) dX5_aims_73
                · refine y_aload (pc := 60) hC 0 dX5_aims_60 rfl ?_
                  refine y_iconst (pc := 62) hC dX5_aims_62 0 (by decide) ?_
                  refine yb_iald (pc := 63) hC 2 (r := c9) (j := 0) dX5_aims_63 (L c9 0) rfl (by omega) (by decide) rfl rfl ?_
                  refine y_aload_n (pc := 64) hC 4 dX5_aims_64 rfl ?_
                  refine y_iconst (pc := 65) hC dX5_aims_65 0 (by decide) ?_
                  refine yb_iald (pc := 66) hC 3 (r := i) (j := 0) dX5_aims_66 (K i 0) rfl (by omega) (by decide) rfl rfl ?_
                  refine y_iload_n (pc := 67) hC 2 dX5_aims_67 rfl ?_
                  refine y_iadd (pc := 68) hC dX5_aims_68 ((K i 0) + (nI f)) rfl ?_
                  refine y_cmp_ne (pc := 69) hC dX5_aims_69 74 (by decide) (fun c_4 => ?_) (fun c_4 => ?_)
                  · refine y_iinc (pc := 74) hC 1 dX5_aims_74 (nI (c9 + 1)) [(3, .int (nI (c9 + 1))), (4, .ref (c c9)), (2, .int (nI f)), (0, .ref x), (1, .ref (b i))] rfl (nI_inc _) rfl (by decide) ?_
                    refine y_goto (pc := 77) hC dX5_aims_77 17 (by decide) ?_
                    refine y_lv [(3, .int (nI (c9 + 1))), (2, .int (nI f)), (0, .ref x), (1, .ref (b i))] [0, 2, 3, 4] rfl ?_
                    exact ihc (c9 + 1) (by omega) (by simpa [ringF, hitC, c_1, c_2, c_3, c_4] using hv)
                  · refine y_iload_n (pc := 72) hC 1 dX5_aims_72 rfl ?_
                    exact y_iret hC hQ rfl rfl (by simpa [ringF, hitC, c_1, c_2, c_3, c_4] using hv) (nb rfl) (nb rfl) dX5_aims_73
        refine y_lv [(3, .int 0), (2, .int (nI f)), (0, .ref x), (1, .ref (b i))] [0, 1, 2, 3] rfl ?_
        exact lpc nc 0 (by omega) hv
    exact lpf (r + 1) 0 (by omega) (by unfold aimsF; rw [if_neg hp])
theorem n_X5_aims : yyN yX5_aims RX5 1 := by refine ⟨rfl, ?_, ?_, ?_⟩ <;> decide +kernel
set_option maxHeartbeats 8000000 in
set_option maxRecDepth 100000 in
theorem c_X5_more (l : Launch) (d : yyD) (r : Nat) (o : Nat) (n : Nat) (m : Nat) (a : Nat → Nat) (g : fI) (F : fR) (hn : n ≤ 20) : yyA l yX5_more cX5_more 4 (Option.some (.array (.array .int))) { frames := 0, cells := 1, slots := 21, locals := 0 } d [.ref r, .ref o] (fl [[(r, aR d n (fun i => some (a i)))], [(o, aI d m g)], sg d m a F n]) (fun u => (fl [[(u, aR d (n + 1) (fun i => some ((upN a n o) i)))], [(r, aR d n (fun i => some (a i)))], [(o, aI d m g)], sg d m a F n])) := by
  refine yyA_of (own := RX5) [(0, .ref r), (1, .ref o)] (by decide +kernel) rfl (Nat.le_of_ble_eq_true rfl) rfl ?_
  intro G Q hQ hGL hC
  refine y_aload_n (pc := 0) hC 0 dX5_more_0 rfl ?_
  refine y_alenR (pc := 1) hC 0 dX5_more_1 rfl ?_
  refine y_iconst (pc := 2) hC dX5_more_2 1 (by decide) ?_
  refine y_iadd (pc := 3) hC dX5_more_3 (nI (n + 1)) (nI_1 _) ?_
  refine y_newR (pc := 4) hC dX5_more_4 (n + 1) (fun q1 => (fl [[(r, aR d n (fun i => some (a i)))], [(o, aI d m g)], sg d m a F n]) ++ [(q1, aR d (n + 1) (fun _ => none))]) rfl (by omega) kw_3_15 ⟨(by show 0 + 1 ≤ 1; omega), (by show 0 + (n + 1) ≤ 21; omega)⟩ (fun _ => rfl) (fun q1 => ?_)
  refine yb_new [[(q1, aR d (n + 1) (fun _ => none))], [(r, aR d n (fun i => some (a i)))], [(o, aI d m g)], sg d m a F n] rfl rfl ?_
  refine y_astore_n (pc := 7) hC dX5_more_7 [(2, .ref q1), (0, .ref r), (1, .ref o)] rfl (by decide) ?_
  refine y_iconst (pc := 8) hC dX5_more_8 0 (by decide) ?_
  refine y_istore_n (pc := 9) hC dX5_more_9 [(3, .int 0), (2, .ref q1), (0, .ref r), (1, .ref o)] rfl (by decide) ?_
  refine y_ws (fl [[(q1, aR d (n + 1) (mvF a 0))], [(r, aR d n (fun i => some (a i)))], [(o, aI d m g)], sg d m a F n]) (by rw [mv_0 a]) ?_
  have lpj2 : ∀ r2 j2 : Nat, j2 + r2 = n → yyW d G (0 + 1) (0 + (n + 1)) Q (fl [[(q1, aR d (n + 1) (mvF a j2))], [(r, aR d n (fun i => some (a i)))], [(o, aI d m g)], sg d m a F n]) [(3, .int (nI j2)), (2, .ref q1), (0, .ref r), (1, .ref o)] 10 [] := by
    intro r2
    induction r2 with
    | zero =>
      intro j2 hj2
      have ej2 : j2 = n := by omega
      rw [ej2]
      refine y_iload_n (pc := 10) hC 0 dX5_more_10 rfl ?_
      refine y_aload_n (pc := 11) hC 2 dX5_more_11 rfl ?_
      refine y_alenR (pc := 12) hC 1 dX5_more_12 rfl ?_
      refine y_ge_t (pc := 13) (a := n) (b := n) hC dX5_more_13 28 (by decide) (by omega) (by omega) ?_
      refine y_aload_n (pc := 28) hC 1 dX5_more_28 rfl ?_
      refine y_aload_n (pc := 29) hC 2 dX5_more_29 rfl ?_
      refine y_alenR (pc := 30) hC 1 dX5_more_30 rfl ?_
      refine y_aload_n (pc := 31) hC 3 dX5_more_31 rfl ?_
      refine y_aast (pc := 32) hC 0 (j := n) (v := o) dX5_more_32 (va_up (mvF a n) n (some o)) (fl [[(q1, aR d (n + 1) (va_up (mvF a n) n (some o)))], [(r, aR d n (fun i => some (a i)))], [(o, aI d m g)], sg d m a F n]) rfl (fl_mem 2 rfl (List.mem_singleton.mpr rfl)) (by omega) (by omega) rfl rfl ?_
      refine y_aload_n (pc := 33) hC 1 dX5_more_33 rfl ?_
      refine yb_aRx 0 (fun i => some (upN a n o i)) [[(q1, aR d (n + 1) (fun i => some ((upN a n o) i)))], [(r, aR d n (fun i => some (a i)))], [(o, aI d m g)], sg d m a F n] rfl (mv_e a n o) rfl ?_
      exact y_aretJ () hC (Or.inr ⟨_, rfl⟩) hQ trivial rfl (by show 0 + 1 ≤ 1; omega) (by show 0 + (n + 1) ≤ 21; omega) dX5_more_34
    | succ r2 ihj2 =>
      intro j2 hj2
      have lj2 : j2 < n := by omega
      refine y_iload_n (pc := 10) hC 0 dX5_more_10 rfl ?_
      refine y_aload_n (pc := 11) hC 2 dX5_more_11 rfl ?_
      refine y_alenR (pc := 12) hC 1 dX5_more_12 rfl ?_
      refine y_ge_f (pc := 13) (a := j2) (b := n) hC dX5_more_13 28 (by decide) (by omega) (by omega) ?_
      refine y_aload_n (pc := 16) hC 1 dX5_more_16 rfl ?_
      refine y_iload_n (pc := 17) hC 0 dX5_more_17 rfl ?_
      refine y_aload_n (pc := 18) hC 2 dX5_more_18 rfl ?_
      refine y_iload_n (pc := 19) hC 0 dX5_more_19 rfl ?_
      refine y_aald (pc := 20) hC 1 (j := j2) dX5_more_20 (a j2) rfl (by omega) (by omega) rfl ?_
      refine y_aast (pc := 21) hC 0 (j := j2) (v := (a j2)) dX5_more_21 (va_up (mvF a j2) j2 (some (a j2))) (fl [[(q1, aR d (n + 1) (va_up (mvF a j2) j2 (some (a j2))))], [(r, aR d n (fun i => some (a i)))], [(o, aI d m g)], sg d m a F n]) rfl (fl_mem 3 rfl (List.mem_of_getElem? (sg_at (by omega)))) (by omega) (by omega) rfl rfl ?_
      refine y_iinc (pc := 22) hC 0 dX5_more_22 (nI (j2 + 1)) [(3, .int (nI (j2 + 1))), (2, .ref q1), (0, .ref r), (1, .ref o)] rfl (nI_inc _) rfl (by decide) ?_
      refine y_goto (pc := 25) hC dX5_more_25 10 (by decide) ?_
      refine y_ws (fl [[(q1, aR d (n + 1) (mvF a (j2 + 1)))], [(r, aR d n (fun i => some (a i)))], [(o, aI d m g)], sg d m a F n]) (by rw [mv_s]) ?_
      exact ihj2 (j2 + 1) (by omega)
  refine y_lv [(3, .int 0), (2, .ref q1), (0, .ref r), (1, .ref o)] [0, 1, 2, 3] rfl ?_
  exact lpj2 n 0 (by omega)
theorem n_X5_more : yyN yX5_more RX5 2 := by refine ⟨rfl, ?_, ?_, ?_⟩ <;> decide +kernel
set_option maxHeartbeats 8000000 in
set_option maxRecDepth 100000 in
theorem c_X5_init (l : Launch) (d : yyD) (x : Nat)  : yyV (S := Nat → Nat) l yX5_init cX5_init 1 { frames := 1, cells := 4, slots := 6, locals := 12 } d [.ref x] (fl [[(x, .inr (5, [.int 0, .int 0, .null, .null, .null, .null]))]]) (fun _ => True) (fun v => (fl [[(x, .inr (5, [.int (nI 0), .int 50, .ref (v 0), .ref (v 1), .ref (v 2), .ref (v 3)]))], [(v 0, aI d 6 (fun _ => 0))], [(v 1, aR d 0 (fun i => some ((fun _ => 0) i)))], [(v 2, aR d 0 (fun i => some ((fun _ => 0) i)))], [(v 3, aR d 0 (fun i => some ((fun _ => 0) i)))], sg d 7 (fun _ => 0) (fun _ _ => 0) 0, sg d 4 (fun _ => 0) (fun _ _ => 0) 0, sg d 4 (fun _ => 0) (fun _ _ => 0) 0])) := by
  refine yyV_of (own := RX5) [(0, .ref x)] (by decide +kernel) rfl (Nat.le_of_ble_eq_true rfl) rfl ?_
  intro G Q hQ hGL hC hGA hin
  refine y_aload_n (pc := 0) hC 0 dX5_init_0 rfl ?_
  refine y_obj (pc := 1) hC kw_3_67 kw_1_21 kw_1_22 ⟨nb rfl, nb rfl⟩ dX5_init_1 ?_
  refine y_aload_n (pc := 4) hC 0 dX5_init_4 rfl ?_
  refine y_bipush (pc := 5) hC dX5_init_5 50 (by decide) ?_
  refine y_put (pc := 7) hC 0 1 .int dX5_init_7 tyX5 (fl [[(x, .inr (5, [.int 0, .int 50, .null, .null, .null, .null]))]]) rfl rfl rfl inX5 tyX5_ok nmX5 (by decide) kw_3_69 rfl rfl (by decide +kernel) rfl rfl (Nat.le_of_ble_eq_true rfl) ?_
  refine y_aload_n (pc := 10) hC 0 dX5_init_10 rfl ?_
  refine y_bipush (pc := 11) hC dX5_init_11 6 (by decide) ?_
  refine y_newaI (pc := 13) hC dX5_init_13 6 (fun q1 => (fl [[(x, .inr (5, [.int 0, .int 50, .null, .null, .null, .null]))]]) ++ [(q1, aI d 6 (fun _ => 0))]) rfl rfl kw_1_62 ⟨nb rfl, nb rfl⟩ (fun _ => rfl) (fun q1 => ?_)
  refine yb_new [[(q1, aI d 6 (fun _ => 0))], [(x, .inr (5, [.int 0, .int 50, .null, .null, .null, .null]))]] rfl rfl ?_
  refine y_put (pc := 15) hC 1 2 (.array .int) dX5_init_15 tyX5 (fl [[(q1, aI d 6 (fun _ => 0))], [(x, .inr (5, [.int 0, .int 50, .ref q1, .null, .null, .null]))]]) rfl rfl rfl inX5 tyX5_ok nmX5 (by decide) kw_3_71 rfl rfl (by decide +kernel) rfl rfl (Nat.le_of_ble_eq_true rfl) ?_
  refine y_aload_n (pc := 18) hC 0 dX5_init_18 rfl ?_
  refine y_iconst (pc := 19) hC dX5_init_19 0 (by decide) ?_
  refine y_newR (pc := 20) hC dX5_init_20 0 (fun q2 => (fl [[(q1, aI d 6 (fun _ => 0))], [(x, .inr (5, [.int 0, .int 50, .ref q1, .null, .null, .null]))]]) ++ [(q2, aR d 0 (fun _ => none))]) rfl (by omega) kw_3_15 ⟨nb rfl, nb rfl⟩ (fun _ => rfl) (fun q2 => ?_)
  refine yb_new [[(q2, aR d 0 (fun _ => none))], [(q1, aI d 6 (fun _ => 0))], [(x, .inr (5, [.int 0, .int 50, .ref q1, .null, .null, .null]))]] rfl rfl ?_
  refine y_put (pc := 23) hC 2 3 (.array (.array .int)) dX5_init_23 tyX5 (fl [[(q2, aR d 0 (fun _ => none))], [(q1, aI d 6 (fun _ => 0))], [(x, .inr (5, [.int 0, .int 50, .ref q1, .ref q2, .null, .null]))]]) rfl rfl rfl inX5 tyX5_ok nmX5 (by decide) kw_3_73 rfl rfl (by decide +kernel) rfl rfl (Nat.le_of_ble_eq_true rfl) ?_
  refine y_aload_n (pc := 26) hC 0 dX5_init_26 rfl ?_
  refine y_iconst (pc := 27) hC dX5_init_27 0 (by decide) ?_
  refine y_newR (pc := 28) hC dX5_init_28 0 (fun q3 => (fl [[(q2, aR d 0 (fun _ => none))], [(q1, aI d 6 (fun _ => 0))], [(x, .inr (5, [.int 0, .int 50, .ref q1, .ref q2, .null, .null]))]]) ++ [(q3, aR d 0 (fun _ => none))]) rfl (by omega) kw_3_15 ⟨nb rfl, nb rfl⟩ (fun _ => rfl) (fun q3 => ?_)
  refine yb_new [[(q3, aR d 0 (fun _ => none))], [(q2, aR d 0 (fun _ => none))], [(q1, aI d 6 (fun _ => 0))], [(x, .inr (5, [.int 0, .int 50, .ref q1, .ref q2, .null, .null]))]] rfl rfl ?_
  refine y_put (pc := 31) hC 3 4 (.array (.array .int)) dX5_init_31 tyX5 (fl [[(q3, aR d 0 (fun _ => none))], [(q2, aR d 0 (fun _ => none))], [(q1, aI d 6 (fun _ => 0))], [(x, .inr (5, [.int 0, .int 50, .ref q1, .ref q2, .ref q3, .null]))]]) rfl rfl rfl inX5 tyX5_ok nmX5 (by decide) kw_3_75 rfl rfl (by decide +kernel) rfl rfl (Nat.le_of_ble_eq_true rfl) ?_
  refine y_aload_n (pc := 34) hC 0 dX5_init_34 rfl ?_
  refine y_iconst (pc := 35) hC dX5_init_35 0 (by decide) ?_
  refine y_newR (pc := 36) hC dX5_init_36 0 (fun q4 => (fl [[(q3, aR d 0 (fun _ => none))], [(q2, aR d 0 (fun _ => none))], [(q1, aI d 6 (fun _ => 0))], [(x, .inr (5, [.int 0, .int 50, .ref q1, .ref q2, .ref q3, .null]))]]) ++ [(q4, aR d 0 (fun _ => none))]) rfl (by omega) kw_3_15 ⟨nb rfl, nb rfl⟩ (fun _ => rfl) (fun q4 => ?_)
  refine yb_new [[(q4, aR d 0 (fun _ => none))], [(q3, aR d 0 (fun _ => none))], [(q2, aR d 0 (fun _ => none))], [(q1, aI d 6 (fun _ => 0))], [(x, .inr (5, [.int 0, .int 50, .ref q1, .ref q2, .ref q3, .null]))]] rfl rfl ?_
  refine y_put (pc := 39) hC 4 5 (.array (.array .int)) dX5_init_39 tyX5 (fl [[(q4, aR d 0 (fun _ => none))], [(q3, aR d 0 (fun _ => none))], [(q2, aR d 0 (fun _ => none))], [(q1, aI d 6 (fun _ => 0))], [(x, .inr (5, [.int 0, .int 50, .ref q1, .ref q2, .ref q3, .ref q4]))]]) rfl rfl rfl inX5 tyX5_ok nmX5 (by decide) kw_3_77 rfl rfl (by decide +kernel) rfl rfl (Nat.le_of_ble_eq_true rfl) ?_
  refine yb_pm [4, 3, 2, 1, 0] 5 [[(x, .inr (5, [.int 0, .int 50, .ref q1, .ref q2, .ref q3, .ref q4]))], [(q1, aI d 6 (fun _ => 0))], [(q2, aR d 0 (fun _ => none))], [(q3, aR d 0 (fun _ => none))], [(q4, aR d 0 (fun _ => none))]] rfl (by decide) rfl ?_
  refine yb_aRx 2 (fun i => some ((fun _ => 0) i)) [[(x, .inr (5, [.int 0, .int 50, .ref q1, .ref q2, .ref q3, .ref q4]))], [(q1, aI d 6 (fun _ => 0))], [(q2, aR d 0 (fun i => some ((fun _ => 0) i)))], [(q3, aR d 0 (fun _ => none))], [(q4, aR d 0 (fun _ => none))]] rfl (fun j hj => absurd hj (Nat.not_lt_zero j)) rfl ?_
  refine yb_aRx 3 (fun i => some ((fun _ => 0) i)) [[(x, .inr (5, [.int 0, .int 50, .ref q1, .ref q2, .ref q3, .ref q4]))], [(q1, aI d 6 (fun _ => 0))], [(q2, aR d 0 (fun i => some ((fun _ => 0) i)))], [(q3, aR d 0 (fun i => some ((fun _ => 0) i)))], [(q4, aR d 0 (fun _ => none))]] rfl (fun j hj => absurd hj (Nat.not_lt_zero j)) rfl ?_
  refine yb_aRx 4 (fun i => some ((fun _ => 0) i)) [[(x, .inr (5, [.int 0, .int 50, .ref q1, .ref q2, .ref q3, .ref q4]))], [(q1, aI d 6 (fun _ => 0))], [(q2, aR d 0 (fun i => some ((fun _ => 0) i)))], [(q3, aR d 0 (fun i => some ((fun _ => 0) i)))], [(q4, aR d 0 (fun i => some ((fun _ => 0) i)))]] rfl (fun j hj => absurd hj (Nat.not_lt_zero j)) rfl ?_
  exact y_vret (fun i => match i with | 0 => q1 | 1 => q2 | 2 => q3 | _ => q4) hC hQ (trivial) rfl (nb rfl) (nb rfl) dX5_init_42
theorem n_X5_init : yyN yX5_init RX5 0 := by refine ⟨rfl, ?_, ?_, ?_⟩ <;> decide +kernel
def cntR (h : Nat) (co : Int32) (ny nk nc : Nat) (Y K L : fR) (w : Nat) : Int32 := if w = 0 then nI h else if w = 1 then nI (h % 24) else if w = 2 then co else if w = 3 then sumR Y 1 ny else if w = 4 then sumR Y 6 ny else if w = 5 then sumR Y 5 ny else if w = 6 then sumR Y 2 ny else if w = 7 then sumR Y 3 ny else if w = 8 then nI nc - sumR L 3 nc else sumR K 3 nk
set_option maxHeartbeats 8000000 in
set_option maxRecDepth 100000 in
theorem c_X5_counts (l : Launch) (d : yyD) (x : Nat) (v : Nat → Nat) (a : Nat → Nat) (b : Nat → Nat) (c : Nat → Nat) (h : Nat) (co : Int32) (wd : fI) (ny : Nat) (nk : Nat) (nc : Nat) (Y : fR) (K : fR) (L : fR) (hy : ny ≤ 10) (hk : nk ≤ 6) (hc : nc ≤ 20) (hh : h < 1000000) : yyA l yX5_counts cX5_counts 2 (Option.some (.array .int)) { frames := 1, cells := 1, slots := 10, locals := 27 } d [.ref x] (fl [[(x, .inr (5, [.int (nI h), .int co, .ref (v 0), .ref (v 1), .ref (v 2), .ref (v 3)]))], [(v 0, aI d 6 wd)], [(v 1, aR d ny (fun i => some (a i)))], [(v 2, aR d nk (fun i => some (b i)))], [(v 3, aR d nc (fun i => some (c i)))], sg d 7 a Y ny, sg d 4 b K nk, sg d 4 c L nc]) (fun u => (fl [[(u, aI d 10 (cntR h co ny nk nc Y K L))], [(x, .inr (5, [.int (nI h), .int co, .ref (v 0), .ref (v 1), .ref (v 2), .ref (v 3)]))], [(v 0, aI d 6 wd)], [(v 1, aR d ny (fun i => some (a i)))], [(v 2, aR d nk (fun i => some (b i)))], [(v 3, aR d nc (fun i => some (c i)))], sg d 7 a Y ny, sg d 4 b K nk, sg d 4 c L nc])) := by
  refine yyA_of (own := RX5) [(0, .ref x)] (by decide +kernel) rfl (Nat.le_of_ble_eq_true rfl) rfl ?_
  intro G Q hQ hGL hC
  refine y_bipush (pc := 0) hC dX5_counts_0 10 (by decide) ?_
  refine y_newaI (pc := 2) hC dX5_counts_2 10 (fun q1 => (fl [[(x, .inr (5, [.int (nI h), .int co, .ref (v 0), .ref (v 1), .ref (v 2), .ref (v 3)]))], [(v 0, aI d 6 wd)], [(v 1, aR d ny (fun i => some (a i)))], [(v 2, aR d nk (fun i => some (b i)))], [(v 3, aR d nc (fun i => some (c i)))], sg d 7 a Y ny, sg d 4 b K nk, sg d 4 c L nc]) ++ [(q1, aI d 10 (fun _ => 0))]) rfl rfl kw_1_62 ⟨nb rfl, nb rfl⟩ (fun _ => rfl) (fun q1 => ?_)
  refine yb_new [[(q1, aI d 10 (fun _ => 0))], [(x, .inr (5, [.int (nI h), .int co, .ref (v 0), .ref (v 1), .ref (v 2), .ref (v 3)]))], [(v 0, aI d 6 wd)], [(v 1, aR d ny (fun i => some (a i)))], [(v 2, aR d nk (fun i => some (b i)))], [(v 3, aR d nc (fun i => some (c i)))], sg d 7 a Y ny, sg d 4 b K nk, sg d 4 c L nc] rfl rfl ?_
  refine y_dup (pc := 4) hC dX5_counts_4 rfl ?_
  refine y_iconst (pc := 5) hC dX5_counts_5 0 (by decide) ?_
  refine y_aload_n (pc := 6) hC 0 dX5_counts_6 rfl ?_
  refine y_get (pc := 7) hC 1 0 dX5_counts_7 rfl rfl inX5 (by decide) kw_3_68 rfl rfl ?_
  refine y_iast (pc := 10) hC 0 (j := 0) dX5_counts_10 (upd (fun _ => 0) 0 (nI h)) (fl [[(q1, aI d 10 (upd (fun _ => 0) 0 (nI h)))], [(x, .inr (5, [.int (nI h), .int co, .ref (v 0), .ref (v 1), .ref (v 2), .ref (v 3)]))], [(v 0, aI d 6 wd)], [(v 1, aR d ny (fun i => some (a i)))], [(v 2, aR d nk (fun i => some (b i)))], [(v 3, aR d nc (fun i => some (c i)))], sg d 7 a Y ny, sg d 4 b K nk, sg d 4 c L nc]) rfl (by omega) rfl rfl rfl ?_
  refine y_dup (pc := 11) hC dX5_counts_11 rfl ?_
  refine y_iconst (pc := 12) hC dX5_counts_12 1 (by decide) ?_
  refine y_aload_n (pc := 13) hC 0 dX5_counts_13 rfl ?_
  refine y_get (pc := 14) hC 1 0 dX5_counts_14 rfl rfl inX5 (by decide) kw_3_68 rfl rfl ?_
  refine y_bipush (pc := 17) hC dX5_counts_17 24 (by decide) ?_
  refine y_irem (pc := 19) hC dX5_counts_19 (nI (h % 24)) (pk_rem (by omega) (by decide) (by decide)) (by decide) ?_
  refine y_iast (pc := 20) hC 0 (j := 1) dX5_counts_20 (upd (upd (fun _ => 0) 0 (nI h)) 1 (nI (h % 24))) (fl [[(q1, aI d 10 (upd (upd (fun _ => 0) 0 (nI h)) 1 (nI (h % 24))))], [(x, .inr (5, [.int (nI h), .int co, .ref (v 0), .ref (v 1), .ref (v 2), .ref (v 3)]))], [(v 0, aI d 6 wd)], [(v 1, aR d ny (fun i => some (a i)))], [(v 2, aR d nk (fun i => some (b i)))], [(v 3, aR d nc (fun i => some (c i)))], sg d 7 a Y ny, sg d 4 b K nk, sg d 4 c L nc]) rfl (by omega) rfl rfl rfl ?_
  refine y_dup (pc := 21) hC dX5_counts_21 rfl ?_
  refine y_iconst (pc := 22) hC dX5_counts_22 2 (by decide) ?_
  refine y_aload_n (pc := 23) hC 0 dX5_counts_23 rfl ?_
  refine y_get (pc := 24) hC 1 1 dX5_counts_24 rfl rfl inX5 (by decide) kw_3_69 rfl rfl ?_
  refine y_iast (pc := 27) hC 0 (j := 2) dX5_counts_27 (upd (upd (upd (fun _ => 0) 0 (nI h)) 1 (nI (h % 24))) 2 co) (fl [[(q1, aI d 10 (upd (upd (upd (fun _ => 0) 0 (nI h)) 1 (nI (h % 24))) 2 co))], [(x, .inr (5, [.int (nI h), .int co, .ref (v 0), .ref (v 1), .ref (v 2), .ref (v 3)]))], [(v 0, aI d 6 wd)], [(v 1, aR d ny (fun i => some (a i)))], [(v 2, aR d nk (fun i => some (b i)))], [(v 3, aR d nc (fun i => some (c i)))], sg d 7 a Y ny, sg d 4 b K nk, sg d 4 c L nc]) rfl (by omega) rfl rfl rfl ?_
  refine y_dup (pc := 28) hC dX5_counts_28 rfl ?_
  refine y_iconst (pc := 29) hC dX5_counts_29 3 (by decide) ?_
  refine y_aload_n (pc := 30) hC 0 dX5_counts_30 rfl ?_
  refine y_aload_n (pc := 31) hC 0 dX5_counts_31 rfl ?_
  refine y_get (pc := 32) hC 1 3 dX5_counts_32 rfl rfl inX5 (by decide) kw_3_73 rfl rfl ?_
  refine y_iconst (pc := 35) hC dX5_counts_35 1 (by decide) ?_
  refine yb_cut [1, 3, 6, 0, 2, 4, 5, 7, 8] 9 [[(x, .inr (5, [.int (nI h), .int co, .ref (v 0), .ref (v 1), .ref (v 2), .ref (v 3)]))], [(v 1, aR d ny (fun i => some (a i)))], sg d 7 a Y ny] [[(q1, aI d 10 (upd (upd (upd (fun _ => 0) 0 (nI h)) 1 (nI (h % 24))) 2 co))], [(v 0, aI d 6 wd)], [(v 2, aR d nk (fun i => some (b i)))], [(v 3, aR d nc (fun i => some (c i)))], sg d 4 b K nk, sg d 4 c L nc] _ rfl (by decide) rfl rfl ?_
  refine y_cI (pc := 36) (As := [.ref (v 1), .int 1]) (st := [.int 3, .ref q1, .ref q1]) hC (c_X5_sum7 (gL G) d x v a (v 1) h co Y ny 1 (by omega) (by omega)) kw_2_206 kw_2_203 kw_2_204 kw_2_205 kw_1_6 n_X5_sum ⟨⟨nb rfl, nb rfl⟩, ⟨nb rfl, nb rfl⟩, nb rfl⟩ _ _ _ 0 _ _ rfl rfl (cut_app _ _) (put_app _ _) rfl dX5_counts_36 ?_
  refine yb_putp [[(x, .inr (5, [.int (nI h), .int co, .ref (v 0), .ref (v 1), .ref (v 2), .ref (v 3)]))], [(v 1, aR d ny (fun i => some (a i)))], sg d 7 a Y ny] [3, 0, 4, 1, 5, 6, 2, 7, 8] 9 [[(q1, aI d 10 (upd (upd (upd (fun _ => 0) 0 (nI h)) 1 (nI (h % 24))) 2 co))], [(x, .inr (5, [.int (nI h), .int co, .ref (v 0), .ref (v 1), .ref (v 2), .ref (v 3)]))], [(v 0, aI d 6 wd)], [(v 1, aR d ny (fun i => some (a i)))], [(v 2, aR d nk (fun i => some (b i)))], [(v 3, aR d nc (fun i => some (c i)))], sg d 7 a Y ny, sg d 4 b K nk, sg d 4 c L nc] rfl rfl (by decide) rfl ?_
  refine y_iast (pc := 39) hC 0 (j := 3) dX5_counts_39 (upd (upd (upd (upd (fun _ => 0) 0 (nI h)) 1 (nI (h % 24))) 2 co) 3 (sumR Y 1 ny)) (fl [[(q1, aI d 10 (upd (upd (upd (upd (fun _ => 0) 0 (nI h)) 1 (nI (h % 24))) 2 co) 3 (sumR Y 1 ny)))], [(x, .inr (5, [.int (nI h), .int co, .ref (v 0), .ref (v 1), .ref (v 2), .ref (v 3)]))], [(v 0, aI d 6 wd)], [(v 1, aR d ny (fun i => some (a i)))], [(v 2, aR d nk (fun i => some (b i)))], [(v 3, aR d nc (fun i => some (c i)))], sg d 7 a Y ny, sg d 4 b K nk, sg d 4 c L nc]) rfl (by omega) rfl rfl rfl ?_
  refine y_dup (pc := 40) hC dX5_counts_40 rfl ?_
  refine y_iconst (pc := 41) hC dX5_counts_41 4 (by decide) ?_
  refine y_aload_n (pc := 42) hC 0 dX5_counts_42 rfl ?_
  refine y_aload_n (pc := 43) hC 0 dX5_counts_43 rfl ?_
  refine y_get (pc := 44) hC 1 3 dX5_counts_44 rfl rfl inX5 (by decide) kw_3_73 rfl rfl ?_
  refine y_bipush (pc := 47) hC dX5_counts_47 6 (by decide) ?_
  refine yb_cut [1, 3, 6, 0, 2, 4, 5, 7, 8] 9 [[(x, .inr (5, [.int (nI h), .int co, .ref (v 0), .ref (v 1), .ref (v 2), .ref (v 3)]))], [(v 1, aR d ny (fun i => some (a i)))], sg d 7 a Y ny] [[(q1, aI d 10 (upd (upd (upd (upd (fun _ => 0) 0 (nI h)) 1 (nI (h % 24))) 2 co) 3 (sumR Y 1 ny)))], [(v 0, aI d 6 wd)], [(v 2, aR d nk (fun i => some (b i)))], [(v 3, aR d nc (fun i => some (c i)))], sg d 4 b K nk, sg d 4 c L nc] _ rfl (by decide) rfl rfl ?_
  refine y_cI (pc := 49) (As := [.ref (v 1), .int 6]) (st := [.int 4, .ref q1, .ref q1]) hC (c_X5_sum7 (gL G) d x v a (v 1) h co Y ny 6 (by omega) (by omega)) kw_2_206 kw_2_203 kw_2_204 kw_2_205 kw_1_6 n_X5_sum ⟨⟨nb rfl, nb rfl⟩, ⟨nb rfl, nb rfl⟩, nb rfl⟩ _ _ _ 0 _ _ rfl rfl (cut_app _ _) (put_app _ _) rfl dX5_counts_49 ?_
  refine yb_putp [[(x, .inr (5, [.int (nI h), .int co, .ref (v 0), .ref (v 1), .ref (v 2), .ref (v 3)]))], [(v 1, aR d ny (fun i => some (a i)))], sg d 7 a Y ny] [3, 0, 4, 1, 5, 6, 2, 7, 8] 9 [[(q1, aI d 10 (upd (upd (upd (upd (fun _ => 0) 0 (nI h)) 1 (nI (h % 24))) 2 co) 3 (sumR Y 1 ny)))], [(x, .inr (5, [.int (nI h), .int co, .ref (v 0), .ref (v 1), .ref (v 2), .ref (v 3)]))], [(v 0, aI d 6 wd)], [(v 1, aR d ny (fun i => some (a i)))], [(v 2, aR d nk (fun i => some (b i)))], [(v 3, aR d nc (fun i => some (c i)))], sg d 7 a Y ny, sg d 4 b K nk, sg d 4 c L nc] rfl rfl (by decide) rfl ?_
  refine y_iast (pc := 52) hC 0 (j := 4) dX5_counts_52 (upd (upd (upd (upd (upd (fun _ => 0) 0 (nI h)) 1 (nI (h % 24))) 2 co) 3 (sumR Y 1 ny)) 4 (sumR Y 6 ny)) (fl [[(q1, aI d 10 (upd (upd (upd (upd (upd (fun _ => 0) 0 (nI h)) 1 (nI (h % 24))) 2 co) 3 (sumR Y 1 ny)) 4 (sumR Y 6 ny)))], [(x, .inr (5, [.int (nI h), .int co, .ref (v 0), .ref (v 1), .ref (v 2), .ref (v 3)]))], [(v 0, aI d 6 wd)], [(v 1, aR d ny (fun i => some (a i)))], [(v 2, aR d nk (fun i => some (b i)))], [(v 3, aR d nc (fun i => some (c i)))], sg d 7 a Y ny, sg d 4 b K nk, sg d 4 c L nc]) rfl (by omega) rfl rfl rfl ?_
  refine y_dup (pc := 53) hC dX5_counts_53 rfl ?_
  refine y_iconst (pc := 54) hC dX5_counts_54 5 (by decide) ?_
  refine y_aload_n (pc := 55) hC 0 dX5_counts_55 rfl ?_
  refine y_aload_n (pc := 56) hC 0 dX5_counts_56 rfl ?_
  refine y_get (pc := 57) hC 1 3 dX5_counts_57 rfl rfl inX5 (by decide) kw_3_73 rfl rfl ?_
  refine y_iconst (pc := 60) hC dX5_counts_60 5 (by decide) ?_
  refine yb_cut [1, 3, 6, 0, 2, 4, 5, 7, 8] 9 [[(x, .inr (5, [.int (nI h), .int co, .ref (v 0), .ref (v 1), .ref (v 2), .ref (v 3)]))], [(v 1, aR d ny (fun i => some (a i)))], sg d 7 a Y ny] [[(q1, aI d 10 (upd (upd (upd (upd (upd (fun _ => 0) 0 (nI h)) 1 (nI (h % 24))) 2 co) 3 (sumR Y 1 ny)) 4 (sumR Y 6 ny)))], [(v 0, aI d 6 wd)], [(v 2, aR d nk (fun i => some (b i)))], [(v 3, aR d nc (fun i => some (c i)))], sg d 4 b K nk, sg d 4 c L nc] _ rfl (by decide) rfl rfl ?_
  refine y_cI (pc := 61) (As := [.ref (v 1), .int 5]) (st := [.int 5, .ref q1, .ref q1]) hC (c_X5_sum7 (gL G) d x v a (v 1) h co Y ny 5 (by omega) (by omega)) kw_2_206 kw_2_203 kw_2_204 kw_2_205 kw_1_6 n_X5_sum ⟨⟨nb rfl, nb rfl⟩, ⟨nb rfl, nb rfl⟩, nb rfl⟩ _ _ _ 0 _ _ rfl rfl (cut_app _ _) (put_app _ _) rfl dX5_counts_61 ?_
  refine yb_putp [[(x, .inr (5, [.int (nI h), .int co, .ref (v 0), .ref (v 1), .ref (v 2), .ref (v 3)]))], [(v 1, aR d ny (fun i => some (a i)))], sg d 7 a Y ny] [3, 0, 4, 1, 5, 6, 2, 7, 8] 9 [[(q1, aI d 10 (upd (upd (upd (upd (upd (fun _ => 0) 0 (nI h)) 1 (nI (h % 24))) 2 co) 3 (sumR Y 1 ny)) 4 (sumR Y 6 ny)))], [(x, .inr (5, [.int (nI h), .int co, .ref (v 0), .ref (v 1), .ref (v 2), .ref (v 3)]))], [(v 0, aI d 6 wd)], [(v 1, aR d ny (fun i => some (a i)))], [(v 2, aR d nk (fun i => some (b i)))], [(v 3, aR d nc (fun i => some (c i)))], sg d 7 a Y ny, sg d 4 b K nk, sg d 4 c L nc] rfl rfl (by decide) rfl ?_
  refine y_iast (pc := 64) hC 0 (j := 5) dX5_counts_64 (upd (upd (upd (upd (upd (upd (fun _ => 0) 0 (nI h)) 1 (nI (h % 24))) 2 co) 3 (sumR Y 1 ny)) 4 (sumR Y 6 ny)) 5 (sumR Y 5 ny)) (fl [[(q1, aI d 10 (upd (upd (upd (upd (upd (upd (fun _ => 0) 0 (nI h)) 1 (nI (h % 24))) 2 co) 3 (sumR Y 1 ny)) 4 (sumR Y 6 ny)) 5 (sumR Y 5 ny)))], [(x, .inr (5, [.int (nI h), .int co, .ref (v 0), .ref (v 1), .ref (v 2), .ref (v 3)]))], [(v 0, aI d 6 wd)], [(v 1, aR d ny (fun i => some (a i)))], [(v 2, aR d nk (fun i => some (b i)))], [(v 3, aR d nc (fun i => some (c i)))], sg d 7 a Y ny, sg d 4 b K nk, sg d 4 c L nc]) rfl (by omega) rfl rfl rfl ?_
  refine y_dup (pc := 65) hC dX5_counts_65 rfl ?_
  refine y_bipush (pc := 66) hC dX5_counts_66 6 (by decide) ?_
  refine y_aload_n (pc := 68) hC 0 dX5_counts_68 rfl ?_
  refine y_aload_n (pc := 69) hC 0 dX5_counts_69 rfl ?_
  refine y_get (pc := 70) hC 1 3 dX5_counts_70 rfl rfl inX5 (by decide) kw_3_73 rfl rfl ?_
  refine y_iconst (pc := 73) hC dX5_counts_73 2 (by decide) ?_
  refine yb_cut [1, 3, 6, 0, 2, 4, 5, 7, 8] 9 [[(x, .inr (5, [.int (nI h), .int co, .ref (v 0), .ref (v 1), .ref (v 2), .ref (v 3)]))], [(v 1, aR d ny (fun i => some (a i)))], sg d 7 a Y ny] [[(q1, aI d 10 (upd (upd (upd (upd (upd (upd (fun _ => 0) 0 (nI h)) 1 (nI (h % 24))) 2 co) 3 (sumR Y 1 ny)) 4 (sumR Y 6 ny)) 5 (sumR Y 5 ny)))], [(v 0, aI d 6 wd)], [(v 2, aR d nk (fun i => some (b i)))], [(v 3, aR d nc (fun i => some (c i)))], sg d 4 b K nk, sg d 4 c L nc] _ rfl (by decide) rfl rfl ?_
  refine y_cI (pc := 74) (As := [.ref (v 1), .int 2]) (st := [.int 6, .ref q1, .ref q1]) hC (c_X5_sum7 (gL G) d x v a (v 1) h co Y ny 2 (by omega) (by omega)) kw_2_206 kw_2_203 kw_2_204 kw_2_205 kw_1_6 n_X5_sum ⟨⟨nb rfl, nb rfl⟩, ⟨nb rfl, nb rfl⟩, nb rfl⟩ _ _ _ 0 _ _ rfl rfl (cut_app _ _) (put_app _ _) rfl dX5_counts_74 ?_
  refine yb_putp [[(x, .inr (5, [.int (nI h), .int co, .ref (v 0), .ref (v 1), .ref (v 2), .ref (v 3)]))], [(v 1, aR d ny (fun i => some (a i)))], sg d 7 a Y ny] [3, 0, 4, 1, 5, 6, 2, 7, 8] 9 [[(q1, aI d 10 (upd (upd (upd (upd (upd (upd (fun _ => 0) 0 (nI h)) 1 (nI (h % 24))) 2 co) 3 (sumR Y 1 ny)) 4 (sumR Y 6 ny)) 5 (sumR Y 5 ny)))], [(x, .inr (5, [.int (nI h), .int co, .ref (v 0), .ref (v 1), .ref (v 2), .ref (v 3)]))], [(v 0, aI d 6 wd)], [(v 1, aR d ny (fun i => some (a i)))], [(v 2, aR d nk (fun i => some (b i)))], [(v 3, aR d nc (fun i => some (c i)))], sg d 7 a Y ny, sg d 4 b K nk, sg d 4 c L nc] rfl rfl (by decide) rfl ?_
  refine y_iast (pc := 77) hC 0 (j := 6) dX5_counts_77 (upd (upd (upd (upd (upd (upd (upd (fun _ => 0) 0 (nI h)) 1 (nI (h % 24))) 2 co) 3 (sumR Y 1 ny)) 4 (sumR Y 6 ny)) 5 (sumR Y 5 ny)) 6 (sumR Y 2 ny)) (fl [[(q1, aI d 10 (upd (upd (upd (upd (upd (upd (upd (fun _ => 0) 0 (nI h)) 1 (nI (h % 24))) 2 co) 3 (sumR Y 1 ny)) 4 (sumR Y 6 ny)) 5 (sumR Y 5 ny)) 6 (sumR Y 2 ny)))], [(x, .inr (5, [.int (nI h), .int co, .ref (v 0), .ref (v 1), .ref (v 2), .ref (v 3)]))], [(v 0, aI d 6 wd)], [(v 1, aR d ny (fun i => some (a i)))], [(v 2, aR d nk (fun i => some (b i)))], [(v 3, aR d nc (fun i => some (c i)))], sg d 7 a Y ny, sg d 4 b K nk, sg d 4 c L nc]) rfl (by omega) rfl rfl rfl ?_
  refine y_dup (pc := 78) hC dX5_counts_78 rfl ?_
  refine y_bipush (pc := 79) hC dX5_counts_79 7 (by decide) ?_
  refine y_aload_n (pc := 81) hC 0 dX5_counts_81 rfl ?_
  refine y_aload_n (pc := 82) hC 0 dX5_counts_82 rfl ?_
  refine y_get (pc := 83) hC 1 3 dX5_counts_83 rfl rfl inX5 (by decide) kw_3_73 rfl rfl ?_
  refine y_iconst (pc := 86) hC dX5_counts_86 3 (by decide) ?_
  refine yb_cut [1, 3, 6, 0, 2, 4, 5, 7, 8] 9 [[(x, .inr (5, [.int (nI h), .int co, .ref (v 0), .ref (v 1), .ref (v 2), .ref (v 3)]))], [(v 1, aR d ny (fun i => some (a i)))], sg d 7 a Y ny] [[(q1, aI d 10 (upd (upd (upd (upd (upd (upd (upd (fun _ => 0) 0 (nI h)) 1 (nI (h % 24))) 2 co) 3 (sumR Y 1 ny)) 4 (sumR Y 6 ny)) 5 (sumR Y 5 ny)) 6 (sumR Y 2 ny)))], [(v 0, aI d 6 wd)], [(v 2, aR d nk (fun i => some (b i)))], [(v 3, aR d nc (fun i => some (c i)))], sg d 4 b K nk, sg d 4 c L nc] _ rfl (by decide) rfl rfl ?_
  refine y_cI (pc := 87) (As := [.ref (v 1), .int 3]) (st := [.int 7, .ref q1, .ref q1]) hC (c_X5_sum7 (gL G) d x v a (v 1) h co Y ny 3 (by omega) (by omega)) kw_2_206 kw_2_203 kw_2_204 kw_2_205 kw_1_6 n_X5_sum ⟨⟨nb rfl, nb rfl⟩, ⟨nb rfl, nb rfl⟩, nb rfl⟩ _ _ _ 0 _ _ rfl rfl (cut_app _ _) (put_app _ _) rfl dX5_counts_87 ?_
  refine yb_putp [[(x, .inr (5, [.int (nI h), .int co, .ref (v 0), .ref (v 1), .ref (v 2), .ref (v 3)]))], [(v 1, aR d ny (fun i => some (a i)))], sg d 7 a Y ny] [3, 0, 4, 1, 5, 6, 2, 7, 8] 9 [[(q1, aI d 10 (upd (upd (upd (upd (upd (upd (upd (fun _ => 0) 0 (nI h)) 1 (nI (h % 24))) 2 co) 3 (sumR Y 1 ny)) 4 (sumR Y 6 ny)) 5 (sumR Y 5 ny)) 6 (sumR Y 2 ny)))], [(x, .inr (5, [.int (nI h), .int co, .ref (v 0), .ref (v 1), .ref (v 2), .ref (v 3)]))], [(v 0, aI d 6 wd)], [(v 1, aR d ny (fun i => some (a i)))], [(v 2, aR d nk (fun i => some (b i)))], [(v 3, aR d nc (fun i => some (c i)))], sg d 7 a Y ny, sg d 4 b K nk, sg d 4 c L nc] rfl rfl (by decide) rfl ?_
  refine y_iast (pc := 90) hC 0 (j := 7) dX5_counts_90 (upd (upd (upd (upd (upd (upd (upd (upd (fun _ => 0) 0 (nI h)) 1 (nI (h % 24))) 2 co) 3 (sumR Y 1 ny)) 4 (sumR Y 6 ny)) 5 (sumR Y 5 ny)) 6 (sumR Y 2 ny)) 7 (sumR Y 3 ny)) (fl [[(q1, aI d 10 (upd (upd (upd (upd (upd (upd (upd (upd (fun _ => 0) 0 (nI h)) 1 (nI (h % 24))) 2 co) 3 (sumR Y 1 ny)) 4 (sumR Y 6 ny)) 5 (sumR Y 5 ny)) 6 (sumR Y 2 ny)) 7 (sumR Y 3 ny)))], [(x, .inr (5, [.int (nI h), .int co, .ref (v 0), .ref (v 1), .ref (v 2), .ref (v 3)]))], [(v 0, aI d 6 wd)], [(v 1, aR d ny (fun i => some (a i)))], [(v 2, aR d nk (fun i => some (b i)))], [(v 3, aR d nc (fun i => some (c i)))], sg d 7 a Y ny, sg d 4 b K nk, sg d 4 c L nc]) rfl (by omega) rfl rfl rfl ?_
  refine y_dup (pc := 91) hC dX5_counts_91 rfl ?_
  refine y_bipush (pc := 92) hC dX5_counts_92 8 (by decide) ?_
  refine y_aload_n (pc := 94) hC 0 dX5_counts_94 rfl ?_
  refine y_get (pc := 95) hC 1 5 dX5_counts_95 rfl rfl inX5 (by decide) kw_3_77 rfl rfl ?_
  refine y_alenR (pc := 98) hC 5 dX5_counts_98 rfl ?_
  refine y_aload_n (pc := 99) hC 0 dX5_counts_99 rfl ?_
  refine y_aload_n (pc := 100) hC 0 dX5_counts_100 rfl ?_
  refine y_get (pc := 101) hC 1 5 dX5_counts_101 rfl rfl inX5 (by decide) kw_3_77 rfl rfl ?_
  refine y_iconst (pc := 104) hC dX5_counts_104 3 (by decide) ?_
  refine yb_cut [1, 5, 8, 0, 2, 3, 4, 6, 7] 9 [[(x, .inr (5, [.int (nI h), .int co, .ref (v 0), .ref (v 1), .ref (v 2), .ref (v 3)]))], [(v 3, aR d nc (fun i => some (c i)))], sg d 4 c L nc] [[(q1, aI d 10 (upd (upd (upd (upd (upd (upd (upd (upd (fun _ => 0) 0 (nI h)) 1 (nI (h % 24))) 2 co) 3 (sumR Y 1 ny)) 4 (sumR Y 6 ny)) 5 (sumR Y 5 ny)) 6 (sumR Y 2 ny)) 7 (sumR Y 3 ny)))], [(v 0, aI d 6 wd)], [(v 1, aR d ny (fun i => some (a i)))], [(v 2, aR d nk (fun i => some (b i)))], sg d 7 a Y ny, sg d 4 b K nk] _ rfl (by decide) rfl rfl ?_
  refine y_cI (pc := 105) (As := [.ref (v 3), .int 3]) (st := [.int (nI nc), .int 8, .ref q1, .ref q1]) hC (c_X5_sum4 (gL G) d x v c (v 3) h co L nc 3 (by omega) (by omega)) kw_2_206 kw_2_203 kw_2_204 kw_2_205 kw_1_6 n_X5_sum ⟨⟨nb rfl, nb rfl⟩, ⟨nb rfl, nb rfl⟩, nb rfl⟩ _ _ _ 0 _ _ rfl rfl (cut_app _ _) (put_app _ _) rfl dX5_counts_105 ?_
  refine yb_putp [[(x, .inr (5, [.int (nI h), .int co, .ref (v 0), .ref (v 1), .ref (v 2), .ref (v 3)]))], [(v 3, aR d nc (fun i => some (c i)))], sg d 4 c L nc] [3, 0, 4, 5, 6, 1, 7, 8, 2] 9 [[(q1, aI d 10 (upd (upd (upd (upd (upd (upd (upd (upd (fun _ => 0) 0 (nI h)) 1 (nI (h % 24))) 2 co) 3 (sumR Y 1 ny)) 4 (sumR Y 6 ny)) 5 (sumR Y 5 ny)) 6 (sumR Y 2 ny)) 7 (sumR Y 3 ny)))], [(x, .inr (5, [.int (nI h), .int co, .ref (v 0), .ref (v 1), .ref (v 2), .ref (v 3)]))], [(v 0, aI d 6 wd)], [(v 1, aR d ny (fun i => some (a i)))], [(v 2, aR d nk (fun i => some (b i)))], [(v 3, aR d nc (fun i => some (c i)))], sg d 7 a Y ny, sg d 4 b K nk, sg d 4 c L nc] rfl rfl (by decide) rfl ?_
  refine y_isub (pc := 108) hC dX5_counts_108 ((nI nc) - (sumR L 3 nc)) rfl ?_
  refine y_iast (pc := 109) hC 0 (j := 8) dX5_counts_109 (upd (upd (upd (upd (upd (upd (upd (upd (upd (fun _ => 0) 0 (nI h)) 1 (nI (h % 24))) 2 co) 3 (sumR Y 1 ny)) 4 (sumR Y 6 ny)) 5 (sumR Y 5 ny)) 6 (sumR Y 2 ny)) 7 (sumR Y 3 ny)) 8 ((nI nc) - (sumR L 3 nc))) (fl [[(q1, aI d 10 (upd (upd (upd (upd (upd (upd (upd (upd (upd (fun _ => 0) 0 (nI h)) 1 (nI (h % 24))) 2 co) 3 (sumR Y 1 ny)) 4 (sumR Y 6 ny)) 5 (sumR Y 5 ny)) 6 (sumR Y 2 ny)) 7 (sumR Y 3 ny)) 8 ((nI nc) - (sumR L 3 nc))))], [(x, .inr (5, [.int (nI h), .int co, .ref (v 0), .ref (v 1), .ref (v 2), .ref (v 3)]))], [(v 0, aI d 6 wd)], [(v 1, aR d ny (fun i => some (a i)))], [(v 2, aR d nk (fun i => some (b i)))], [(v 3, aR d nc (fun i => some (c i)))], sg d 7 a Y ny, sg d 4 b K nk, sg d 4 c L nc]) rfl (by omega) rfl rfl rfl ?_
  refine y_dup (pc := 110) hC dX5_counts_110 rfl ?_
  refine y_bipush (pc := 111) hC dX5_counts_111 9 (by decide) ?_
  refine y_aload_n (pc := 113) hC 0 dX5_counts_113 rfl ?_
  refine y_aload_n (pc := 114) hC 0 dX5_counts_114 rfl ?_
  refine y_get (pc := 115) hC 1 4 dX5_counts_115 rfl rfl inX5 (by decide) kw_3_75 rfl rfl ?_
  refine y_iconst (pc := 118) hC dX5_counts_118 3 (by decide) ?_
  refine yb_cut [1, 4, 7, 0, 2, 3, 5, 6, 8] 9 [[(x, .inr (5, [.int (nI h), .int co, .ref (v 0), .ref (v 1), .ref (v 2), .ref (v 3)]))], [(v 2, aR d nk (fun i => some (b i)))], sg d 4 b K nk] [[(q1, aI d 10 (upd (upd (upd (upd (upd (upd (upd (upd (upd (fun _ => 0) 0 (nI h)) 1 (nI (h % 24))) 2 co) 3 (sumR Y 1 ny)) 4 (sumR Y 6 ny)) 5 (sumR Y 5 ny)) 6 (sumR Y 2 ny)) 7 (sumR Y 3 ny)) 8 ((nI nc) - (sumR L 3 nc))))], [(v 0, aI d 6 wd)], [(v 1, aR d ny (fun i => some (a i)))], [(v 3, aR d nc (fun i => some (c i)))], sg d 7 a Y ny, sg d 4 c L nc] _ rfl (by decide) rfl rfl ?_
  refine y_cI (pc := 119) (As := [.ref (v 2), .int 3]) (st := [.int 9, .ref q1, .ref q1]) hC (c_X5_sum4 (gL G) d x v b (v 2) h co K nk 3 (by omega) (by omega)) kw_2_206 kw_2_203 kw_2_204 kw_2_205 kw_1_6 n_X5_sum ⟨⟨nb rfl, nb rfl⟩, ⟨nb rfl, nb rfl⟩, nb rfl⟩ _ _ _ 0 _ _ rfl rfl (cut_app _ _) (put_app _ _) rfl dX5_counts_119 ?_
  refine yb_putp [[(x, .inr (5, [.int (nI h), .int co, .ref (v 0), .ref (v 1), .ref (v 2), .ref (v 3)]))], [(v 2, aR d nk (fun i => some (b i)))], sg d 4 b K nk] [3, 0, 4, 5, 1, 6, 7, 2, 8] 9 [[(q1, aI d 10 (upd (upd (upd (upd (upd (upd (upd (upd (upd (fun _ => 0) 0 (nI h)) 1 (nI (h % 24))) 2 co) 3 (sumR Y 1 ny)) 4 (sumR Y 6 ny)) 5 (sumR Y 5 ny)) 6 (sumR Y 2 ny)) 7 (sumR Y 3 ny)) 8 ((nI nc) - (sumR L 3 nc))))], [(x, .inr (5, [.int (nI h), .int co, .ref (v 0), .ref (v 1), .ref (v 2), .ref (v 3)]))], [(v 0, aI d 6 wd)], [(v 1, aR d ny (fun i => some (a i)))], [(v 2, aR d nk (fun i => some (b i)))], [(v 3, aR d nc (fun i => some (c i)))], sg d 7 a Y ny, sg d 4 b K nk, sg d 4 c L nc] rfl rfl (by decide) rfl ?_
  refine y_iast (pc := 122) hC 0 (j := 9) dX5_counts_122 (upd (upd (upd (upd (upd (upd (upd (upd (upd (upd (fun _ => 0) 0 (nI h)) 1 (nI (h % 24))) 2 co) 3 (sumR Y 1 ny)) 4 (sumR Y 6 ny)) 5 (sumR Y 5 ny)) 6 (sumR Y 2 ny)) 7 (sumR Y 3 ny)) 8 ((nI nc) - (sumR L 3 nc))) 9 (sumR K 3 nk)) (fl [[(q1, aI d 10 (upd (upd (upd (upd (upd (upd (upd (upd (upd (upd (fun _ => 0) 0 (nI h)) 1 (nI (h % 24))) 2 co) 3 (sumR Y 1 ny)) 4 (sumR Y 6 ny)) 5 (sumR Y 5 ny)) 6 (sumR Y 2 ny)) 7 (sumR Y 3 ny)) 8 ((nI nc) - (sumR L 3 nc))) 9 (sumR K 3 nk)))], [(x, .inr (5, [.int (nI h), .int co, .ref (v 0), .ref (v 1), .ref (v 2), .ref (v 3)]))], [(v 0, aI d 6 wd)], [(v 1, aR d ny (fun i => some (a i)))], [(v 2, aR d nk (fun i => some (b i)))], [(v 3, aR d nc (fun i => some (c i)))], sg d 7 a Y ny, sg d 4 b K nk, sg d 4 c L nc]) rfl (by omega) rfl rfl rfl ?_
  refine y_astore_n (pc := 123) hC dX5_counts_123 [(1, .ref q1), (0, .ref x)] rfl (by decide) ?_
  refine y_aload_n (pc := 124) hC 0 dX5_counts_124 rfl ?_
  refine yb_aIx 0 (cntR h co ny nk nc Y K L) [[(q1, aI d 10 (cntR h co ny nk nc Y K L))], [(x, .inr (5, [.int (nI h), .int co, .ref (v 0), .ref (v 1), .ref (v 2), .ref (v 3)]))], [(v 0, aI d 6 wd)], [(v 1, aR d ny (fun i => some (a i)))], [(v 2, aR d nk (fun i => some (b i)))], [(v 3, aR d nc (fun i => some (c i)))], sg d 7 a Y ny, sg d 4 b K nk, sg d 4 c L nc] rfl (fun j hj => ?_) rfl ?_
  · rcases (show j = 0 ∨ j = 1 ∨ j = 2 ∨ j = 3 ∨ j = 4 ∨ j = 5 ∨ j = 6 ∨ j = 7 ∨ j = 8 ∨ j = 9 by omega) with rfl | rfl | rfl | rfl | rfl | rfl | rfl | rfl | rfl | rfl <;> rfl
  exact y_aretJ () hC (Or.inr ⟨_, rfl⟩) hQ trivial rfl (nb rfl) (nb rfl) dX5_counts_125
theorem n_X5_counts : yyN yX5_counts RX5 0 := by refine ⟨rfl, ?_, ?_, ?_⟩ <;> decide +kernel
