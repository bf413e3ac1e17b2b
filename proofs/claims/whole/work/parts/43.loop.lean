theorem head_lt {L i : Nat} (hL : L ≤ 2560) (hi : i ≤ 10000) : nI L - 5 < nI i ↔ L < i + 5 := by
  have e5 : (5 : Int32).toInt = 5 := rfl
  rw [t_lt, t_sub (by rw [nI_toInt (by omega), e5]; omega) (by rw [nI_toInt (by omega), e5]; omega), nI_toInt (by omega), nI_toInt (by omega), e5]
  omega
set_option maxHeartbeats 4000000 in
set_option maxRecDepth 100000 in
/-- an hour of the law: from the switch -/
theorem law_switch {d : yyD} {G : yyG} {Q : State → Prop} {au av : Nat → Nat} {x0 m0 o0 b L : Nat} {xs : Nat → Int32} (hC : yyC d G cL_law RL room_1 9 (some .boolean)) (hX : yyX G b L xs) (hZ : yyZ (gA G) (gS G) (gS G).heap) (hE : yyE (gS G)) (hfl : (gL G).stackTraces = false) {i kc ns : Nat} (hi : i + 4 < L) (hkc : kc + 111 ≤ 601024) (hns : ns + 750 ≤ 7293034)
    {pl vi : fI} {me ins : fB} {lt su la kp rg pw sh cp dr ha wd : fI} {co : Int32} {h n nk nc : Nat} {t0 : TS} {y0 : ZS} {th : Int32} {f : Nat → Int64} (hI : Iv (pl, me, ins, n, kp, rg, nk, dr, nc, wd) (vi, lt, su, la, pw, sh, cp, ha, co)) (hn : n ≤ 10) (hk : nk ≤ 6) (hc : nc ≤ 20) (hh : h ≤ 100000) (nx : NX d G Q au av x0 m0 o0 b i (kc + 111) (ns + 750) (h + 96)) (w : Nat) (hw : w < 32) : yyW d G kc ns Q [(x0, .inr (4, [.ref (au 1), .ref (au 21)])), (au 1, .inr (2, [.ref (au 2), .ref (au 10), .ref (au 15), .ref (au 20), .int (nI h), .int co])), (au 2, .inr (3, [.ref (au 3), .ref (au 4), .ref (au 5), .ref (au 6), .ref (au 7), .ref (au 8), .ref (au 9), .int (nI n)])), (au 3, aI d 10 pl), (au 4, aI d 10 vi), (au 5, aZ d 10 me), (au 6, aZ d 10 ins), (au 7, aI d 10 lt), (au 8, aI d 10 su), (au 9, aI d 10 la), (au 10, .inr (0, [.ref (au 11), .ref (au 12), .ref (au 13), .ref (au 14), .int (nI nk)])), (au 11, aI d 6 kp), (au 12, aI d 6 rg), (au 13, aI d 6 pw), (au 14, aI d 6 sh), (au 15, .inr (1, [.ref (au 16), .ref (au 17), .ref (au 18), .ref (au 19), .int (nI nc)])), (au 16, aI d 20 cp), (au 17, aI d 20 dr), (au 18, aI d 20 ha), (au 19, aZ d 20 (gnF cp)), (au 20, aI d 6 wd), (au 21, .inr (2, [.ref (au 22), .ref (au 30), .ref (au 35), .ref (au 40), .int (nI (t0.2.2.1 3)), .int t0.2.2.2])), (au 22, .inr (3, [.ref (au 23), .ref (au 24), .ref (au 25), .ref (au 26), .ref (au 27), .ref (au 28), .ref (au 29), .int (nI (t0.2.2.1 0))])), (au 23, aI d 10 (t0.1 0)), (au 24, aI d 10 (t0.1 1)), (au 25, aZ d 10 (t0.2.1 0)), (au 26, aZ d 10 (t0.2.1 1)), (au 27, aI d 10 (t0.1 2)), (au 28, aI d 10 (t0.1 3)), (au 29, aI d 10 (t0.1 4)), (au 30, .inr (0, [.ref (au 31), .ref (au 32), .ref (au 33), .ref (au 34), .int (nI (t0.2.2.1 1))])), (au 31, aI d 6 (t0.1 5)), (au 32, aI d 6 (t0.1 6)), (au 33, aI d 6 (t0.1 7)), (au 34, aI d 6 (t0.1 8)), (au 35, .inr (1, [.ref (au 36), .ref (au 37), .ref (au 38), .ref (au 39), .int (nI (t0.2.2.1 2))])), (au 36, aI d 20 (t0.1 9)), (au 37, aI d 20 (t0.1 10)), (au 38, aI d 20 (t0.1 11)), (au 39, aZ d 20 (gnF (t0.1 9))), (au 40, aI d 6 (t0.1 12)), (m0, .inr (6, [.int th, .int (nI n), .ref (av 1), .ref (av 2), .ref (av 3), .int (nI nk), .ref (av 4), .int (nI nc), .ref (av 5), .ref (av 6), .ref (av 7), .ref (av 17)])), (av 1, aI d 10 pl), (av 2, aI d 10 (biF me)), (av 3, aI d 10 (biF ins)), (av 4, aI d 6 rg), (av 5, aI d 20 dr), (av 6, aI d 6 wd), (av 7, .inr (5, [.int (nI h), .int co, .ref (av 8), .ref (av 9), .ref (av 10), .ref (av 11), .ref (av 12), .ref (av 13), .ref (av 14), .ref (av 15), .ref (av 16), .ref m0])), (av 8, aI d 10 vi), (av 9, aI d 10 lt), (av 10, aI d 10 la), (av 11, aI d 10 su), (av 12, aI d 6 kp), (av 13, aI d 6 pw), (av 14, aI d 6 sh), (av 15, aI d 20 cp), (av 16, aI d 20 ha), (av 17, .inr (5, [.int (nI (y0.2.1)), .int y0.2.2, .ref (av 18), .ref (av 19), .ref (av 20), .ref (av 21), .ref (av 22), .ref (av 23), .ref (av 24), .ref (av 25), .ref (av 26), .ref m0])), (av 18, aI d 10 (y0.1 0)), (av 19, aI d 10 (y0.1 1)), (av 20, aI d 10 (y0.1 2)), (av 21, aI d 10 (y0.1 3)), (av 22, aI d 6 (y0.1 4)), (av 23, aI d 6 (y0.1 5)), (av 24, aI d 6 (y0.1 6)), (av 25, aI d 20 (y0.1 7)), (av 26, aI d 20 (y0.1 8)), (o0, aJ d 1 f)] [(4, .int (nI i)), (0, .ref b), (1, .ref x0), (2, .ref m0), (3, .ref o0)] 39 [.int (nI w)] := by
  rcases (show w = 0 ∨ w = 1 ∨ w = 2 ∨ w = 3 ∨ w = 4 ∨ w = 5 ∨ w = 6 ∨ w = 7 ∨ w = 8 ∨ w = 9 ∨ w = 10 ∨ w = 11 ∨ w = 12 ∨ w = 13 ∨ w = 14 ∨ w = 15 ∨ w = 16 ∨ w = 17 ∨ w = 18 ∨ w = 19 ∨ w = 20 ∨ w = 21 ∨ w = 22 ∨ w = 23 ∨ w = 24 ∨ w = 25 ∨ w = 26 ∨ w = 27 ∨ w = 28 ∨ w = 29 ∨ w = 30 ∨ w = 31 by omega) with rfl | rfl | rfl | rfl | rfl | rfl | rfl | rfl | rfl | rfl | rfl | rfl | rfl | rfl | rfl | rfl | rfl | rfl | rfl | rfl | rfl | rfl | rfl | rfl | rfl | rfl | rfl | rfl | rfl | rfl | rfl | rfl
  · exact y_tsw (pc := 39) (off := 81) hC dL_law_39 120 (by decide +kernel) (by decide +kernel) (by decide +kernel) (by decide) (lwc_plant hC hX hZ hE hfl hi hkc hns hI hn hk hc hh nx)
  · exact y_tsw (pc := 39) (off := 205) hC dL_law_39 244 (by decide +kernel) (by decide +kernel) (by decide +kernel) (by decide) (lwc_sign hC hX hZ hE hfl hi hkc hns hI hn hk hc hh nx)
  · exact y_tsw (pc := 39) (off := 317) hC dL_law_39 356 (by decide +kernel) (by decide +kernel) (by decide +kernel) (by decide) (lwc_cannon hC hX hZ hE hfl hi hkc hns hI hn hk hc hh nx)
  · exact y_tsw (pc := 39) (off := 397) hC dL_law_39 436 (by decide +kernel) (by decide +kernel) (by decide +kernel) (by decide) (lwc_load hC hX hZ hE hfl hi hkc hns hI hn hk hc hh nx)
  · exact y_tsw (pc := 39) (off := 465) hC dL_law_39 504 (by decide +kernel) (by decide +kernel) (by decide +kernel) (by decide) (lwc_gather hC hX hZ hE hfl hi hkc hns hI hn hk hc hh nx)
  · exact y_tsw (pc := 39) (off := 545) hC dL_law_39 584 (by decide +kernel) (by decide +kernel) (by decide +kernel) (by decide) (lwc_setWind hC hX hZ hE hfl hi hkc hns hI hn hk hc hh nx)
  · exact y_tsw (pc := 39) (off := 613) hC dL_law_39 652 (by decide +kernel) (by decide +kernel) (by decide +kernel) (by decide) (lwc_vineyard hC hX hZ hE hfl hi hkc hns hI hn hk hc hh nx)
  · exact y_tsw (pc := 39) (off := 681) hC dL_law_39 720 (by decide +kernel) (by decide +kernel) (by decide +kernel) (by decide) (lwc_about hC hX hZ hE hfl hi hkc hns hI hn hk hc hh nx)
  · exact y_tsw (pc := 39) (off := 749) hC dL_law_39 788 (by decide +kernel) (by decide +kernel) (by decide +kernel) (by decide) (lwc_cloud hC hX hZ hE hfl hi hkc hns hI hn hk hc hh nx)
  · exact y_tsw (pc := 39) (off := 817) hC dL_law_39 856 (by decide +kernel) (by decide +kernel) (by decide +kernel) (by decide) (lwc_count hC hX hZ hE hfl hi hkc hns hI hn hk hc hh nx)
  · exact y_tsw (pc := 39) (off := 873) hC dL_law_39 912 (by decide +kernel) (by decide +kernel) (by decide +kernel) (by decide) (lwc_pass hC hX hZ hE hfl hi hkc hns hI hn hk hc hh nx)
  · exact y_tsw (pc := 39) (off := 929) hC dL_law_39 968 (by decide +kernel) (by decide +kernel) (by decide +kernel) (by decide) (lwc_hit hC hX hZ hE hfl hi hkc hns hI hn hk hc hh nx)
  · exact y_tsw (pc := 39) (off := 985) hC dL_law_39 1024 (by decide +kernel) (by decide +kernel) (by decide +kernel) (by decide) (lwc_foresee hC hX hZ hE hfl hi hkc hns hI hn hk hc hh nx)
  · exact y_tsw (pc := 39) (off := 1053) hC dL_law_39 1092 (by decide +kernel) (by decide +kernel) (by decide +kernel) (by decide) (lwc_advise hC hX hZ hE hfl hi hkc hns hI hn hk hc hh nx)
  · exact y_tsw (pc := 39) (off := 1121) hC dL_law_39 1160 (by decide +kernel) (by decide +kernel) (by decide +kernel) (by decide) (lwc_move hC hX hZ hE hfl hi hkc hns hI hn hk hc hh nx)
  · exact y_tsw (pc := 39) (off := 1189) hC dL_law_39 1228 (by decide +kernel) (by decide +kernel) (by decide +kernel) (by decide) (lwc_mean hC hX hZ hE hfl hi hkc hns hI hn hk hc hh nx)
  · exact y_tsw (pc := 39) (off := 1230) hC dL_law_39 1269 (by decide +kernel) (by decide +kernel) (by decide +kernel) (by decide) (lwc_digest hC hX hZ hE hfl hi hkc hns hI hn hk hc hh nx)
  · exact y_tsd (pc := 39) hC dL_law_39 1283 (by decide +kernel) (by decide) (nx pl vi me ins lt su la kp rg pw sh cp dr ha wd co h n nk nc t0 y0 th f kc ns hI hn hk hc (by omega) (by omega) (by omega))
  · exact y_tsd (pc := 39) hC dL_law_39 1283 (by decide +kernel) (by decide) (nx pl vi me ins lt su la kp rg pw sh cp dr ha wd co h n nk nc t0 y0 th f kc ns hI hn hk hc (by omega) (by omega) (by omega))
  · exact y_tsd (pc := 39) hC dL_law_39 1283 (by decide +kernel) (by decide) (nx pl vi me ins lt su la kp rg pw sh cp dr ha wd co h n nk nc t0 y0 th f kc ns hI hn hk hc (by omega) (by omega) (by omega))
  · exact y_tsd (pc := 39) hC dL_law_39 1283 (by decide +kernel) (by decide) (nx pl vi me ins lt su la kp rg pw sh cp dr ha wd co h n nk nc t0 y0 th f kc ns hI hn hk hc (by omega) (by omega) (by omega))
  · exact y_tsd (pc := 39) hC dL_law_39 1283 (by decide +kernel) (by decide) (nx pl vi me ins lt su la kp rg pw sh cp dr ha wd co h n nk nc t0 y0 th f kc ns hI hn hk hc (by omega) (by omega) (by omega))
  · exact y_tsd (pc := 39) hC dL_law_39 1283 (by decide +kernel) (by decide) (nx pl vi me ins lt su la kp rg pw sh cp dr ha wd co h n nk nc t0 y0 th f kc ns hI hn hk hc (by omega) (by omega) (by omega))
  · exact y_tsd (pc := 39) hC dL_law_39 1283 (by decide +kernel) (by decide) (nx pl vi me ins lt su la kp rg pw sh cp dr ha wd co h n nk nc t0 y0 th f kc ns hI hn hk hc (by omega) (by omega) (by omega))
  · exact y_tsd (pc := 39) hC dL_law_39 1283 (by decide +kernel) (by decide) (nx pl vi me ins lt su la kp rg pw sh cp dr ha wd co h n nk nc t0 y0 th f kc ns hI hn hk hc (by omega) (by omega) (by omega))
  · exact y_tsd (pc := 39) hC dL_law_39 1283 (by decide +kernel) (by decide) (nx pl vi me ins lt su la kp rg pw sh cp dr ha wd co h n nk nc t0 y0 th f kc ns hI hn hk hc (by omega) (by omega) (by omega))
  · exact y_tsd (pc := 39) hC dL_law_39 1283 (by decide +kernel) (by decide) (nx pl vi me ins lt su la kp rg pw sh cp dr ha wd co h n nk nc t0 y0 th f kc ns hI hn hk hc (by omega) (by omega) (by omega))
  · exact y_tsd (pc := 39) hC dL_law_39 1283 (by decide +kernel) (by decide) (nx pl vi me ins lt su la kp rg pw sh cp dr ha wd co h n nk nc t0 y0 th f kc ns hI hn hk hc (by omega) (by omega) (by omega))
  · exact y_tsd (pc := 39) hC dL_law_39 1283 (by decide +kernel) (by decide) (nx pl vi me ins lt su la kp rg pw sh cp dr ha wd co h n nk nc t0 y0 th f kc ns hI hn hk hc (by omega) (by omega) (by omega))
  · exact y_tsd (pc := 39) hC dL_law_39 1283 (by decide +kernel) (by decide) (nx pl vi me ins lt su la kp rg pw sh cp dr ha wd co h n nk nc t0 y0 th f kc ns hI hn hk hc (by omega) (by omega) (by omega))
  · exact y_tsd (pc := 39) hC dL_law_39 1283 (by decide +kernel) (by decide) (nx pl vi me ins lt su la kp rg pw sh cp dr ha wd co h n nk nc t0 y0 th f kc ns hI hn hk hc (by omega) (by omega) (by omega))
  · exact y_tsd (pc := 39) hC dL_law_39 1283 (by decide +kernel) (by decide) (nx pl vi me ins lt su la kp rg pw sh cp dr ha wd co h n nk nc t0 y0 th f kc ns hI hn hk hc (by omega) (by omega) (by omega))
set_option maxHeartbeats 4000000 in
set_option maxRecDepth 100000 in
theorem law_loop {d : yyD} {G : yyG} {Q : State → Prop} {au av : Nat → Nat} {x0 m0 o0 b L : Nat} {xs : Nat → Int32} (hC : yyC d G cL_law RL room_1 9 (some .boolean)) (hX : yyX G b L xs) (hZ : yyZ (gA G) (gS G) (gS G).heap) (hE : yyE (gS G)) (hfl : (gL G).stackTraces = false) (fin : ∀ (ws : va_W) (lv : List (Nat × Value)) (kc ns : Nat), kc ≤ 601024 → ns ≤ 7293034 → yyW d G kc ns Q ws lv 1289 []) : ∀ (r i : Nat) (pl vi : fI) (me ins : fB) (lt su la kp rg pw sh cp dr ha wd : fI) (co : Int32) (h n nk nc : Nat) (t0 : TS) (y0 : ZS) (th : Int32) (f : Nat → Int64) (kc ns : Nat), L < i + 5 + 5 * r → kc + 111 * r ≤ 601024 → ns + 750 * r ≤ 7293034 → h + 96 * r ≤ 90000 → i ≤ 5000 → Iv (pl, me, ins, n, kp, rg, nk, dr, nc, wd) (vi, lt, su, la, pw, sh, cp, ha, co) → n ≤ 10 → nk ≤ 6 → nc ≤ 20 → yyW d G kc ns Q [(x0, .inr (4, [.ref (au 1), .ref (au 21)])), (au 1, .inr (2, [.ref (au 2), .ref (au 10), .ref (au 15), .ref (au 20), .int (nI h), .int co])), (au 2, .inr (3, [.ref (au 3), .ref (au 4), .ref (au 5), .ref (au 6), .ref (au 7), .ref (au 8), .ref (au 9), .int (nI n)])), (au 3, aI d 10 pl), (au 4, aI d 10 vi), (au 5, aZ d 10 me), (au 6, aZ d 10 ins), (au 7, aI d 10 lt), (au 8, aI d 10 su), (au 9, aI d 10 la), (au 10, .inr (0, [.ref (au 11), .ref (au 12), .ref (au 13), .ref (au 14), .int (nI nk)])), (au 11, aI d 6 kp), (au 12, aI d 6 rg), (au 13, aI d 6 pw), (au 14, aI d 6 sh), (au 15, .inr (1, [.ref (au 16), .ref (au 17), .ref (au 18), .ref (au 19), .int (nI nc)])), (au 16, aI d 20 cp), (au 17, aI d 20 dr), (au 18, aI d 20 ha), (au 19, aZ d 20 (gnF cp)), (au 20, aI d 6 wd), (au 21, .inr (2, [.ref (au 22), .ref (au 30), .ref (au 35), .ref (au 40), .int (nI (t0.2.2.1 3)), .int t0.2.2.2])), (au 22, .inr (3, [.ref (au 23), .ref (au 24), .ref (au 25), .ref (au 26), .ref (au 27), .ref (au 28), .ref (au 29), .int (nI (t0.2.2.1 0))])), (au 23, aI d 10 (t0.1 0)), (au 24, aI d 10 (t0.1 1)), (au 25, aZ d 10 (t0.2.1 0)), (au 26, aZ d 10 (t0.2.1 1)), (au 27, aI d 10 (t0.1 2)), (au 28, aI d 10 (t0.1 3)), (au 29, aI d 10 (t0.1 4)), (au 30, .inr (0, [.ref (au 31), .ref (au 32), .ref (au 33), .ref (au 34), .int (nI (t0.2.2.1 1))])), (au 31, aI d 6 (t0.1 5)), (au 32, aI d 6 (t0.1 6)), (au 33, aI d 6 (t0.1 7)), (au 34, aI d 6 (t0.1 8)), (au 35, .inr (1, [.ref (au 36), .ref (au 37), .ref (au 38), .ref (au 39), .int (nI (t0.2.2.1 2))])), (au 36, aI d 20 (t0.1 9)), (au 37, aI d 20 (t0.1 10)), (au 38, aI d 20 (t0.1 11)), (au 39, aZ d 20 (gnF (t0.1 9))), (au 40, aI d 6 (t0.1 12)), (m0, .inr (6, [.int th, .int (nI n), .ref (av 1), .ref (av 2), .ref (av 3), .int (nI nk), .ref (av 4), .int (nI nc), .ref (av 5), .ref (av 6), .ref (av 7), .ref (av 17)])), (av 1, aI d 10 pl), (av 2, aI d 10 (biF me)), (av 3, aI d 10 (biF ins)), (av 4, aI d 6 rg), (av 5, aI d 20 dr), (av 6, aI d 6 wd), (av 7, .inr (5, [.int (nI h), .int co, .ref (av 8), .ref (av 9), .ref (av 10), .ref (av 11), .ref (av 12), .ref (av 13), .ref (av 14), .ref (av 15), .ref (av 16), .ref m0])), (av 8, aI d 10 vi), (av 9, aI d 10 lt), (av 10, aI d 10 la), (av 11, aI d 10 su), (av 12, aI d 6 kp), (av 13, aI d 6 pw), (av 14, aI d 6 sh), (av 15, aI d 20 cp), (av 16, aI d 20 ha), (av 17, .inr (5, [.int (nI (y0.2.1)), .int y0.2.2, .ref (av 18), .ref (av 19), .ref (av 20), .ref (av 21), .ref (av 22), .ref (av 23), .ref (av 24), .ref (av 25), .ref (av 26), .ref m0])), (av 18, aI d 10 (y0.1 0)), (av 19, aI d 10 (y0.1 1)), (av 20, aI d 10 (y0.1 2)), (av 21, aI d 10 (y0.1 3)), (av 22, aI d 6 (y0.1 4)), (av 23, aI d 6 (y0.1 5)), (av 24, aI d 6 (y0.1 6)), (av 25, aI d 20 (y0.1 7)), (av 26, aI d 20 (y0.1 8)), (o0, aJ d 1 f)] [(4, .int (nI i)), (0, .ref b), (1, .ref x0), (2, .ref m0), (3, .ref o0)] 23 [] := by
  intro r
  induction r with
  | zero =>
    intro i pl vi me ins lt su la kp rg pw sh cp dr ha wd co h n nk nc t0 y0 th f kc ns h1 h2 h3 h4 h5 hI hn hk hc
    refine y_iload (pc := 23) hC 0 dL_law_23 rfl ?_
    refine y_aload_n (pc := 25) hC 1 dL_law_25 rfl ?_
    refine y_slen (pc := 26) hC hX dL_law_26 ?_
    refine y_iconst (pc := 27) hC dL_law_27 5 (by decide) ?_
    refine y_isub (pc := 28) hC dL_law_28 (nI L - 5) rfl ?_
    refine y_cmp_gt (pc := 29) hC dL_law_29 1289 (by decide) (fun c => ?_) (fun c => ?_)
    · exact fin _ _ _ _ (by omega) (by omega)
    · exact absurd ((head_lt hX.2 (by omega)).mpr (by omega)) c
  | succ r ih =>
    intro i pl vi me ins lt su la kp rg pw sh cp dr ha wd co h n nk nc t0 y0 th f kc ns h1 h2 h3 h4 h5 hI hn hk hc
    refine y_iload (pc := 23) hC 0 dL_law_23 rfl ?_
    refine y_aload_n (pc := 25) hC 1 dL_law_25 rfl ?_
    refine y_slen (pc := 26) hC hX dL_law_26 ?_
    refine y_iconst (pc := 27) hC dL_law_27 5 (by decide) ?_
    refine y_isub (pc := 28) hC dL_law_28 (nI L - 5) rfl ?_
    refine y_cmp_gt (pc := 29) hC dL_law_29 1289 (by decide) (fun c => ?_) (fun c => ?_)
    · exact fin _ _ _ _ (by omega) (by omega)
    · have hi : i + 4 < L := by
        have := mt (head_lt (L := L) (i := i) hX.2 (by omega)).mpr c
        omega
      refine y_aload_n (pc := 32) hC 1 dL_law_32 rfl ?_
      refine y_iload (pc := 33) hC 0 dL_law_33 rfl ?_
      refine y_sld (pc := 35) hC hX dL_law_35 (xs i) (by omega) rfl ?_
      refine y_bipush (pc := 36) hC dL_law_36 31 (by decide) ?_
      obtain ⟨w, hw, ew⟩ := and31 (xs i)
      refine y_iand (pc := 38) hC dL_law_38 (nI w) ew ?_
      refine law_switch hC hX hZ hE hfl hi (by omega) (by omega) hI hn hk hc (by omega) ?_ w hw
      have hb0 : h + 96 + 96 * r ≤ 90000 := by omega
      have hk0 : kc + 111 + 111 * r ≤ 601024 := by omega
      have hs0 : ns + 750 + 750 * r ≤ 7293034 := by omega
      have hi0 : L < i + 5 + 5 + 5 * r := by omega
      have hL0 := hX.2
      clear h1 h2 h3 h4 ew c hI hn hk hc
      intro pl1 vi1 me1 ins1 lt1 su1 la1 kp1 rg1 pw1 sh1 cp1 dr1 ha1 wd1 co1 h1 n1 nk1 nc1 t01 y01 th1 f1 kc1 ns1 hI hn hk hc q1 q2 q3
      refine y_iinc (pc := 1283) hC 0 dL_law_1283 (nI (i + 5)) [(4, .int (nI (i + 5))), (0, .ref b), (1, .ref x0), (2, .ref m0), (3, .ref o0)] rfl (nI_add i 5) rfl (by decide) ?_
      refine y_goto (pc := 1286) hC dL_law_1286 23 (by decide) ?_
      exact ih (i + 5) pl1 vi1 me1 ins1 lt1 su1 la1 kp1 rg1 pw1 sh1 cp1 dr1 ha1 wd1 co1 h1 n1 nk1 nc1 t01 y01 th1 f1 kc1 ns1 (by omega) (by omega) (by omega) (by omega) (by omega) hI hn hk hc
