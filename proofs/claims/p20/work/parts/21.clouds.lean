-- Clouds: gone is told by the place
def isPl (x : Int32) : Bool := if x < 0 then false else if 30 ≤ x then false else true
def gn (x : Int32) : Bool := !isPl x
def gnF (cp : fI) : fB := fun k => gn (cp k)
theorem gnF_upd (cp : fI) (j : Nat) (x : Int32) : gnF (upd cp j x) = updB (gnF cp) j (gn x) := by
  funext k
  unfold gnF updB upd
  by_cases h : k = j
  · rw [if_pos h, if_pos h]
  · rw [if_neg h, if_neg h]
theorem gnF_same (cp : fI) (j : Nat) (x : Int32) (h0 : gn (cp j) = false) (hx : gn x = false) : gnF cp = gnF (upd cp j x) := by
  funext k
  unfold gnF upd
  by_cases h : k = j
  · rw [if_pos h, h, h0, hx]
  · rw [if_neg h]
def driveS (dr : fI) (w : Int32) (j : Nat) (cp : fI) : fI := cond (gnF cp j) cp (upd cp j (cp j + (dr j + w)))
def driveF (dr : fI) (w : Int32) (n : Nat) (cp : fI) : fI := yi n (driveS dr w) cp
def nearS (cp ha : fI) (p : Int32) (j : Nat) (w : Int32 × Int32) : Int32 × Int32 :=
  cond (gnF cp j) w (if ha j ≤ 0 then w else if w.2 ≤ ab (cp j - p) then w else (nI j, ab (cp j - p)))
def nearF (cp ha : fI) (p r : Int32) (n : Nat) : Int32 := (yi n (nearS cp ha p) (-1, r + 1)).1
def shotF (cp : fI) (p r : Int32) (k : Nat) (ha : fI) : fI := upd ha k (mx (ha k - (r + 1 - ab (cp k - p))) 0)
def dropS (cp pl : fI) (ny : Nat) (j : Nat) (w : fI × fI × fI × fI) : fI × fI × fI × fI :=
  cond (gnF cp j) w (if w.1 j ≤ 0 then w else (upd w.1 j (w.1 j - mn (w.1 j) 4), (takeF pl (cp j) (mn (w.1 j) 4) ny (w.2.1, w.2.2.1, w.2.2.2)).1, (takeF pl (cp j) (mn (w.1 j) 4) ny (w.2.1, w.2.2.1, w.2.2.2)).2.1, (takeF pl (cp j) (mn (w.1 j) 4) ny (w.2.1, w.2.2.1, w.2.2.2)).2.2))
def dropF (cp pl : fI) (ny n : Nat) (w : fI × fI × fI × fI) : fI × fI × fI × fI := yi n (dropS cp pl ny) w
def hvP (cp ha : fI) (k : Nat) : Bool := cond (gnF cp k) false (if ha k ≤ 0 then false else true)
def haveF (cp ha : fI) (n : Nat) : Bool := yi n (fun k b => b || hvP cp ha k) false
theorem have_hit {cp ha : fI} {n j : Nat} (hj : j < n) (h : hvP cp ha j = true) : haveF cp ha n = true := by
  induction n with
  | zero => omega
  | succ n ih =>
    show (haveF cp ha n || hvP cp ha n) = true
    by_cases e : j = n
    · rw [← e, h, Bool.or_true]
    · rw [ih (by omega), Bool.true_or]
def thereF (cp : fI) (n : Nat) : Int32 := yi n (fun k a => cond (gnF cp k) a (a + Int32.ofInt 1)) 0
def cfact (cp dr ha : fI) (j w : Nat) : Int32 := if w = 0 then cp j else if w = 1 then dr j else if w = 2 then ha j else bI (gnF cp j)
set_option maxHeartbeats 4000000 in
set_option maxRecDepth 100000 in
theorem c_X4_isPlace (l : Launch) (d : yyD) (x : Int32)  : yyI l yX4_isPlace cX4_isPlace 1 (some .boolean) { frames := 0, cells := 0, slots := 0, locals := 0 } d [.int x] [] [] (bI (isPl x)) := by
  refine yyI_of (own := RX4) [(0, .int x)] (by decide +kernel) rfl (Nat.le_of_ble_eq_true rfl) rfl ?_
  intro G Q hQ hGL hC hGA
  refine y_iload_n (pc := 0) hC 0 dX4_isPlace_0 rfl ?_
  refine y_if_lt (pc := 1) hC dX4_isPlace_1 14 (by decide) (fun c_1 => ?_) (fun c_1 => ?_)
  · refine y_iconst (pc := 14) hC dX4_isPlace_14 0 (by decide) ?_
    exact y_iret hC hQ rfl rfl (by simp [bI, isPl, c_1]) (nb rfl) (nb rfl) dX4_isPlace_15
  · refine y_iload_n (pc := 4) hC 0 dX4_isPlace_4 rfl ?_
    refine y_bipush (pc := 5) hC dX4_isPlace_5 30 (by decide) ?_
    refine y_cmp_ge (pc := 7) hC dX4_isPlace_7 14 (by decide) (fun c_2 => ?_) (fun c_2 => ?_)
    · refine y_iconst (pc := 14) hC dX4_isPlace_14 0 (by decide) ?_
      exact y_iret hC hQ rfl rfl (by simp [bI, isPl, c_1, c_2]) (nb rfl) (nb rfl) dX4_isPlace_15
    · refine y_iconst (pc := 10) hC dX4_isPlace_10 1 (by decide) ?_
      refine y_goto (pc := 11) hC dX4_isPlace_11 15 (by decide) ?_
      exact y_iret hC hQ rfl rfl (by simp [bI, isPl, c_1, c_2]) (nb rfl) (nb rfl) dX4_isPlace_15
theorem n_X4_isPlace : yyN yX4_isPlace RX4 1 := by refine ⟨rfl, ?_, ?_, ?_⟩ <;> decide +kernel
set_option maxHeartbeats 4000000 in
set_option maxRecDepth 100000 in
theorem c_X1_drive (l : Launch) (d : yyD) (e0 : Nat) (e1 : Nat) (e2 : Nat) (e3 : Nat) (e4 : Nat) (cp : fI) (dr : fI) (nc : Nat) (w : Int32) (hc : nc ≤ 20) : yyV (S := Unit) l yX1_drive cX1_drive 3 { frames := 1, cells := 0, slots := 0, locals := 20 } d [.ref e0, .int w] [(e0, .inr (1, [.ref e1, .ref e2, .ref e3, .ref e4, .int (nI nc)])), (e1, aI d 20 cp), (e2, aI d 20 dr), (e4, aZ d 20 (gnF cp))] (fun _ => True) (fun _ => [(e0, .inr (1, [.ref e1, .ref e2, .ref e3, .ref e4, .int (nI nc)])), (e1, aI d 20 (driveF dr w nc cp)), (e2, aI d 20 dr), (e4, aZ d 20 (gnF (driveF dr w nc cp)))]) := by
  refine yyV_of (own := RX1) [(0, .ref e0), (1, .int w)] (by decide +kernel) rfl (Nat.le_of_ble_eq_true rfl) rfl ?_
  intro G Q hQ hGL hC hGA hin
  refine y_iconst (pc := 0) hC dX1_drive_0 0 (by decide) ?_
  refine y_istore_n (pc := 1) hC dX1_drive_1 [(2, .int 0), (0, .ref e0), (1, .int w)] rfl (by decide) ?_
  have lpj1 : ∀ r1 j1 : Nat, j1 + r1 = nc → yyW d G 0 0 Q [(e0, .inr (1, [.ref e1, .ref e2, .ref e3, .ref e4, .int (nI nc)])), (e1, aI d 20 (yi j1 (driveS dr w) cp)), (e2, aI d 20 dr), (e4, aZ d 20 (gnF (yi j1 (driveS dr w) cp)))] [(2, .int (nI j1)), (0, .ref e0), (1, .int w)] 2 [] := by
    intro r1
    induction r1 with
    | zero =>
      intro j1 hj1
      have ej1 : j1 = nc := by omega
      rw [ej1]
      refine y_iload_n (pc := 2) hC 0 dX1_drive_2 rfl ?_
      refine y_aload_n (pc := 3) hC 1 dX1_drive_3 rfl ?_
      refine y_get (pc := 4) hC 0 4 dX1_drive_4 rfl rfl inX1 (by decide) kw_1_98 rfl rfl ?_
      refine y_ge_t (pc := 7) (a := nc) (b := nc) hC dX1_drive_7 65 (by decide) (by omega) (by omega) ?_
      exact y_vret (()) hC hQ (trivial) rfl (nb rfl) (nb rfl) dX1_drive_65
    | succ r1 ihj1 =>
      intro j1 hj1
      have lj1 : j1 < nc := by omega
      refine y_iload_n (pc := 2) hC 0 dX1_drive_2 rfl ?_
      refine y_aload_n (pc := 3) hC 1 dX1_drive_3 rfl ?_
      refine y_get (pc := 4) hC 0 4 dX1_drive_4 rfl rfl inX1 (by decide) kw_1_98 rfl rfl ?_
      refine y_ge_f (pc := 7) (a := j1) (b := nc) hC dX1_drive_7 65 (by decide) (by omega) (by omega) ?_
      refine y_aload_n (pc := 10) hC 1 dX1_drive_10 rfl ?_
      refine y_get (pc := 11) hC 0 3 dX1_drive_11 rfl rfl inX1 (by decide) kw_1_97 rfl rfl ?_
      refine y_iload_n (pc := 14) hC 0 dX1_drive_14 rfl ?_
      refine y_zald (pc := 15) hC 3 (j := j1) dX1_drive_15 (bI ((gnF (yi j1 (driveS dr w) cp)) j1)) rfl (by omega) rfl rfl ?_
      refine y_bne (pc := 16) hC dX1_drive_16 59 (by decide) (fun c_2 => ?_) (fun c_2 => ?_)
      · refine y_iinc (pc := 59) hC 0 dX1_drive_59 (nI (j1 + 1)) [(2, .int (nI (j1 + 1))), (0, .ref e0), (1, .int w)] rfl (nI_inc _) rfl (by decide) ?_
        refine y_goto (pc := 62) hC dX1_drive_62 2 (by decide) ?_
        refine y_ws [(e0, .inr (1, [.ref e1, .ref e2, .ref e3, .ref e4, .int (nI nc)])), (e1, aI d 20 (yi (j1 + 1) (driveS dr w) cp)), (e2, aI d 20 dr), (e4, aZ d 20 (gnF (yi (j1 + 1) (driveS dr w) cp)))] (by simp only [yi, driveS, c_2, gnF_upd, gn, ↓reduceIte, cond_true, cond_false, Bool.not_true, Bool.not_false]) ?_
        exact ihj1 (j1 + 1) (by omega)
      · refine y_aload_n (pc := 19) hC 1 dX1_drive_19 rfl ?_
        refine y_get (pc := 20) hC 0 0 dX1_drive_20 rfl rfl inX1 (by decide) kw_1_94 rfl rfl ?_
        refine y_iload_n (pc := 23) hC 0 dX1_drive_23 rfl ?_
        refine y_dup2 (pc := 24) hC dX1_drive_24 rfl rfl ?_
        refine y_iald (pc := 25) hC 1 (j := j1) dX1_drive_25 ((yi j1 (driveS dr w) cp) j1) rfl (by omega) rfl rfl ?_
        refine y_aload_n (pc := 26) hC 1 dX1_drive_26 rfl ?_
        refine y_get (pc := 27) hC 0 1 dX1_drive_27 rfl rfl inX1 (by decide) kw_1_95 rfl rfl ?_
        refine y_iload_n (pc := 30) hC 0 dX1_drive_30 rfl ?_
        refine y_iald (pc := 31) hC 2 (j := j1) dX1_drive_31 (dr j1) rfl (by omega) rfl rfl ?_
        refine y_iload_n (pc := 32) hC 2 dX1_drive_32 rfl ?_
        refine y_iadd (pc := 33) hC dX1_drive_33 ((dr j1) + w) rfl ?_
        refine y_iadd (pc := 34) hC dX1_drive_34 (((yi j1 (driveS dr w) cp) j1) + ((dr j1) + w)) rfl ?_
        refine y_iast (pc := 35) hC 1 (j := j1) dX1_drive_35 (upd (yi j1 (driveS dr w) cp) j1 (((yi j1 (driveS dr w) cp) j1) + ((dr j1) + w))) [(e0, .inr (1, [.ref e1, .ref e2, .ref e3, .ref e4, .int (nI nc)])), (e1, aI d 20 (upd (yi j1 (driveS dr w) cp) j1 (((yi j1 (driveS dr w) cp) j1) + ((dr j1) + w)))), (e2, aI d 20 dr), (e4, aZ d 20 (gnF (yi j1 (driveS dr w) cp)))] rfl (by omega) rfl rfl rfl ?_
        refine y_aload_n (pc := 36) hC 1 dX1_drive_36 rfl ?_
        refine y_get (pc := 37) hC 0 3 dX1_drive_37 rfl rfl inX1 (by decide) kw_1_97 rfl rfl ?_
        refine y_iload_n (pc := 40) hC 0 dX1_drive_40 rfl ?_
        refine y_aload_n (pc := 41) hC 1 dX1_drive_41 rfl ?_
        refine y_get (pc := 42) hC 0 0 dX1_drive_42 rfl rfl inX1 (by decide) kw_1_94 rfl rfl ?_
        refine y_iload_n (pc := 45) hC 0 dX1_drive_45 rfl ?_
        refine y_iald (pc := 46) hC 1 (j := j1) dX1_drive_46 (((yi j1 (driveS dr w) cp) j1) + ((dr j1) + w)) rfl (by omega) rfl pk_us ?_
        refine y_snI (pc := 47) (As := [.int (((yi j1 (driveS dr w) cp) j1) + ((dr j1) + w))]) (st := [.int (nI j1), .ref e4]) hC (c_X4_isPlace (gL G) d (((yi j1 (driveS dr w) cp) j1) + ((dr j1) + w))) kw_2_87 kn_0 kw_2_86 kw_1_1 n_X4_isPlace ⟨⟨nb rfl, nb rfl⟩, ⟨nb rfl, nb rfl⟩, nb rfl⟩ [] [0, 1, 2, 3] [0, 1, 2, 3] [(e0, .inr (1, [.ref e1, .ref e2, .ref e3, .ref e4, .int (nI nc)])), (e1, aI d 20 (upd (yi j1 (driveS dr w) cp) j1 (((yi j1 (driveS dr w) cp) j1) + ((dr j1) + w)))), (e2, aI d 20 dr), (e4, aZ d 20 (gnF (yi j1 (driveS dr w) cp)))] [(e0, .inr (1, [.ref e1, .ref e2, .ref e3, .ref e4, .int (nI nc)])), (e1, aI d 20 (upd (yi j1 (driveS dr w) cp) j1 (((yi j1 (driveS dr w) cp) j1) + ((dr j1) + w)))), (e2, aI d 20 dr), (e4, aZ d 20 (gnF (yi j1 (driveS dr w) cp)))] ⟨rfl, by decide, rfl, by decide, by decide⟩ ⟨rfl, by decide⟩ rfl dX1_drive_47 ?_
        refine y_bne (pc := 50) hC dX1_drive_50 57 (by decide) (fun c_3 => ?_) (fun c_3 => ?_)
        · refine y_iconst (pc := 57) hC dX1_drive_57 0 (by decide) ?_
          refine y_zast (pc := 58) hC 3 (j := j1) dX1_drive_58 false (updB (gnF (yi j1 (driveS dr w) cp)) j1 false) [(e0, .inr (1, [.ref e1, .ref e2, .ref e3, .ref e4, .int (nI nc)])), (e1, aI d 20 (upd (yi j1 (driveS dr w) cp) j1 (((yi j1 (driveS dr w) cp) j1) + ((dr j1) + w)))), (e2, aI d 20 dr), (e4, aZ d 20 (updB (gnF (yi j1 (driveS dr w) cp)) j1 false))] rfl (by omega) rfl rfl rfl ?_
          refine y_iinc (pc := 59) hC 0 dX1_drive_59 (nI (j1 + 1)) [(2, .int (nI (j1 + 1))), (0, .ref e0), (1, .int w)] rfl (nI_inc _) rfl (by decide) ?_
          refine y_goto (pc := 62) hC dX1_drive_62 2 (by decide) ?_
          refine y_ws [(e0, .inr (1, [.ref e1, .ref e2, .ref e3, .ref e4, .int (nI nc)])), (e1, aI d 20 (yi (j1 + 1) (driveS dr w) cp)), (e2, aI d 20 dr), (e4, aZ d 20 (gnF (yi (j1 + 1) (driveS dr w) cp)))] (by simp only [yi, driveS, c_2, c_3, gnF_upd, gn, ↓reduceIte, cond_true, cond_false, Bool.not_true, Bool.not_false]) ?_
          exact ihj1 (j1 + 1) (by omega)
        · refine y_iconst (pc := 53) hC dX1_drive_53 1 (by decide) ?_
          refine y_goto (pc := 54) hC dX1_drive_54 58 (by decide) ?_
          refine y_zast (pc := 58) hC 3 (j := j1) dX1_drive_58 true (updB (gnF (yi j1 (driveS dr w) cp)) j1 true) [(e0, .inr (1, [.ref e1, .ref e2, .ref e3, .ref e4, .int (nI nc)])), (e1, aI d 20 (upd (yi j1 (driveS dr w) cp) j1 (((yi j1 (driveS dr w) cp) j1) + ((dr j1) + w)))), (e2, aI d 20 dr), (e4, aZ d 20 (updB (gnF (yi j1 (driveS dr w) cp)) j1 true))] rfl (by omega) rfl rfl rfl ?_
          refine y_iinc (pc := 59) hC 0 dX1_drive_59 (nI (j1 + 1)) [(2, .int (nI (j1 + 1))), (0, .ref e0), (1, .int w)] rfl (nI_inc _) rfl (by decide) ?_
          refine y_goto (pc := 62) hC dX1_drive_62 2 (by decide) ?_
          refine y_ws [(e0, .inr (1, [.ref e1, .ref e2, .ref e3, .ref e4, .int (nI nc)])), (e1, aI d 20 (yi (j1 + 1) (driveS dr w) cp)), (e2, aI d 20 dr), (e4, aZ d 20 (gnF (yi (j1 + 1) (driveS dr w) cp)))] (by simp only [yi, driveS, c_2, c_3, gnF_upd, gn, ↓reduceIte, cond_true, cond_false, Bool.not_true, Bool.not_false]) ?_
          exact ihj1 (j1 + 1) (by omega)
  refine y_lv [(2, .int 0), (0, .ref e0), (1, .int w)] [0, 1, 2] rfl ?_
  exact lpj1 nc 0 (by omega)
theorem n_X1_drive : yyN yX1_drive RX1 1 := by refine ⟨rfl, ?_, ?_, ?_⟩ <;> decide +kernel
set_option maxHeartbeats 4000000 in
set_option maxRecDepth 100000 in
theorem c_X1_nearest (l : Launch) (d : yyD) (e0 : Nat) (e1 : Nat) (e2 : Nat) (e3 : Nat) (e4 : Nat) (cp : fI) (ha : fI) (nc : Nat) (p : Int32) (r : Int32) (hc : nc ≤ 20) : yyI l yX1_nearest cX1_nearest 7 (some .int) { frames := 1, cells := 0, slots := 0, locals := 13 } d [.ref e0, .int p, .int r] [(e0, .inr (1, [.ref e1, .ref e2, .ref e3, .ref e4, .int (nI nc)])), (e1, aI d 20 cp), (e3, aI d 20 ha), (e4, aZ d 20 (gnF cp))] [(e0, .inr (1, [.ref e1, .ref e2, .ref e3, .ref e4, .int (nI nc)])), (e1, aI d 20 cp), (e3, aI d 20 ha), (e4, aZ d 20 (gnF cp))] (nearF cp ha p r nc) := by
  refine yyI_of (own := RX1) [(0, .ref e0), (1, .int p), (2, .int r)] (by decide +kernel) rfl (Nat.le_of_ble_eq_true rfl) rfl ?_
  intro G Q hQ hGL hC hGA
  refine y_iconst (pc := 0) hC dX1_nearest_0 (-1) (by decide) ?_
  refine y_istore_n (pc := 1) hC dX1_nearest_1 [(3, .int (-1)), (0, .ref e0), (1, .int p), (2, .int r)] rfl (by decide) ?_
  refine y_iload_n (pc := 2) hC 3 dX1_nearest_2 rfl ?_
  refine y_iconst (pc := 3) hC dX1_nearest_3 1 (by decide) ?_
  refine y_iadd (pc := 4) hC dX1_nearest_4 (r + 1) rfl ?_
  refine y_istore (pc := 5) hC dX1_nearest_5 [(4, .int (r + 1)), (3, .int (-1)), (0, .ref e0), (1, .int p), (2, .int r)] rfl (by decide) ?_
  refine y_iconst (pc := 7) hC dX1_nearest_7 0 (by decide) ?_
  refine y_istore (pc := 8) hC dX1_nearest_8 [(5, .int 0), (4, .int (r + 1)), (3, .int (-1)), (0, .ref e0), (1, .int p), (2, .int r)] rfl (by decide) ?_
  have lpj1 : ∀ r1 j1 : Nat, j1 + r1 = nc → yyW d G 0 0 Q [(e0, .inr (1, [.ref e1, .ref e2, .ref e3, .ref e4, .int (nI nc)])), (e1, aI d 20 cp), (e3, aI d 20 ha), (e4, aZ d 20 (gnF cp))] [(5, .int (nI j1)), (4, .int ((yi j1 (nearS cp ha p) (-1, r + 1)).2)), (3, .int ((yi j1 (nearS cp ha p) (-1, r + 1)).1)), (0, .ref e0), (1, .int p), (2, .int r)] 10 [] := by
    intro r1
    induction r1 with
    | zero =>
      intro j1 hj1
      have ej1 : j1 = nc := by omega
      rw [ej1]
      refine y_iload (pc := 10) hC 0 dX1_nearest_10 rfl ?_
      refine y_aload_n (pc := 12) hC 3 dX1_nearest_12 rfl ?_
      refine y_get (pc := 13) hC 0 4 dX1_nearest_13 rfl rfl inX1 (by decide) kw_1_98 rfl rfl ?_
      refine y_ge_t (pc := 16) (a := nc) (b := nc) hC dX1_nearest_16 73 (by decide) (by omega) (by omega) ?_
      refine y_iload_n (pc := 73) hC 2 dX1_nearest_73 rfl ?_
      exact y_iret hC hQ rfl rfl rfl (nb rfl) (nb rfl) dX1_nearest_74
    | succ r1 ihj1 =>
      intro j1 hj1
      have lj1 : j1 < nc := by omega
      refine y_iload (pc := 10) hC 0 dX1_nearest_10 rfl ?_
      refine y_aload_n (pc := 12) hC 3 dX1_nearest_12 rfl ?_
      refine y_get (pc := 13) hC 0 4 dX1_nearest_13 rfl rfl inX1 (by decide) kw_1_98 rfl rfl ?_
      refine y_ge_f (pc := 16) (a := j1) (b := nc) hC dX1_nearest_16 73 (by decide) (by omega) (by omega) ?_
      refine y_aload_n (pc := 19) hC 3 dX1_nearest_19 rfl ?_
      refine y_get (pc := 20) hC 0 0 dX1_nearest_20 rfl rfl inX1 (by decide) kw_1_94 rfl rfl ?_
      refine y_iload (pc := 23) hC 0 dX1_nearest_23 rfl ?_
      refine y_iald (pc := 25) hC 1 (j := j1) dX1_nearest_25 (cp j1) rfl (by omega) rfl rfl ?_
      refine y_iload_n (pc := 26) hC 4 dX1_nearest_26 rfl ?_
      refine y_isub (pc := 27) hC dX1_nearest_27 ((cp j1) - p) rfl ?_
      refine y_abs (pc := 28) hC dX1_nearest_28 kw_1_232 kw_1_233 kw_1_13 kw_1_234 ⟨nb rfl, nb rfl, nb rfl, nb rfl⟩ ?_
      refine y_istore (pc := 31) hC dX1_nearest_31 [(6, .int (ab ((cp j1) - p))), (5, .int (nI j1)), (4, .int ((yi j1 (nearS cp ha p) (-1, r + 1)).2)), (3, .int ((yi j1 (nearS cp ha p) (-1, r + 1)).1)), (0, .ref e0), (1, .int p), (2, .int r)] rfl (by decide) ?_
      refine y_aload_n (pc := 33) hC 4 dX1_nearest_33 rfl ?_
      refine y_get (pc := 34) hC 0 3 dX1_nearest_34 rfl rfl inX1 (by decide) kw_1_97 rfl rfl ?_
      refine y_iload (pc := 37) hC 1 dX1_nearest_37 rfl ?_
      refine y_zald (pc := 39) hC 3 (j := j1) dX1_nearest_39 (bI ((gnF cp) j1)) rfl (by omega) rfl rfl ?_
      refine y_bne (pc := 40) hC dX1_nearest_40 67 (by decide) (fun c_2 => ?_) (fun c_2 => ?_)
      · refine y_iinc (pc := 67) hC 1 dX1_nearest_67 (nI (j1 + 1)) [(5, .int (nI (j1 + 1))), (6, .int (ab ((cp j1) - p))), (4, .int ((yi j1 (nearS cp ha p) (-1, r + 1)).2)), (3, .int ((yi j1 (nearS cp ha p) (-1, r + 1)).1)), (0, .ref e0), (1, .int p), (2, .int r)] rfl (nI_inc _) rfl (by decide) ?_
        refine y_goto (pc := 70) hC dX1_nearest_70 10 (by decide) ?_
        refine y_lv [(5, .int (nI (j1 + 1))), (4, .int ((yi j1 (nearS cp ha p) (-1, r + 1)).2)), (3, .int ((yi j1 (nearS cp ha p) (-1, r + 1)).1)), (0, .ref e0), (1, .int p), (2, .int r)] [0, 2, 3, 4, 5, 6] rfl ?_
        refine y_ws [(e0, .inr (1, [.ref e1, .ref e2, .ref e3, .ref e4, .int (nI nc)])), (e1, aI d 20 cp), (e3, aI d 20 ha), (e4, aZ d 20 (gnF cp))] rfl ?_
        refine y_lve [(5, .int (nI (j1 + 1))), (4, .int ((yi (j1 + 1) (nearS cp ha p) (-1, r + 1)).2)), (3, .int ((yi (j1 + 1) (nearS cp ha p) (-1, r + 1)).1)), (0, .ref e0), (1, .int p), (2, .int r)] (by simp only [yi, nearS, c_2, ↓reduceIte, cond_true, cond_false]) ?_
        exact ihj1 (j1 + 1) (by omega)
      · refine y_aload_n (pc := 43) hC 4 dX1_nearest_43 rfl ?_
        refine y_get (pc := 44) hC 0 2 dX1_nearest_44 rfl rfl inX1 (by decide) kw_1_96 rfl rfl ?_
        refine y_iload (pc := 47) hC 1 dX1_nearest_47 rfl ?_
        refine y_iald (pc := 49) hC 2 (j := j1) dX1_nearest_49 (ha j1) rfl (by omega) rfl rfl ?_
        refine y_if_le (pc := 50) hC dX1_nearest_50 67 (by decide) (fun c_3 => ?_) (fun c_3 => ?_)
        · refine y_iinc (pc := 67) hC 1 dX1_nearest_67 (nI (j1 + 1)) [(5, .int (nI (j1 + 1))), (6, .int (ab ((cp j1) - p))), (4, .int ((yi j1 (nearS cp ha p) (-1, r + 1)).2)), (3, .int ((yi j1 (nearS cp ha p) (-1, r + 1)).1)), (0, .ref e0), (1, .int p), (2, .int r)] rfl (nI_inc _) rfl (by decide) ?_
          refine y_goto (pc := 70) hC dX1_nearest_70 10 (by decide) ?_
          refine y_lv [(5, .int (nI (j1 + 1))), (4, .int ((yi j1 (nearS cp ha p) (-1, r + 1)).2)), (3, .int ((yi j1 (nearS cp ha p) (-1, r + 1)).1)), (0, .ref e0), (1, .int p), (2, .int r)] [0, 2, 3, 4, 5, 6] rfl ?_
          refine y_ws [(e0, .inr (1, [.ref e1, .ref e2, .ref e3, .ref e4, .int (nI nc)])), (e1, aI d 20 cp), (e3, aI d 20 ha), (e4, aZ d 20 (gnF cp))] rfl ?_
          refine y_lve [(5, .int (nI (j1 + 1))), (4, .int ((yi (j1 + 1) (nearS cp ha p) (-1, r + 1)).2)), (3, .int ((yi (j1 + 1) (nearS cp ha p) (-1, r + 1)).1)), (0, .ref e0), (1, .int p), (2, .int r)] (by simp only [yi, nearS, c_2, c_3, ↓reduceIte, cond_true, cond_false]) ?_
          exact ihj1 (j1 + 1) (by omega)
        · refine y_iload (pc := 53) hC 0 dX1_nearest_53 rfl ?_
          refine y_iload (pc := 55) hC 2 dX1_nearest_55 rfl ?_
          refine y_cmp_ge (pc := 57) hC dX1_nearest_57 67 (by decide) (fun c_4 => ?_) (fun c_4 => ?_)
          · refine y_iinc (pc := 67) hC 1 dX1_nearest_67 (nI (j1 + 1)) [(5, .int (nI (j1 + 1))), (6, .int (ab ((cp j1) - p))), (4, .int ((yi j1 (nearS cp ha p) (-1, r + 1)).2)), (3, .int ((yi j1 (nearS cp ha p) (-1, r + 1)).1)), (0, .ref e0), (1, .int p), (2, .int r)] rfl (nI_inc _) rfl (by decide) ?_
            refine y_goto (pc := 70) hC dX1_nearest_70 10 (by decide) ?_
            refine y_lv [(5, .int (nI (j1 + 1))), (4, .int ((yi j1 (nearS cp ha p) (-1, r + 1)).2)), (3, .int ((yi j1 (nearS cp ha p) (-1, r + 1)).1)), (0, .ref e0), (1, .int p), (2, .int r)] [0, 2, 3, 4, 5, 6] rfl ?_
            refine y_ws [(e0, .inr (1, [.ref e1, .ref e2, .ref e3, .ref e4, .int (nI nc)])), (e1, aI d 20 cp), (e3, aI d 20 ha), (e4, aZ d 20 (gnF cp))] rfl ?_
            refine y_lve [(5, .int (nI (j1 + 1))), (4, .int ((yi (j1 + 1) (nearS cp ha p) (-1, r + 1)).2)), (3, .int ((yi (j1 + 1) (nearS cp ha p) (-1, r + 1)).1)), (0, .ref e0), (1, .int p), (2, .int r)] (by simp only [yi, nearS, c_2, c_3, c_4, ↓reduceIte, cond_true, cond_false]) ?_
            exact ihj1 (j1 + 1) (by omega)
          · refine y_iload (pc := 60) hC 1 dX1_nearest_60 rfl ?_
            refine y_istore_n (pc := 62) hC dX1_nearest_62 [(3, .int (nI j1)), (6, .int (ab ((cp j1) - p))), (5, .int (nI j1)), (4, .int ((yi j1 (nearS cp ha p) (-1, r + 1)).2)), (0, .ref e0), (1, .int p), (2, .int r)] rfl (by decide) ?_
            refine y_iload (pc := 63) hC 1 dX1_nearest_63 rfl ?_
            refine y_istore (pc := 65) hC dX1_nearest_65 [(4, .int (ab ((cp j1) - p))), (3, .int (nI j1)), (6, .int (ab ((cp j1) - p))), (5, .int (nI j1)), (0, .ref e0), (1, .int p), (2, .int r)] rfl (by decide) ?_
            refine y_iinc (pc := 67) hC 3 dX1_nearest_67 (nI (j1 + 1)) [(5, .int (nI (j1 + 1))), (4, .int (ab ((cp j1) - p))), (3, .int (nI j1)), (6, .int (ab ((cp j1) - p))), (0, .ref e0), (1, .int p), (2, .int r)] rfl (nI_inc _) rfl (by decide) ?_
            refine y_goto (pc := 70) hC dX1_nearest_70 10 (by decide) ?_
            refine y_lv [(5, .int (nI (j1 + 1))), (4, .int (ab ((cp j1) - p))), (3, .int (nI j1)), (0, .ref e0), (1, .int p), (2, .int r)] [0, 1, 2, 4, 5, 6] rfl ?_
            refine y_ws [(e0, .inr (1, [.ref e1, .ref e2, .ref e3, .ref e4, .int (nI nc)])), (e1, aI d 20 cp), (e3, aI d 20 ha), (e4, aZ d 20 (gnF cp))] rfl ?_
            refine y_lve [(5, .int (nI (j1 + 1))), (4, .int ((yi (j1 + 1) (nearS cp ha p) (-1, r + 1)).2)), (3, .int ((yi (j1 + 1) (nearS cp ha p) (-1, r + 1)).1)), (0, .ref e0), (1, .int p), (2, .int r)] (by simp only [yi, nearS, c_2, c_3, c_4, ↓reduceIte, cond_true, cond_false]) ?_
            exact ihj1 (j1 + 1) (by omega)
  refine y_lv [(5, .int 0), (4, .int (r + 1)), (3, .int (-1)), (0, .ref e0), (1, .int p), (2, .int r)] [0, 1, 2, 3, 4, 5] rfl ?_
  exact lpj1 nc 0 (by omega)
theorem n_X1_nearest : yyN yX1_nearest RX1 2 := by refine ⟨rfl, ?_, ?_, ?_⟩ <;> decide +kernel
set_option maxHeartbeats 4000000 in
set_option maxRecDepth 100000 in
theorem c_X1_takeShot (l : Launch) (d : yyD) (e0 : Nat) (e1 : Nat) (e2 : Nat) (e3 : Nat) (e4 : Nat) (cp : fI) (ha : fI) (nc : Nat) (k : Nat) (p : Int32) (r : Int32) (hc : nc ≤ 20) (hk : k < nc) : yyV (S := Unit) l yX1_takeShot cX1_takeShot 5 { frames := 1, cells := 0, slots := 0, locals := 15 } d [.ref e0, .int (nI k), .int p, .int r] [(e0, .inr (1, [.ref e1, .ref e2, .ref e3, .ref e4, .int (nI nc)])), (e1, aI d 20 cp), (e3, aI d 20 ha)] (fun _ => True) (fun _ => [(e0, .inr (1, [.ref e1, .ref e2, .ref e3, .ref e4, .int (nI nc)])), (e1, aI d 20 cp), (e3, aI d 20 (shotF cp p r k ha))]) := by
  refine yyV_of (own := RX1) [(0, .ref e0), (1, .int (nI k)), (2, .int p), (3, .int r)] (by decide +kernel) rfl (Nat.le_of_ble_eq_true rfl) rfl ?_
  intro G Q hQ hGL hC hGA hin
  refine y_aload_n (pc := 0) hC 0 dX1_takeShot_0 rfl ?_
  refine y_get (pc := 1) hC 0 0 dX1_takeShot_1 rfl rfl inX1 (by decide) kw_1_94 rfl rfl ?_
  refine y_iload_n (pc := 4) hC 1 dX1_takeShot_4 rfl ?_
  refine y_iald (pc := 5) hC 1 (j := k) dX1_takeShot_5 (cp k) rfl (by omega) rfl rfl ?_
  refine y_iload_n (pc := 6) hC 2 dX1_takeShot_6 rfl ?_
  refine y_isub (pc := 7) hC dX1_takeShot_7 ((cp k) - p) rfl ?_
  refine y_abs (pc := 8) hC dX1_takeShot_8 kw_1_232 kw_1_233 kw_1_13 kw_1_234 ⟨nb rfl, nb rfl, nb rfl, nb rfl⟩ ?_
  refine y_istore (pc := 11) hC dX1_takeShot_11 [(4, .int (ab ((cp k) - p))), (0, .ref e0), (1, .int (nI k)), (2, .int p), (3, .int r)] rfl (by decide) ?_
  refine y_aload_n (pc := 13) hC 1 dX1_takeShot_13 rfl ?_
  refine y_get (pc := 14) hC 0 2 dX1_takeShot_14 rfl rfl inX1 (by decide) kw_1_96 rfl rfl ?_
  refine y_iload_n (pc := 17) hC 2 dX1_takeShot_17 rfl ?_
  refine y_aload_n (pc := 18) hC 1 dX1_takeShot_18 rfl ?_
  refine y_get (pc := 19) hC 0 2 dX1_takeShot_19 rfl rfl inX1 (by decide) kw_1_96 rfl rfl ?_
  refine y_iload_n (pc := 22) hC 2 dX1_takeShot_22 rfl ?_
  refine y_iald (pc := 23) hC 2 (j := k) dX1_takeShot_23 (ha k) rfl (by omega) rfl rfl ?_
  refine y_iload_n (pc := 24) hC 4 dX1_takeShot_24 rfl ?_
  refine y_iconst (pc := 25) hC dX1_takeShot_25 1 (by decide) ?_
  refine y_iadd (pc := 26) hC dX1_takeShot_26 (r + 1) rfl ?_
  refine y_iload (pc := 27) hC 0 dX1_takeShot_27 rfl ?_
  refine y_isub (pc := 29) hC dX1_takeShot_29 ((r + 1) - (ab ((cp k) - p))) rfl ?_
  refine y_isub (pc := 30) hC dX1_takeShot_30 ((ha k) - ((r + 1) - (ab ((cp k) - p)))) rfl ?_
  refine y_iconst (pc := 31) hC dX1_takeShot_31 0 (by decide) ?_
  refine y_max (pc := 32) hC dX1_takeShot_32 kw_2_96 kw_2_97 kw_1_13 kw_2_98 ⟨nb rfl, nb rfl, nb rfl, nb rfl⟩ ?_
  refine y_iast (pc := 35) hC 2 (j := k) dX1_takeShot_35 (upd ha k (mx ((ha k) - ((r + 1) - (ab ((cp k) - p)))) 0)) [(e0, .inr (1, [.ref e1, .ref e2, .ref e3, .ref e4, .int (nI nc)])), (e1, aI d 20 cp), (e3, aI d 20 (upd ha k (mx ((ha k) - ((r + 1) - (ab ((cp k) - p)))) 0)))] rfl (by omega) rfl rfl rfl ?_
  exact y_vret (()) hC hQ (trivial) rfl (nb rfl) (nb rfl) dX1_takeShot_36
theorem n_X1_takeShot : yyN yX1_takeShot RX1 3 := by refine ⟨rfl, ?_, ?_, ?_⟩ <;> decide +kernel
set_option maxHeartbeats 4000000 in
set_option maxRecDepth 100000 in
theorem c_X1_dropUpon (l : Launch) (d : yyD) (e0 : Nat) (e1 : Nat) (e2 : Nat) (e3 : Nat) (e4 : Nat) (a0 : Nat) (a1 : Nat) (a2 : Nat) (a3 : Nat) (a4 : Nat) (a5 : Nat) (a6 : Nat) (a7 : Nat) (cp : fI) (ha : fI) (nc : Nat) (pl : fI) (vi : fI) (lt : fI) (la : fI) (n : Nat) (hc : nc ≤ 20) (hn : n ≤ 10) : yyV (S := Unit) l yX1_dropUpon cX1_dropUpon 4 { frames := 2, cells := 0, slots := 0, locals := 37 } d [.ref e0, .ref a0] [(e0, .inr (1, [.ref e1, .ref e2, .ref e3, .ref e4, .int (nI nc)])), (e1, aI d 20 cp), (e3, aI d 20 ha), (e4, aZ d 20 (gnF cp)), (a0, .inr (3, [.ref a1, .ref a2, .ref a3, .ref a4, .ref a5, .ref a6, .ref a7, .int (nI n)])), (a1, aI d 10 pl), (a2, aI d 10 vi), (a5, aI d 10 lt), (a7, aI d 10 la)] (fun _ => True) (fun _ => [(e0, .inr (1, [.ref e1, .ref e2, .ref e3, .ref e4, .int (nI nc)])), (e1, aI d 20 cp), (e3, aI d 20 ((dropF cp pl n nc (ha, vi, lt, la)).1)), (e4, aZ d 20 (gnF cp)), (a0, .inr (3, [.ref a1, .ref a2, .ref a3, .ref a4, .ref a5, .ref a6, .ref a7, .int (nI n)])), (a1, aI d 10 pl), (a2, aI d 10 ((dropF cp pl n nc (ha, vi, lt, la)).2.1)), (a5, aI d 10 ((dropF cp pl n nc (ha, vi, lt, la)).2.2.1)), (a7, aI d 10 ((dropF cp pl n nc (ha, vi, lt, la)).2.2.2))]) := by
  refine yyV_of (own := RX1) [(0, .ref e0), (1, .ref a0)] (by decide +kernel) rfl (Nat.le_of_ble_eq_true rfl) rfl ?_
  intro G Q hQ hGL hC hGA hin
  refine y_iconst (pc := 0) hC dX1_dropUpon_0 0 (by decide) ?_
  refine y_istore_n (pc := 1) hC dX1_dropUpon_1 [(2, .int 0), (0, .ref e0), (1, .ref a0)] rfl (by decide) ?_
  have lpj1 : ∀ r1 j1 : Nat, j1 + r1 = nc → yyW d G 0 0 Q [(e0, .inr (1, [.ref e1, .ref e2, .ref e3, .ref e4, .int (nI nc)])), (e1, aI d 20 cp), (e3, aI d 20 ((yi j1 (dropS cp pl n) (ha, vi, lt, la)).1)), (e4, aZ d 20 (gnF cp)), (a0, .inr (3, [.ref a1, .ref a2, .ref a3, .ref a4, .ref a5, .ref a6, .ref a7, .int (nI n)])), (a1, aI d 10 pl), (a2, aI d 10 ((yi j1 (dropS cp pl n) (ha, vi, lt, la)).2.1)), (a5, aI d 10 ((yi j1 (dropS cp pl n) (ha, vi, lt, la)).2.2.1)), (a7, aI d 10 ((yi j1 (dropS cp pl n) (ha, vi, lt, la)).2.2.2))] [(2, .int (nI j1)), (0, .ref e0), (1, .ref a0)] 2 [] := by
    intro r1
    induction r1 with
    | zero =>
      intro j1 hj1
      have ej1 : j1 = nc := by omega
      rw [ej1]
      refine y_iload_n (pc := 2) hC 0 dX1_dropUpon_2 rfl ?_
      refine y_aload_n (pc := 3) hC 1 dX1_dropUpon_3 rfl ?_
      refine y_get (pc := 4) hC 0 4 dX1_dropUpon_4 rfl rfl inX1 (by decide) kw_1_98 rfl rfl ?_
      refine y_ge_t (pc := 7) (a := nc) (b := nc) hC dX1_dropUpon_7 66 (by decide) (by omega) (by omega) ?_
      exact y_vret (()) hC hQ (trivial) rfl (nb rfl) (nb rfl) dX1_dropUpon_66
    | succ r1 ihj1 =>
      intro j1 hj1
      have lj1 : j1 < nc := by omega
      refine y_iload_n (pc := 2) hC 0 dX1_dropUpon_2 rfl ?_
      refine y_aload_n (pc := 3) hC 1 dX1_dropUpon_3 rfl ?_
      refine y_get (pc := 4) hC 0 4 dX1_dropUpon_4 rfl rfl inX1 (by decide) kw_1_98 rfl rfl ?_
      refine y_ge_f (pc := 7) (a := j1) (b := nc) hC dX1_dropUpon_7 66 (by decide) (by omega) (by omega) ?_
      refine y_aload_n (pc := 10) hC 1 dX1_dropUpon_10 rfl ?_
      refine y_get (pc := 11) hC 0 3 dX1_dropUpon_11 rfl rfl inX1 (by decide) kw_1_97 rfl rfl ?_
      refine y_iload_n (pc := 14) hC 0 dX1_dropUpon_14 rfl ?_
      refine y_zald (pc := 15) hC 3 (j := j1) dX1_dropUpon_15 (bI ((gnF cp) j1)) rfl (by omega) rfl rfl ?_
      refine y_bne (pc := 16) hC dX1_dropUpon_16 60 (by decide) (fun c_2 => ?_) (fun c_2 => ?_)
      · refine y_iinc (pc := 60) hC 0 dX1_dropUpon_60 (nI (j1 + 1)) [(2, .int (nI (j1 + 1))), (0, .ref e0), (1, .ref a0)] rfl (nI_inc _) rfl (by decide) ?_
        refine y_goto (pc := 63) hC dX1_dropUpon_63 2 (by decide) ?_
        refine y_ws [(e0, .inr (1, [.ref e1, .ref e2, .ref e3, .ref e4, .int (nI nc)])), (e1, aI d 20 cp), (e3, aI d 20 ((yi (j1 + 1) (dropS cp pl n) (ha, vi, lt, la)).1)), (e4, aZ d 20 (gnF cp)), (a0, .inr (3, [.ref a1, .ref a2, .ref a3, .ref a4, .ref a5, .ref a6, .ref a7, .int (nI n)])), (a1, aI d 10 pl), (a2, aI d 10 ((yi (j1 + 1) (dropS cp pl n) (ha, vi, lt, la)).2.1)), (a5, aI d 10 ((yi (j1 + 1) (dropS cp pl n) (ha, vi, lt, la)).2.2.1)), (a7, aI d 10 ((yi (j1 + 1) (dropS cp pl n) (ha, vi, lt, la)).2.2.2))] (by simp only [yi, dropS, c_2, ↓reduceIte, cond_true, cond_false]) ?_
        exact ihj1 (j1 + 1) (by omega)
      · refine y_aload_n (pc := 19) hC 1 dX1_dropUpon_19 rfl ?_
        refine y_get (pc := 20) hC 0 2 dX1_dropUpon_20 rfl rfl inX1 (by decide) kw_1_96 rfl rfl ?_
        refine y_iload_n (pc := 23) hC 0 dX1_dropUpon_23 rfl ?_
        refine y_iald (pc := 24) hC 2 (j := j1) dX1_dropUpon_24 (((yi j1 (dropS cp pl n) (ha, vi, lt, la)).1) j1) rfl (by omega) rfl rfl ?_
        refine y_if_le (pc := 25) hC dX1_dropUpon_25 60 (by decide) (fun c_3 => ?_) (fun c_3 => ?_)
        · refine y_iinc (pc := 60) hC 0 dX1_dropUpon_60 (nI (j1 + 1)) [(2, .int (nI (j1 + 1))), (0, .ref e0), (1, .ref a0)] rfl (nI_inc _) rfl (by decide) ?_
          refine y_goto (pc := 63) hC dX1_dropUpon_63 2 (by decide) ?_
          refine y_ws [(e0, .inr (1, [.ref e1, .ref e2, .ref e3, .ref e4, .int (nI nc)])), (e1, aI d 20 cp), (e3, aI d 20 ((yi (j1 + 1) (dropS cp pl n) (ha, vi, lt, la)).1)), (e4, aZ d 20 (gnF cp)), (a0, .inr (3, [.ref a1, .ref a2, .ref a3, .ref a4, .ref a5, .ref a6, .ref a7, .int (nI n)])), (a1, aI d 10 pl), (a2, aI d 10 ((yi (j1 + 1) (dropS cp pl n) (ha, vi, lt, la)).2.1)), (a5, aI d 10 ((yi (j1 + 1) (dropS cp pl n) (ha, vi, lt, la)).2.2.1)), (a7, aI d 10 ((yi (j1 + 1) (dropS cp pl n) (ha, vi, lt, la)).2.2.2))] (by simp only [yi, dropS, c_2, c_3, ↓reduceIte, cond_true, cond_false]) ?_
          exact ihj1 (j1 + 1) (by omega)
        · refine y_aload_n (pc := 28) hC 1 dX1_dropUpon_28 rfl ?_
          refine y_get (pc := 29) hC 0 2 dX1_dropUpon_29 rfl rfl inX1 (by decide) kw_1_96 rfl rfl ?_
          refine y_iload_n (pc := 32) hC 0 dX1_dropUpon_32 rfl ?_
          refine y_iald (pc := 33) hC 2 (j := j1) dX1_dropUpon_33 (((yi j1 (dropS cp pl n) (ha, vi, lt, la)).1) j1) rfl (by omega) rfl rfl ?_
          refine y_iconst (pc := 34) hC dX1_dropUpon_34 4 (by decide) ?_
          refine y_min (pc := 35) hC dX1_dropUpon_35 kw_2_108 kw_2_109 kw_1_13 kw_2_110 ⟨nb rfl, nb rfl, nb rfl, nb rfl⟩ ?_
          refine y_istore_n (pc := 38) hC dX1_dropUpon_38 [(3, .int (mn (((yi j1 (dropS cp pl n) (ha, vi, lt, la)).1) j1) 4)), (2, .int (nI j1)), (0, .ref e0), (1, .ref a0)] rfl (by decide) ?_
          refine y_aload_n (pc := 39) hC 2 dX1_dropUpon_39 rfl ?_
          refine y_get (pc := 40) hC 0 2 dX1_dropUpon_40 rfl rfl inX1 (by decide) kw_1_96 rfl rfl ?_
          refine y_iload_n (pc := 43) hC 1 dX1_dropUpon_43 rfl ?_
          refine y_dup2 (pc := 44) hC dX1_dropUpon_44 rfl rfl ?_
          refine y_iald (pc := 45) hC 2 (j := j1) dX1_dropUpon_45 (((yi j1 (dropS cp pl n) (ha, vi, lt, la)).1) j1) rfl (by omega) rfl rfl ?_
          refine y_iload_n (pc := 46) hC 0 dX1_dropUpon_46 rfl ?_
          refine y_isub (pc := 47) hC dX1_dropUpon_47 ((((yi j1 (dropS cp pl n) (ha, vi, lt, la)).1) j1) - (mn (((yi j1 (dropS cp pl n) (ha, vi, lt, la)).1) j1) 4)) rfl ?_
          refine y_iast (pc := 48) hC 2 (j := j1) dX1_dropUpon_48 (upd ((yi j1 (dropS cp pl n) (ha, vi, lt, la)).1) j1 ((((yi j1 (dropS cp pl n) (ha, vi, lt, la)).1) j1) - (mn (((yi j1 (dropS cp pl n) (ha, vi, lt, la)).1) j1) 4))) [(e0, .inr (1, [.ref e1, .ref e2, .ref e3, .ref e4, .int (nI nc)])), (e1, aI d 20 cp), (e3, aI d 20 (upd ((yi j1 (dropS cp pl n) (ha, vi, lt, la)).1) j1 ((((yi j1 (dropS cp pl n) (ha, vi, lt, la)).1) j1) - (mn (((yi j1 (dropS cp pl n) (ha, vi, lt, la)).1) j1) 4)))), (e4, aZ d 20 (gnF cp)), (a0, .inr (3, [.ref a1, .ref a2, .ref a3, .ref a4, .ref a5, .ref a6, .ref a7, .int (nI n)])), (a1, aI d 10 pl), (a2, aI d 10 ((yi j1 (dropS cp pl n) (ha, vi, lt, la)).2.1)), (a5, aI d 10 ((yi j1 (dropS cp pl n) (ha, vi, lt, la)).2.2.1)), (a7, aI d 10 ((yi j1 (dropS cp pl n) (ha, vi, lt, la)).2.2.2))] rfl (by omega) rfl rfl rfl ?_
          refine y_aload_n (pc := 49) hC 3 dX1_dropUpon_49 rfl ?_
          refine y_aload_n (pc := 50) hC 2 dX1_dropUpon_50 rfl ?_
          refine y_get (pc := 51) hC 0 0 dX1_dropUpon_51 rfl rfl inX1 (by decide) kw_1_94 rfl rfl ?_
          refine y_iload_n (pc := 54) hC 1 dX1_dropUpon_54 rfl ?_
          refine y_iald (pc := 55) hC 1 (j := j1) dX1_dropUpon_55 (cp j1) rfl (by omega) rfl rfl ?_
          refine y_iload_n (pc := 56) hC 0 dX1_dropUpon_56 rfl ?_
          refine y_cV (pc := 57) (As := [.int (cp j1), .int (mn (((yi j1 (dropS cp pl n) (ha, vi, lt, la)).1) j1) 4)]) (st := []) hC (c_X3_takeHail (gL G) d a0 a1 a2 a3 a4 a5 a6 a7 pl ((yi j1 (dropS cp pl n) (ha, vi, lt, la)).2.1) ((yi j1 (dropS cp pl n) (ha, vi, lt, la)).2.2.1) ((yi j1 (dropS cp pl n) (ha, vi, lt, la)).2.2.2) n (cp j1) (mn (((yi j1 (dropS cp pl n) (ha, vi, lt, la)).1) j1) 4) (by omega)) kw_2_114 kw_2_111 kw_2_112 kw_2_113 kw_1_3 n_X3_takeHail ⟨⟨nb rfl, nb rfl⟩, ⟨nb rfl, nb rfl⟩, nb rfl⟩ [4, 5, 6, 7, 8] [0, 1, 2, 3] [0, 1, 2, 3, 4, 5, 6, 7, 8] 0 [(e0, .inr (1, [.ref e1, .ref e2, .ref e3, .ref e4, .int (nI nc)])), (e1, aI d 20 cp), (e3, aI d 20 (upd ((yi j1 (dropS cp pl n) (ha, vi, lt, la)).1) j1 ((((yi j1 (dropS cp pl n) (ha, vi, lt, la)).1) j1) - (mn (((yi j1 (dropS cp pl n) (ha, vi, lt, la)).1) j1) 4)))), (e4, aZ d 20 (gnF cp))] (fun _ => [(e0, .inr (1, [.ref e1, .ref e2, .ref e3, .ref e4, .int (nI nc)])), (e1, aI d 20 cp), (e3, aI d 20 (upd ((yi j1 (dropS cp pl n) (ha, vi, lt, la)).1) j1 ((((yi j1 (dropS cp pl n) (ha, vi, lt, la)).1) j1) - (mn (((yi j1 (dropS cp pl n) (ha, vi, lt, la)).1) j1) 4)))), (e4, aZ d 20 (gnF cp)), (a0, .inr (3, [.ref a1, .ref a2, .ref a3, .ref a4, .ref a5, .ref a6, .ref a7, .int (nI n)])), (a1, aI d 10 pl), (a2, aI d 10 ((takeF pl (cp j1) (mn (((yi j1 (dropS cp pl n) (ha, vi, lt, la)).1) j1) 4) n (((yi j1 (dropS cp pl n) (ha, vi, lt, la)).2.1), ((yi j1 (dropS cp pl n) (ha, vi, lt, la)).2.2.1), ((yi j1 (dropS cp pl n) (ha, vi, lt, la)).2.2.2))).1)), (a5, aI d 10 ((takeF pl (cp j1) (mn (((yi j1 (dropS cp pl n) (ha, vi, lt, la)).1) j1) 4) n (((yi j1 (dropS cp pl n) (ha, vi, lt, la)).2.1), ((yi j1 (dropS cp pl n) (ha, vi, lt, la)).2.2.1), ((yi j1 (dropS cp pl n) (ha, vi, lt, la)).2.2.2))).2.1)), (a7, aI d 10 ((takeF pl (cp j1) (mn (((yi j1 (dropS cp pl n) (ha, vi, lt, la)).1) j1) 4) n (((yi j1 (dropS cp pl n) (ha, vi, lt, la)).2.1), ((yi j1 (dropS cp pl n) (ha, vi, lt, la)).2.2.1), ((yi j1 (dropS cp pl n) (ha, vi, lt, la)).2.2.2))).2.2))]) rfl rfl ⟨rfl, by decide, rfl, by decide, by decide⟩ (fun _ => ⟨rfl, by decide⟩) rfl dX1_dropUpon_57 ?_
          intro _ _
          refine y_iinc (pc := 60) hC 1 dX1_dropUpon_60 (nI (j1 + 1)) [(2, .int (nI (j1 + 1))), (3, .int (mn (((yi j1 (dropS cp pl n) (ha, vi, lt, la)).1) j1) 4)), (0, .ref e0), (1, .ref a0)] rfl (nI_inc _) rfl (by decide) ?_
          refine y_goto (pc := 63) hC dX1_dropUpon_63 2 (by decide) ?_
          refine y_lv [(2, .int (nI (j1 + 1))), (0, .ref e0), (1, .ref a0)] [0, 2, 3] rfl ?_
          refine y_ws [(e0, .inr (1, [.ref e1, .ref e2, .ref e3, .ref e4, .int (nI nc)])), (e1, aI d 20 cp), (e3, aI d 20 ((yi (j1 + 1) (dropS cp pl n) (ha, vi, lt, la)).1)), (e4, aZ d 20 (gnF cp)), (a0, .inr (3, [.ref a1, .ref a2, .ref a3, .ref a4, .ref a5, .ref a6, .ref a7, .int (nI n)])), (a1, aI d 10 pl), (a2, aI d 10 ((yi (j1 + 1) (dropS cp pl n) (ha, vi, lt, la)).2.1)), (a5, aI d 10 ((yi (j1 + 1) (dropS cp pl n) (ha, vi, lt, la)).2.2.1)), (a7, aI d 10 ((yi (j1 + 1) (dropS cp pl n) (ha, vi, lt, la)).2.2.2))] (by simp only [yi, dropS, c_2, c_3, ↓reduceIte, cond_true, cond_false]) ?_
          exact ihj1 (j1 + 1) (by omega)
  refine y_lv [(2, .int 0), (0, .ref e0), (1, .ref a0)] [0, 1, 2] rfl ?_
  exact lpj1 nc 0 (by omega)
theorem n_X1_dropUpon : yyN yX1_dropUpon RX1 1 := by refine ⟨rfl, ?_, ?_, ?_⟩ <;> decide +kernel
set_option maxHeartbeats 4000000 in
set_option maxRecDepth 100000 in
theorem c_X1_haveHail (l : Launch) (d : yyD) (e0 : Nat) (e1 : Nat) (e2 : Nat) (e3 : Nat) (e4 : Nat) (cp : fI) (ha : fI) (nc : Nat) (hc : nc ≤ 20) : yyI l yX1_haveHail cX1_haveHail 2 (some .boolean) { frames := 0, cells := 0, slots := 0, locals := 0 } d [.ref e0] [(e0, .inr (1, [.ref e1, .ref e2, .ref e3, .ref e4, .int (nI nc)])), (e3, aI d 20 ha), (e4, aZ d 20 (gnF cp))] [(e0, .inr (1, [.ref e1, .ref e2, .ref e3, .ref e4, .int (nI nc)])), (e3, aI d 20 ha), (e4, aZ d 20 (gnF cp))] (bI (haveF cp ha nc)) := by
  refine yyI_of (own := RX1) [(0, .ref e0)] (by decide +kernel) rfl (Nat.le_of_ble_eq_true rfl) rfl ?_
  intro G Q hQ hGL hC hGA
  refine y_iconst (pc := 0) hC dX1_haveHail_0 0 (by decide) ?_
  refine y_istore_n (pc := 1) hC dX1_haveHail_1 [(1, .int 0), (0, .ref e0)] rfl (by decide) ?_
  have lpj1 : ∀ r1 j1 : Nat, j1 + r1 = nc → haveF cp ha j1 = false → yyW d G 0 0 Q [(e0, .inr (1, [.ref e1, .ref e2, .ref e3, .ref e4, .int (nI nc)])), (e3, aI d 20 ha), (e4, aZ d 20 (gnF cp))] [(1, .int (nI j1)), (0, .ref e0)] 2 [] := by
    intro r1
    induction r1 with
    | zero =>
      intro j1 hj1 vj1
      have ej1 : j1 = nc := by omega
      rw [ej1] at vj1 ⊢
      refine y_iload_n (pc := 2) hC 0 dX1_haveHail_2 rfl ?_
      refine y_aload_n (pc := 3) hC 1 dX1_haveHail_3 rfl ?_
      refine y_get (pc := 4) hC 0 4 dX1_haveHail_4 rfl rfl inX1 (by decide) kw_1_98 rfl rfl ?_
      refine y_ge_t (pc := 7) (a := nc) (b := nc) hC dX1_haveHail_7 36 (by decide) (by omega) (by omega) ?_
      refine y_iconst (pc := 36) hC dX1_haveHail_36 0 (by decide) ?_
      exact y_iret hC hQ rfl rfl (by rw [vj1]; rfl) (nb rfl) (nb rfl) dX1_haveHail_37
    | succ r1 ihj1 =>
      intro j1 hj1 vj1
      have lj1 : j1 < nc := by omega
      refine y_iload_n (pc := 2) hC 0 dX1_haveHail_2 rfl ?_
      refine y_aload_n (pc := 3) hC 1 dX1_haveHail_3 rfl ?_
      refine y_get (pc := 4) hC 0 4 dX1_haveHail_4 rfl rfl inX1 (by decide) kw_1_98 rfl rfl ?_
      refine y_ge_f (pc := 7) (a := j1) (b := nc) hC dX1_haveHail_7 36 (by decide) (by omega) (by omega) ?_
      refine y_aload_n (pc := 10) hC 1 dX1_haveHail_10 rfl ?_
      refine y_get (pc := 11) hC 0 3 dX1_haveHail_11 rfl rfl inX1 (by decide) kw_1_97 rfl rfl ?_
      refine y_iload_n (pc := 14) hC 0 dX1_haveHail_14 rfl ?_
      refine y_zald (pc := 15) hC 2 (j := j1) dX1_haveHail_15 (bI ((gnF cp) j1)) rfl (by omega) rfl rfl ?_
      refine y_bne (pc := 16) hC dX1_haveHail_16 30 (by decide) (fun c_2 => ?_) (fun c_2 => ?_)
      · refine y_iinc (pc := 30) hC 0 dX1_haveHail_30 (nI (j1 + 1)) [(1, .int (nI (j1 + 1))), (0, .ref e0)] rfl (nI_inc _) rfl (by decide) ?_
        refine y_goto (pc := 33) hC dX1_haveHail_33 2 (by decide) ?_
        refine y_ws [(e0, .inr (1, [.ref e1, .ref e2, .ref e3, .ref e4, .int (nI nc)])), (e3, aI d 20 ha), (e4, aZ d 20 (gnF cp))] rfl ?_
        exact ihj1 (j1 + 1) (by omega) (by show (haveF cp ha j1 || hvP cp ha j1) = false; rw [vj1]; simp [hvP, c_2])
      · refine y_aload_n (pc := 19) hC 1 dX1_haveHail_19 rfl ?_
        refine y_get (pc := 20) hC 0 2 dX1_haveHail_20 rfl rfl inX1 (by decide) kw_1_96 rfl rfl ?_
        refine y_iload_n (pc := 23) hC 0 dX1_haveHail_23 rfl ?_
        refine y_iald (pc := 24) hC 1 (j := j1) dX1_haveHail_24 (ha j1) rfl (by omega) rfl rfl ?_
        refine y_if_le (pc := 25) hC dX1_haveHail_25 30 (by decide) (fun c_3 => ?_) (fun c_3 => ?_)
        · refine y_iinc (pc := 30) hC 0 dX1_haveHail_30 (nI (j1 + 1)) [(1, .int (nI (j1 + 1))), (0, .ref e0)] rfl (nI_inc _) rfl (by decide) ?_
          refine y_goto (pc := 33) hC dX1_haveHail_33 2 (by decide) ?_
          refine y_ws [(e0, .inr (1, [.ref e1, .ref e2, .ref e3, .ref e4, .int (nI nc)])), (e3, aI d 20 ha), (e4, aZ d 20 (gnF cp))] rfl ?_
          exact ihj1 (j1 + 1) (by omega) (by show (haveF cp ha j1 || hvP cp ha j1) = false; rw [vj1]; simp [hvP, c_2, c_3])
        · refine y_iconst (pc := 28) hC dX1_haveHail_28 1 (by decide) ?_
          exact y_iret hC hQ rfl rfl (by rw [have_hit lj1 (by simp [hvP, c_2, c_3])]; rfl) (nb rfl) (nb rfl) dX1_haveHail_29
  refine y_lv [(1, .int 0), (0, .ref e0)] [0, 1] rfl ?_
  exact lpj1 nc 0 (by omega) rfl
theorem n_X1_haveHail : yyN yX1_haveHail RX1 0 := by refine ⟨rfl, ?_, ?_, ?_⟩ <;> decide +kernel
set_option maxHeartbeats 4000000 in
set_option maxRecDepth 100000 in
theorem c_X1_there (l : Launch) (d : yyD) (e0 : Nat) (e1 : Nat) (e2 : Nat) (e3 : Nat) (e4 : Nat) (cp : fI) (nc : Nat) (hc : nc ≤ 20) : yyI l yX1_there cX1_there 3 (some .int) { frames := 0, cells := 0, slots := 0, locals := 0 } d [.ref e0] [(e0, .inr (1, [.ref e1, .ref e2, .ref e3, .ref e4, .int (nI nc)])), (e4, aZ d 20 (gnF cp))] [(e0, .inr (1, [.ref e1, .ref e2, .ref e3, .ref e4, .int (nI nc)])), (e4, aZ d 20 (gnF cp))] (thereF cp nc) := by
  refine yyI_of (own := RX1) [(0, .ref e0)] (by decide +kernel) rfl (Nat.le_of_ble_eq_true rfl) rfl ?_
  intro G Q hQ hGL hC hGA
  refine y_iconst (pc := 0) hC dX1_there_0 0 (by decide) ?_
  refine y_istore_n (pc := 1) hC dX1_there_1 [(1, .int 0), (0, .ref e0)] rfl (by decide) ?_
  refine y_iconst (pc := 2) hC dX1_there_2 0 (by decide) ?_
  refine y_istore_n (pc := 3) hC dX1_there_3 [(2, .int 0), (1, .int 0), (0, .ref e0)] rfl (by decide) ?_
  have lpj1 : ∀ r1 j1 : Nat, j1 + r1 = nc → yyW d G 0 0 Q [(e0, .inr (1, [.ref e1, .ref e2, .ref e3, .ref e4, .int (nI nc)])), (e4, aZ d 20 (gnF cp))] [(2, .int (nI j1)), (1, .int (yi j1 (fun k a => cond (gnF cp k) a (a + Int32.ofInt 1)) 0)), (0, .ref e0)] 4 [] := by
    intro r1
    induction r1 with
    | zero =>
      intro j1 hj1
      have ej1 : j1 = nc := by omega
      rw [ej1]
      refine y_iload_n (pc := 4) hC 0 dX1_there_4 rfl ?_
      refine y_aload_n (pc := 5) hC 2 dX1_there_5 rfl ?_
      refine y_get (pc := 6) hC 0 4 dX1_there_6 rfl rfl inX1 (by decide) kw_1_98 rfl rfl ?_
      refine y_ge_t (pc := 9) (a := nc) (b := nc) hC dX1_there_9 30 (by decide) (by omega) (by omega) ?_
      refine y_iload_n (pc := 30) hC 1 dX1_there_30 rfl ?_
      exact y_iret hC hQ rfl rfl rfl (nb rfl) (nb rfl) dX1_there_31
    | succ r1 ihj1 =>
      intro j1 hj1
      have lj1 : j1 < nc := by omega
      refine y_iload_n (pc := 4) hC 0 dX1_there_4 rfl ?_
      refine y_aload_n (pc := 5) hC 2 dX1_there_5 rfl ?_
      refine y_get (pc := 6) hC 0 4 dX1_there_6 rfl rfl inX1 (by decide) kw_1_98 rfl rfl ?_
      refine y_ge_f (pc := 9) (a := j1) (b := nc) hC dX1_there_9 30 (by decide) (by omega) (by omega) ?_
      refine y_aload_n (pc := 12) hC 2 dX1_there_12 rfl ?_
      refine y_get (pc := 13) hC 0 3 dX1_there_13 rfl rfl inX1 (by decide) kw_1_97 rfl rfl ?_
      refine y_iload_n (pc := 16) hC 0 dX1_there_16 rfl ?_
      refine y_zald (pc := 17) hC 1 (j := j1) dX1_there_17 (bI ((gnF cp) j1)) rfl (by omega) rfl rfl ?_
      refine y_bne (pc := 18) hC dX1_there_18 24 (by decide) (fun c_2 => ?_) (fun c_2 => ?_)
      · refine y_iinc (pc := 24) hC 0 dX1_there_24 (nI (j1 + 1)) [(2, .int (nI (j1 + 1))), (1, .int (yi j1 (fun k a => cond (gnF cp k) a (a + Int32.ofInt 1)) 0)), (0, .ref e0)] rfl (nI_inc _) rfl (by decide) ?_
        refine y_goto (pc := 27) hC dX1_there_27 4 (by decide) ?_
        refine y_ws [(e0, .inr (1, [.ref e1, .ref e2, .ref e3, .ref e4, .int (nI nc)])), (e4, aZ d 20 (gnF cp))] rfl ?_
        refine y_lve [(2, .int (nI (j1 + 1))), (1, .int (yi (j1 + 1) (fun k a => cond (gnF cp k) a (a + Int32.ofInt 1)) 0)), (0, .ref e0)] (by simp only [yi, c_2, ↓reduceIte, cond_true, cond_false]) ?_
        exact ihj1 (j1 + 1) (by omega)
      · refine y_iinc (pc := 21) hC 1 dX1_there_21 (yi j1 (fun k a => cond (gnF cp k) a (a + Int32.ofInt 1)) 0 + Int32.ofInt 1) [(1, .int (yi j1 (fun k a => cond (gnF cp k) a (a + Int32.ofInt 1)) 0 + Int32.ofInt 1)), (2, .int (nI j1)), (0, .ref e0)] rfl rfl rfl (by decide) ?_
        refine y_iinc (pc := 24) hC 1 dX1_there_24 (nI (j1 + 1)) [(2, .int (nI (j1 + 1))), (1, .int (yi j1 (fun k a => cond (gnF cp k) a (a + Int32.ofInt 1)) 0 + Int32.ofInt 1)), (0, .ref e0)] rfl (nI_inc _) rfl (by decide) ?_
        refine y_goto (pc := 27) hC dX1_there_27 4 (by decide) ?_
        refine y_ws [(e0, .inr (1, [.ref e1, .ref e2, .ref e3, .ref e4, .int (nI nc)])), (e4, aZ d 20 (gnF cp))] rfl ?_
        refine y_lve [(2, .int (nI (j1 + 1))), (1, .int (yi (j1 + 1) (fun k a => cond (gnF cp k) a (a + Int32.ofInt 1)) 0)), (0, .ref e0)] (by simp only [yi, c_2, ↓reduceIte, cond_true, cond_false]) ?_
        exact ihj1 (j1 + 1) (by omega)
  refine y_lv [(2, .int 0), (1, .int 0), (0, .ref e0)] [0, 1, 2] rfl ?_
  exact lpj1 nc 0 (by omega)
theorem n_X1_there : yyN yX1_there RX1 0 := by refine ⟨rfl, ?_, ?_, ?_⟩ <;> decide +kernel
set_option maxHeartbeats 4000000 in
set_option maxRecDepth 100000 in
theorem c_X1_fact (l : Launch) (d : yyD) (e0 : Nat) (e1 : Nat) (e2 : Nat) (e3 : Nat) (e4 : Nat) (cp : fI) (dr : fI) (ha : fI) (nc : Nat) (j : Nat) (w : Nat) (hc : nc ≤ 20) (hj : j < 20) (hw : w ≤ 3) : yyI l yX1_fact cX1_fact 3 (some .int) { frames := 0, cells := 0, slots := 0, locals := 0 } d [.ref e0, .int (nI j), .int (nI w)] [(e0, .inr (1, [.ref e1, .ref e2, .ref e3, .ref e4, .int (nI nc)])), (e1, aI d 20 cp), (e2, aI d 20 dr), (e3, aI d 20 ha), (e4, aZ d 20 (gnF cp))] [(e0, .inr (1, [.ref e1, .ref e2, .ref e3, .ref e4, .int (nI nc)])), (e1, aI d 20 cp), (e2, aI d 20 dr), (e3, aI d 20 ha), (e4, aZ d 20 (gnF cp))] (cfact cp dr ha j w) := by
  refine yyI_of (own := RX1) [(0, .ref e0), (1, .int (nI j)), (2, .int (nI w))] (by decide +kernel) rfl (Nat.le_of_ble_eq_true rfl) rfl ?_
  intro G Q hQ hGL hC hGA
  refine y_iload_n (pc := 0) hC 2 dX1_fact_0 rfl ?_
  have hs1 : w = 0 ∨ w = 1 ∨ w = 2 ∨ w = 3 := by omega
  rcases hs1 with rfl | rfl | rfl | rfl
  · refine y_tsw (pc := 1) (off := 27) hC dX1_fact_1 28 (by decide +kernel) (by decide +kernel) (by decide +kernel) (by decide) ?_
    refine y_aload_n (pc := 28) hC 0 dX1_fact_28 rfl ?_
    refine y_get (pc := 29) hC 0 0 dX1_fact_29 rfl rfl inX1 (by decide) kw_1_94 rfl rfl ?_
    refine y_iload_n (pc := 32) hC 1 dX1_fact_32 rfl ?_
    refine y_iald (pc := 33) hC 1 (j := j) dX1_fact_33 (cp j) rfl (by omega) rfl rfl ?_
    exact y_iret hC hQ rfl rfl rfl (nb rfl) (nb rfl) dX1_fact_34
  · refine y_tsw (pc := 1) (off := 34) hC dX1_fact_1 35 (by decide +kernel) (by decide +kernel) (by decide +kernel) (by decide) ?_
    refine y_aload_n (pc := 35) hC 0 dX1_fact_35 rfl ?_
    refine y_get (pc := 36) hC 0 1 dX1_fact_36 rfl rfl inX1 (by decide) kw_1_95 rfl rfl ?_
    refine y_iload_n (pc := 39) hC 1 dX1_fact_39 rfl ?_
    refine y_iald (pc := 40) hC 2 (j := j) dX1_fact_40 (dr j) rfl (by omega) rfl rfl ?_
    exact y_iret hC hQ rfl rfl rfl (nb rfl) (nb rfl) dX1_fact_41
  · refine y_tsw (pc := 1) (off := 41) hC dX1_fact_1 42 (by decide +kernel) (by decide +kernel) (by decide +kernel) (by decide) ?_
    refine y_aload_n (pc := 42) hC 0 dX1_fact_42 rfl ?_
    refine y_get (pc := 43) hC 0 2 dX1_fact_43 rfl rfl inX1 (by decide) kw_1_96 rfl rfl ?_
    refine y_iload_n (pc := 46) hC 1 dX1_fact_46 rfl ?_
    refine y_iald (pc := 47) hC 3 (j := j) dX1_fact_47 (ha j) rfl (by omega) rfl rfl ?_
    exact y_iret hC hQ rfl rfl rfl (nb rfl) (nb rfl) dX1_fact_48
  · refine y_tsd (pc := 1) hC dX1_fact_1 49 (by decide +kernel) (by decide) ?_
    refine y_aload_n (pc := 49) hC 0 dX1_fact_49 rfl ?_
    refine y_get (pc := 50) hC 0 3 dX1_fact_50 rfl rfl inX1 (by decide) kw_1_97 rfl rfl ?_
    refine y_iload_n (pc := 53) hC 1 dX1_fact_53 rfl ?_
    refine y_zald (pc := 54) hC 4 (j := j) dX1_fact_54 (bI ((gnF cp) j)) rfl (by omega) rfl rfl ?_
    refine y_beq (pc := 55) hC dX1_fact_55 62 (by decide) (fun c_2 => ?_) (fun c_2 => ?_)
    · refine y_iconst (pc := 62) hC dX1_fact_62 0 (by decide) ?_
      exact y_iret hC hQ rfl rfl (by simp [cfact, bI, c_2]) (nb rfl) (nb rfl) dX1_fact_63
    · refine y_iconst (pc := 58) hC dX1_fact_58 1 (by decide) ?_
      refine y_goto (pc := 59) hC dX1_fact_59 63 (by decide) ?_
      exact y_iret hC hQ rfl rfl (by simp [cfact, bI, c_2]) (nb rfl) (nb rfl) dX1_fact_63
theorem n_X1_fact : yyN yX1_fact RX1 2 := by refine ⟨rfl, ?_, ?_, ?_⟩ <;> decide +kernel
set_option maxHeartbeats 4000000 in
set_option maxRecDepth 100000 in
theorem c_X1_add (l : Launch) (d : yyD) (e0 : Nat) (e1 : Nat) (e2 : Nat) (e3 : Nat) (e4 : Nat) (cp : fI) (dr : fI) (ha : fI) (nc : Nat) (x : Int32) (y : Int32) (z : Int32) (hc : nc < 20) (h0 : gn (cp nc) = false) (hx : gn x = false) : yyI l yX1_add cX1_add 5 (some .int) { frames := 0, cells := 0, slots := 0, locals := 0 } d [.ref e0, .int x, .int y, .int z] [(e0, .inr (1, [.ref e1, .ref e2, .ref e3, .ref e4, .int (nI nc)])), (e1, aI d 20 cp), (e2, aI d 20 dr), (e3, aI d 20 ha), (e4, aZ d 20 (gnF cp))] [(e0, .inr (1, [.ref e1, .ref e2, .ref e3, .ref e4, .int (nI (nc + 1))])), (e1, aI d 20 (upd cp nc x)), (e2, aI d 20 (upd dr nc y)), (e3, aI d 20 (upd ha nc z)), (e4, aZ d 20 (gnF (upd cp nc x)))] (nI nc) := by
  refine yyI_of (own := RX1) [(0, .ref e0), (1, .int x), (2, .int y), (3, .int z)] (by decide +kernel) rfl (Nat.le_of_ble_eq_true rfl) rfl ?_
  intro G Q hQ hGL hC hGA
  refine y_aload_n (pc := 0) hC 0 dX1_add_0 rfl ?_
  refine y_get (pc := 1) hC 0 4 dX1_add_1 rfl rfl inX1 (by decide) kw_1_98 rfl rfl ?_
  refine y_istore (pc := 4) hC dX1_add_4 [(4, .int (nI nc)), (0, .ref e0), (1, .int x), (2, .int y), (3, .int z)] rfl (by decide) ?_
  refine y_aload_n (pc := 6) hC 1 dX1_add_6 rfl ?_
  refine y_get (pc := 7) hC 0 0 dX1_add_7 rfl rfl inX1 (by decide) kw_1_94 rfl rfl ?_
  refine y_iload (pc := 10) hC 0 dX1_add_10 rfl ?_
  refine y_iload_n (pc := 12) hC 2 dX1_add_12 rfl ?_
  refine y_iast (pc := 13) hC 1 (j := nc) dX1_add_13 (upd cp nc x) [(e0, .inr (1, [.ref e1, .ref e2, .ref e3, .ref e4, .int (nI nc)])), (e1, aI d 20 (upd cp nc x)), (e2, aI d 20 dr), (e3, aI d 20 ha), (e4, aZ d 20 (gnF cp))] rfl (by omega) rfl rfl rfl ?_
  refine y_aload_n (pc := 14) hC 1 dX1_add_14 rfl ?_
  refine y_get (pc := 15) hC 0 1 dX1_add_15 rfl rfl inX1 (by decide) kw_1_95 rfl rfl ?_
  refine y_iload (pc := 18) hC 0 dX1_add_18 rfl ?_
  refine y_iload_n (pc := 20) hC 3 dX1_add_20 rfl ?_
  refine y_iast (pc := 21) hC 2 (j := nc) dX1_add_21 (upd dr nc y) [(e0, .inr (1, [.ref e1, .ref e2, .ref e3, .ref e4, .int (nI nc)])), (e1, aI d 20 (upd cp nc x)), (e2, aI d 20 (upd dr nc y)), (e3, aI d 20 ha), (e4, aZ d 20 (gnF cp))] rfl (by omega) rfl rfl rfl ?_
  refine y_aload_n (pc := 22) hC 1 dX1_add_22 rfl ?_
  refine y_get (pc := 23) hC 0 2 dX1_add_23 rfl rfl inX1 (by decide) kw_1_96 rfl rfl ?_
  refine y_iload (pc := 26) hC 0 dX1_add_26 rfl ?_
  refine y_iload_n (pc := 28) hC 4 dX1_add_28 rfl ?_
  refine y_iast (pc := 29) hC 3 (j := nc) dX1_add_29 (upd ha nc z) [(e0, .inr (1, [.ref e1, .ref e2, .ref e3, .ref e4, .int (nI nc)])), (e1, aI d 20 (upd cp nc x)), (e2, aI d 20 (upd dr nc y)), (e3, aI d 20 (upd ha nc z)), (e4, aZ d 20 (gnF cp))] rfl (by omega) rfl rfl rfl ?_
  refine y_aload_n (pc := 30) hC 1 dX1_add_30 rfl ?_
  refine y_dup (pc := 31) hC dX1_add_31 rfl ?_
  refine y_get (pc := 32) hC 0 4 dX1_add_32 rfl rfl inX1 (by decide) kw_1_98 rfl rfl ?_
  refine y_iconst (pc := 35) hC dX1_add_35 1 (by decide) ?_
  refine y_iadd (pc := 36) hC dX1_add_36 (nI (nc + 1)) (nI_1 _) ?_
  refine y_put (pc := 37) hC 0 4 .int dX1_add_37 tyX1 [(e0, .inr (1, [.ref e1, .ref e2, .ref e3, .ref e4, .int (nI (nc + 1))])), (e1, aI d 20 (upd cp nc x)), (e2, aI d 20 (upd dr nc y)), (e3, aI d 20 (upd ha nc z)), (e4, aZ d 20 (gnF cp))] rfl rfl rfl inX1 tyX1_ok nmX1 (by decide) kw_1_98 rfl rfl (by decide +kernel) rfl rfl (Nat.le_of_ble_eq_true rfl) ?_
  refine y_iload (pc := 40) hC 0 dX1_add_40 rfl ?_
  exact y_iret hC hQ rfl (by rw [← gnF_same cp nc x h0 hx]) rfl (nb rfl) (nb rfl) dX1_add_42
theorem n_X1_add : yyN yX1_add RX1 3 := by refine ⟨rfl, ?_, ?_, ?_⟩ <;> decide +kernel
set_option maxHeartbeats 4000000 in
set_option maxRecDepth 100000 in
theorem c_X1_copyFrom (l : Launch) (d : yyD) (e0 : Nat) (e1 : Nat) (e2 : Nat) (e3 : Nat) (e4 : Nat) (g0 : Nat) (g1 : Nat) (g2 : Nat) (g3 : Nat) (g4 : Nat) (cp : fI) (dr : fI) (ha : fI) (cp2 : fI) (dr2 : fI) (ha2 : fI) (nc : Nat) (nc2 : Nat)  : yyV (S := Unit) l yX1_copyFrom cX1_copyFrom 3 { frames := 1, cells := 0, slots := 0, locals := 18 } d [.ref e0, .ref g0] [(e0, .inr (1, [.ref e1, .ref e2, .ref e3, .ref e4, .int (nI nc)])), (e1, aI d 20 cp), (e2, aI d 20 dr), (e3, aI d 20 ha), (e4, aZ d 20 (gnF cp)), (g0, .inr (1, [.ref g1, .ref g2, .ref g3, .ref g4, .int (nI nc2)])), (g1, aI d 20 cp2), (g2, aI d 20 dr2), (g3, aI d 20 ha2), (g4, aZ d 20 (gnF cp2))] (fun _ => True) (fun _ => [(e0, .inr (1, [.ref e1, .ref e2, .ref e3, .ref e4, .int (nI nc2)])), (e1, aI d 20 cp2), (e2, aI d 20 dr2), (e3, aI d 20 ha2), (e4, aZ d 20 (gnF cp2)), (g0, .inr (1, [.ref g1, .ref g2, .ref g3, .ref g4, .int (nI nc2)])), (g1, aI d 20 cp2), (g2, aI d 20 dr2), (g3, aI d 20 ha2), (g4, aZ d 20 (gnF cp2))]) := by
  refine yyV_of (own := RX1) [(0, .ref e0), (1, .ref g0)] (by decide +kernel) rfl (Nat.le_of_ble_eq_true rfl) rfl ?_
  intro G Q hQ hGL hC hGA hin
  refine y_aload_n (pc := 0) hC 1 dX1_copyFrom_0 rfl ?_
  refine y_get (pc := 1) hC 5 0 dX1_copyFrom_1 rfl rfl inX1 (by decide) kw_1_94 rfl rfl ?_
  refine y_iconst (pc := 4) hC dX1_copyFrom_4 0 (by decide) ?_
  refine y_aload_n (pc := 5) hC 0 dX1_copyFrom_5 rfl ?_
  refine y_get (pc := 6) hC 0 0 dX1_copyFrom_6 rfl rfl inX1 (by decide) kw_1_94 rfl rfl ?_
  refine y_iconst (pc := 9) hC dX1_copyFrom_9 0 (by decide) ?_
  refine y_bipush (pc := 10) hC dX1_copyFrom_10 20 (by decide) ?_
  refine y_copyI (pc := 12) hC dX1_copyFrom_12 6 1 [(e0, .inr (1, [.ref e1, .ref e2, .ref e3, .ref e4, .int (nI nc)])), (e1, aI d 20 cp2), (e2, aI d 20 dr), (e3, aI d 20 ha), (e4, aZ d 20 (gnF cp)), (g0, .inr (1, [.ref g1, .ref g2, .ref g3, .ref g4, .int (nI nc2)])), (g1, aI d 20 cp2), (g2, aI d 20 dr2), (g3, aI d 20 ha2), (g4, aZ d 20 (gnF cp2))] rfl rfl rfl rfl rfl rfl rfl kw_2_144 kw_2_134 kw_2_133 kw_1_14 ⟨nb rfl, nb rfl⟩ ?_
  refine y_aload_n (pc := 15) hC 1 dX1_copyFrom_15 rfl ?_
  refine y_get (pc := 16) hC 5 1 dX1_copyFrom_16 rfl rfl inX1 (by decide) kw_1_95 rfl rfl ?_
  refine y_iconst (pc := 19) hC dX1_copyFrom_19 0 (by decide) ?_
  refine y_aload_n (pc := 20) hC 0 dX1_copyFrom_20 rfl ?_
  refine y_get (pc := 21) hC 0 1 dX1_copyFrom_21 rfl rfl inX1 (by decide) kw_1_95 rfl rfl ?_
  refine y_iconst (pc := 24) hC dX1_copyFrom_24 0 (by decide) ?_
  refine y_bipush (pc := 25) hC dX1_copyFrom_25 20 (by decide) ?_
  refine y_copyI (pc := 27) hC dX1_copyFrom_27 7 2 [(e0, .inr (1, [.ref e1, .ref e2, .ref e3, .ref e4, .int (nI nc)])), (e1, aI d 20 cp2), (e2, aI d 20 dr2), (e3, aI d 20 ha), (e4, aZ d 20 (gnF cp)), (g0, .inr (1, [.ref g1, .ref g2, .ref g3, .ref g4, .int (nI nc2)])), (g1, aI d 20 cp2), (g2, aI d 20 dr2), (g3, aI d 20 ha2), (g4, aZ d 20 (gnF cp2))] rfl rfl rfl rfl rfl rfl rfl kw_2_144 kw_2_134 kw_2_133 kw_1_14 ⟨nb rfl, nb rfl⟩ ?_
  refine y_aload_n (pc := 30) hC 1 dX1_copyFrom_30 rfl ?_
  refine y_get (pc := 31) hC 5 2 dX1_copyFrom_31 rfl rfl inX1 (by decide) kw_1_96 rfl rfl ?_
  refine y_iconst (pc := 34) hC dX1_copyFrom_34 0 (by decide) ?_
  refine y_aload_n (pc := 35) hC 0 dX1_copyFrom_35 rfl ?_
  refine y_get (pc := 36) hC 0 2 dX1_copyFrom_36 rfl rfl inX1 (by decide) kw_1_96 rfl rfl ?_
  refine y_iconst (pc := 39) hC dX1_copyFrom_39 0 (by decide) ?_
  refine y_bipush (pc := 40) hC dX1_copyFrom_40 20 (by decide) ?_
  refine y_copyI (pc := 42) hC dX1_copyFrom_42 8 3 [(e0, .inr (1, [.ref e1, .ref e2, .ref e3, .ref e4, .int (nI nc)])), (e1, aI d 20 cp2), (e2, aI d 20 dr2), (e3, aI d 20 ha2), (e4, aZ d 20 (gnF cp)), (g0, .inr (1, [.ref g1, .ref g2, .ref g3, .ref g4, .int (nI nc2)])), (g1, aI d 20 cp2), (g2, aI d 20 dr2), (g3, aI d 20 ha2), (g4, aZ d 20 (gnF cp2))] rfl rfl rfl rfl rfl rfl rfl kw_2_144 kw_2_134 kw_2_133 kw_1_14 ⟨nb rfl, nb rfl⟩ ?_
  refine y_iconst (pc := 45) hC dX1_copyFrom_45 0 (by decide) ?_
  refine y_istore_n (pc := 46) hC dX1_copyFrom_46 [(2, .int 0), (0, .ref e0), (1, .ref g0)] rfl (by decide) ?_
  have lpj1 : ∀ r1 j1 : Nat, j1 + r1 = 20 → yyW d G 0 0 Q [(e0, .inr (1, [.ref e1, .ref e2, .ref e3, .ref e4, .int (nI nc)])), (e1, aI d 20 cp2), (e2, aI d 20 dr2), (e3, aI d 20 ha2), (e4, aZ d 20 (yi j1 (fun k w => updB w k ((gnF cp2) k)) (gnF cp))), (g0, .inr (1, [.ref g1, .ref g2, .ref g3, .ref g4, .int (nI nc2)])), (g1, aI d 20 cp2), (g2, aI d 20 dr2), (g3, aI d 20 ha2), (g4, aZ d 20 (gnF cp2))] [(2, .int (nI j1)), (0, .ref e0), (1, .ref g0)] 47 [] := by
    intro r1
    induction r1 with
    | zero =>
      intro j1 hj1
      have ej1 : j1 = 20 := by omega
      rw [ej1]
      refine y_iload_n (pc := 47) hC 0 dX1_copyFrom_47 rfl ?_
      refine y_bipush (pc := 48) hC dX1_copyFrom_48 20 (by decide) ?_
      refine y_ge_t (pc := 50) (a := 20) (b := 20) hC dX1_copyFrom_50 71 (by decide) (by omega) (by omega) ?_
      refine y_aZx 4 (gnF cp2) [(e0, .inr (1, [.ref e1, .ref e2, .ref e3, .ref e4, .int (nI nc)])), (e1, aI d 20 cp2), (e2, aI d 20 dr2), (e3, aI d 20 ha2), (e4, aZ d 20 (gnF cp2)), (g0, .inr (1, [.ref g1, .ref g2, .ref g3, .ref g4, .int (nI nc2)])), (g1, aI d 20 cp2), (g2, aI d 20 dr2), (g3, aI d 20 ha2), (g4, aZ d 20 (gnF cp2))] rfl (cpB_in _ _ _) rfl ?_
      refine y_aload_n (pc := 71) hC 1 dX1_copyFrom_71 rfl ?_
      refine y_aload_n (pc := 72) hC 2 dX1_copyFrom_72 rfl ?_
      refine y_get (pc := 73) hC 5 4 dX1_copyFrom_73 rfl rfl inX1 (by decide) kw_1_98 rfl rfl ?_
      refine y_put (pc := 76) hC 0 4 .int dX1_copyFrom_76 tyX1 [(e0, .inr (1, [.ref e1, .ref e2, .ref e3, .ref e4, .int (nI nc2)])), (e1, aI d 20 cp2), (e2, aI d 20 dr2), (e3, aI d 20 ha2), (e4, aZ d 20 (gnF cp2)), (g0, .inr (1, [.ref g1, .ref g2, .ref g3, .ref g4, .int (nI nc2)])), (g1, aI d 20 cp2), (g2, aI d 20 dr2), (g3, aI d 20 ha2), (g4, aZ d 20 (gnF cp2))] rfl rfl rfl inX1 tyX1_ok nmX1 (by decide) kw_1_98 rfl rfl (by decide +kernel) rfl rfl (Nat.le_of_ble_eq_true rfl) ?_
      exact y_vret (()) hC hQ (trivial) rfl (nb rfl) (nb rfl) dX1_copyFrom_79
    | succ r1 ihj1 =>
      intro j1 hj1
      have lj1 : j1 < 20 := by omega
      refine y_iload_n (pc := 47) hC 0 dX1_copyFrom_47 rfl ?_
      refine y_bipush (pc := 48) hC dX1_copyFrom_48 20 (by decide) ?_
      refine y_ge_f (pc := 50) (a := j1) (b := 20) hC dX1_copyFrom_50 71 (by decide) (by omega) (by omega) ?_
      refine y_aload_n (pc := 53) hC 1 dX1_copyFrom_53 rfl ?_
      refine y_get (pc := 54) hC 0 3 dX1_copyFrom_54 rfl rfl inX1 (by decide) kw_1_97 rfl rfl ?_
      refine y_iload_n (pc := 57) hC 0 dX1_copyFrom_57 rfl ?_
      refine y_aload_n (pc := 58) hC 2 dX1_copyFrom_58 rfl ?_
      refine y_get (pc := 59) hC 5 3 dX1_copyFrom_59 rfl rfl inX1 (by decide) kw_1_97 rfl rfl ?_
      refine y_iload_n (pc := 62) hC 0 dX1_copyFrom_62 rfl ?_
      refine y_zald (pc := 63) hC 9 (j := j1) dX1_copyFrom_63 (bI ((gnF cp2) j1)) rfl (by omega) rfl rfl ?_
      refine y_zast (pc := 64) hC 4 (j := j1) dX1_copyFrom_64 ((gnF cp2) j1) (updB (yi j1 (fun k w => updB w k ((gnF cp2) k)) (gnF cp)) j1 ((gnF cp2) j1)) [(e0, .inr (1, [.ref e1, .ref e2, .ref e3, .ref e4, .int (nI nc)])), (e1, aI d 20 cp2), (e2, aI d 20 dr2), (e3, aI d 20 ha2), (e4, aZ d 20 (updB (yi j1 (fun k w => updB w k ((gnF cp2) k)) (gnF cp)) j1 ((gnF cp2) j1))), (g0, .inr (1, [.ref g1, .ref g2, .ref g3, .ref g4, .int (nI nc2)])), (g1, aI d 20 cp2), (g2, aI d 20 dr2), (g3, aI d 20 ha2), (g4, aZ d 20 (gnF cp2))] rfl (by omega) rfl rfl rfl ?_
      refine y_iinc (pc := 65) hC 0 dX1_copyFrom_65 (nI (j1 + 1)) [(2, .int (nI (j1 + 1))), (0, .ref e0), (1, .ref g0)] rfl (nI_inc _) rfl (by decide) ?_
      refine y_goto (pc := 68) hC dX1_copyFrom_68 47 (by decide) ?_
      refine y_ws [(e0, .inr (1, [.ref e1, .ref e2, .ref e3, .ref e4, .int (nI nc)])), (e1, aI d 20 cp2), (e2, aI d 20 dr2), (e3, aI d 20 ha2), (e4, aZ d 20 (yi (j1 + 1) (fun k w => updB w k ((gnF cp2) k)) (gnF cp))), (g0, .inr (1, [.ref g1, .ref g2, .ref g3, .ref g4, .int (nI nc2)])), (g1, aI d 20 cp2), (g2, aI d 20 dr2), (g3, aI d 20 ha2), (g4, aZ d 20 (gnF cp2))] rfl ?_
      exact ihj1 (j1 + 1) (by omega)
  refine y_lv [(2, .int 0), (0, .ref e0), (1, .ref g0)] [0, 1, 2] rfl ?_
  exact lpj1 20 0 (by omega)
theorem n_X1_copyFrom : yyN yX1_copyFrom RX1 1 := by refine ⟨rfl, ?_, ?_, ?_⟩ <;> decide +kernel
set_option maxHeartbeats 4000000 in
set_option maxRecDepth 100000 in
theorem c_X1_init (l : Launch) (d : yyD) (a0 : Nat)  : yyV (S := Nat → Nat) l yX1_init cX1_init 1 { frames := 1, cells := 4, slots := 80, locals := 12 } d [.ref a0] [(a0, .inr (1, [.null, .null, .null, .null, .int 0]))] (fun _ => True) (fun u => [(a0, .inr (1, [.ref (u 1), .ref (u 2), .ref (u 3), .ref (u 4), .int (nI 0)])), (u 1, aI d 20 (fun _ => 0)), (u 2, aI d 20 (fun _ => 0)), (u 3, aI d 20 (fun _ => 0)), (u 4, aZ d 20 (fun _ => false))]) := by
  refine yyV_of (own := RX1) [(0, .ref a0)] (by decide +kernel) rfl (Nat.le_of_ble_eq_true rfl) rfl ?_
  intro G Q hQ hGL hC hGA hin
  refine y_aload_n (pc := 0) hC 0 dX1_init_0 rfl ?_
  refine y_obj (pc := 1) hC kw_1_93 kw_1_21 kw_1_22 ⟨nb rfl, nb rfl⟩ dX1_init_1 ?_
  refine y_aload_n (pc := 4) hC 0 dX1_init_4 rfl ?_
  refine y_bipush (pc := 5) hC dX1_init_5 20 (by decide) ?_
  refine y_newaI (pc := 7) hC dX1_init_7 20 (fun q1 => [(a0, .inr (1, [.null, .null, .null, .null, .int 0])), (q1, aI d 20 (fun _ => 0))]) rfl rfl kw_1_62 ⟨nb rfl, nb rfl⟩ (fun _ => rfl) (fun q1 => ?_)
  refine y_putF (pc := 9) hC hin 0 0 (.array .int) dX1_init_9 tyX1 [(a0, .inr (1, [.ref q1, .null, .null, .null, .int 0])), (q1, aI d 20 (fun _ => 0))] rfl rfl rfl inX1 tyX1_ok nmX1 (by decide) kw_1_94 rfl rfl rfl (by decide +kernel) rfl rfl (Nat.le_of_ble_eq_true rfl) ?_
  refine y_aload_n (pc := 12) hC 0 dX1_init_12 rfl ?_
  refine y_bipush (pc := 13) hC dX1_init_13 20 (by decide) ?_
  refine y_newaI (pc := 15) hC dX1_init_15 20 (fun q2 => [(a0, .inr (1, [.ref q1, .null, .null, .null, .int 0])), (q1, aI d 20 (fun _ => 0)), (q2, aI d 20 (fun _ => 0))]) rfl rfl kw_1_62 ⟨nb rfl, nb rfl⟩ (fun _ => rfl) (fun q2 => ?_)
  refine y_putF (pc := 17) hC hin 0 1 (.array .int) dX1_init_17 tyX1 [(a0, .inr (1, [.ref q1, .ref q2, .null, .null, .int 0])), (q1, aI d 20 (fun _ => 0)), (q2, aI d 20 (fun _ => 0))] rfl rfl rfl inX1 tyX1_ok nmX1 (by decide) kw_1_95 rfl rfl rfl (by decide +kernel) rfl rfl (Nat.le_of_ble_eq_true rfl) ?_
  refine y_aload_n (pc := 20) hC 0 dX1_init_20 rfl ?_
  refine y_bipush (pc := 21) hC dX1_init_21 20 (by decide) ?_
  refine y_newaI (pc := 23) hC dX1_init_23 20 (fun q3 => [(a0, .inr (1, [.ref q1, .ref q2, .null, .null, .int 0])), (q1, aI d 20 (fun _ => 0)), (q2, aI d 20 (fun _ => 0)), (q3, aI d 20 (fun _ => 0))]) rfl rfl kw_1_62 ⟨nb rfl, nb rfl⟩ (fun _ => rfl) (fun q3 => ?_)
  refine y_putF (pc := 25) hC hin 0 2 (.array .int) dX1_init_25 tyX1 [(a0, .inr (1, [.ref q1, .ref q2, .ref q3, .null, .int 0])), (q1, aI d 20 (fun _ => 0)), (q2, aI d 20 (fun _ => 0)), (q3, aI d 20 (fun _ => 0))] rfl rfl rfl inX1 tyX1_ok nmX1 (by decide) kw_1_96 rfl rfl rfl (by decide +kernel) rfl rfl (Nat.le_of_ble_eq_true rfl) ?_
  refine y_aload_n (pc := 28) hC 0 dX1_init_28 rfl ?_
  refine y_bipush (pc := 29) hC dX1_init_29 20 (by decide) ?_
  refine y_newaZ (pc := 31) hC dX1_init_31 20 (fun q4 => [(a0, .inr (1, [.ref q1, .ref q2, .ref q3, .null, .int 0])), (q1, aI d 20 (fun _ => 0)), (q2, aI d 20 (fun _ => 0)), (q3, aI d 20 (fun _ => 0)), (q4, aZ d 20 (fun _ => false))]) rfl rfl kw_1_63 ⟨nb rfl, nb rfl⟩ (fun _ => rfl) (fun q4 => ?_)
  refine y_putF (pc := 33) hC hin 0 3 (.array .boolean) dX1_init_33 tyX1 [(a0, .inr (1, [.ref q1, .ref q2, .ref q3, .ref q4, .int 0])), (q1, aI d 20 (fun _ => 0)), (q2, aI d 20 (fun _ => 0)), (q3, aI d 20 (fun _ => 0)), (q4, aZ d 20 (fun _ => false))] rfl rfl rfl inX1 tyX1_ok nmX1 (by decide) kw_1_97 rfl rfl rfl (by decide +kernel) rfl rfl (Nat.le_of_ble_eq_true rfl) ?_
  refine y_aload_n (pc := 36) hC 0 dX1_init_36 rfl ?_
  refine y_iconst (pc := 37) hC dX1_init_37 0 (by decide) ?_
  refine y_put (pc := 38) hC 0 4 .int dX1_init_38 tyX1 [(a0, .inr (1, [.ref q1, .ref q2, .ref q3, .ref q4, .int 0])), (q1, aI d 20 (fun _ => 0)), (q2, aI d 20 (fun _ => 0)), (q3, aI d 20 (fun _ => 0)), (q4, aZ d 20 (fun _ => false))] rfl rfl rfl inX1 tyX1_ok nmX1 (by decide) kw_1_98 rfl rfl (by decide +kernel) rfl rfl (Nat.le_of_ble_eq_true rfl) ?_
  exact y_vret (fun i => match i with | 1 => q1 | 2 => q2 | 3 => q3 | 4 => q4 | _ => a0) hC hQ (trivial) rfl (nb rfl) (nb rfl) dX1_init_41
theorem n_X1_init : yyN yX1_init RX1 0 := by refine ⟨rfl, ?_, ?_, ?_⟩ <;> decide +kernel
