abbrev fI : Type := Nat → Int32
abbrev fB : Type := Nat → Bool
-- Vineyards: what a method does to the rows
def hearS (pl : fI) (me : fB) (p : Int32) (j : Nat) (su : fI) : fI := cond (me j) su (if 2 < ab (pl j - p) then su else upd su j (su j + 1))
def hearF (pl : fI) (me : fB) (p : Int32) (n : Nat) (su : fI) : fI := yi n (hearS pl me p) su
def takeS (pl : fI) (hp hl : Int32) (j : Nat) (w : fI × fI × fI) : fI × fI × fI :=
  if pl j = hp then (upd w.1 j (w.1 j - mn (2 * hl) (w.1 j)), upd w.2.1 j (w.2.1 j + mn (2 * hl) (w.1 j)), upd w.2.2 j (w.2.2 j + mn (2 * hl) (w.1 j))) else w
def takeF (pl : fI) (hp hl : Int32) (n : Nat) (w : fI × fI × fI) : fI × fI × fI := yi n (takeS pl hp hl) w
def closeS (ins : fB) (j : Nat) (w : Int32 × fI × fI × fI) : Int32 × fI × fI × fI :=
  ((cond (ins j) (w.1 + (1 - w.2.2.1 j / 2)) w.1) - w.2.2.2 j, if w.2.1 j < 1 then w.2.1 else if 99 ≤ w.2.1 j then w.2.1 else upd w.2.1 j (w.2.1 j + 1), upd w.2.2.1 j 0, upd w.2.2.2 j 0)
def closeF (ins : fB) (n : Nat) (w : Int32 × fI × fI × fI) : Int32 × fI × fI × fI := yi n (closeS ins) w
def sumF (f : fI) (n : Nat) : Int32 := yi n (fun k a => a + f k) 0
def manyF (f : fB) (n : Nat) : Int32 := yi n (fun k a => cond (f k) (a + Int32.ofInt 1) a) 0
def vfact (pl vi : fI) (me ins : fB) (lt su la : fI) (j w : Nat) : Int32 :=
  if w = 0 then pl j else if w = 1 then vi j else if w = 2 then bI (me j) else if w = 3 then bI (ins j) else if w = 4 then lt j else if w = 5 then su j else la j
set_option maxHeartbeats 4000000 in
set_option maxRecDepth 100000 in
/-- each vineyard near the shot that is no member has a suit more -/
theorem c_X3_hearShot (l : Launch) (d : yyD) (a0 : Nat) (a1 : Nat) (a2 : Nat) (a3 : Nat) (a4 : Nat) (a5 : Nat) (a6 : Nat) (a7 : Nat) (pl : fI) (me : fB) (su : fI) (n : Nat) (p : Int32) (hn : n ≤ 10) : yyV (S := Unit) l yX3_hearShot cX3_hearShot 3 { frames := 1, cells := 0, slots := 0, locals := 13 } d [.ref a0, .int p] [(a0, .inr (3, [.ref a1, .ref a2, .ref a3, .ref a4, .ref a5, .ref a6, .ref a7, .int (nI n)])), (a1, aI d 10 pl), (a3, aZ d 10 me), (a6, aI d 10 su)] (fun _ => True) (fun _ => [(a0, .inr (3, [.ref a1, .ref a2, .ref a3, .ref a4, .ref a5, .ref a6, .ref a7, .int (nI n)])), (a1, aI d 10 pl), (a3, aZ d 10 me), (a6, aI d 10 (hearF pl me p n su))]) := by
  refine yyV_of (own := RX3) [(0, .ref a0), (1, .int p)] (by decide +kernel) rfl (Nat.le_of_ble_eq_true rfl) rfl ?_
  intro G Q hQ hGL hC hGA hin
  refine y_iconst (pc := 0) hC dX3_hearShot_0 0 (by decide) ?_
  refine y_istore_n (pc := 1) hC dX3_hearShot_1 [(2, .int 0), (0, .ref a0), (1, .int p)] rfl (by decide) ?_
  have lpj1 : ∀ r1 j1 : Nat, j1 + r1 = n → yyW d G 0 0 Q [(a0, .inr (3, [.ref a1, .ref a2, .ref a3, .ref a4, .ref a5, .ref a6, .ref a7, .int (nI n)])), (a1, aI d 10 pl), (a3, aZ d 10 me), (a6, aI d 10 (yi j1 (hearS pl me p) su))] [(2, .int (nI j1)), (0, .ref a0), (1, .int p)] 2 [] := by
    intro r1
    induction r1 with
    | zero =>
      intro j1 hj1
      have ej1 : j1 = n := by omega
      rw [ej1]
      refine y_iload_n (pc := 2) hC 0 dX3_hearShot_2 rfl ?_
      refine y_aload_n (pc := 3) hC 1 dX3_hearShot_3 rfl ?_
      refine y_get (pc := 4) hC 0 7 dX3_hearShot_4 rfl rfl inX3 (by decide) kw_1_43 rfl rfl ?_
      refine y_ge_t (pc := 7) (a := n) (b := n) hC dX3_hearShot_7 50 (by decide) (by omega) (by omega) ?_
      exact y_vret (()) hC hQ (trivial) rfl (nb rfl) (nb rfl) dX3_hearShot_50
    | succ r1 ihj1 =>
      intro j1 hj1
      have lj1 : j1 < n := by omega
      refine y_iload_n (pc := 2) hC 0 dX3_hearShot_2 rfl ?_
      refine y_aload_n (pc := 3) hC 1 dX3_hearShot_3 rfl ?_
      refine y_get (pc := 4) hC 0 7 dX3_hearShot_4 rfl rfl inX3 (by decide) kw_1_43 rfl rfl ?_
      refine y_ge_f (pc := 7) (a := j1) (b := n) hC dX3_hearShot_7 50 (by decide) (by omega) (by omega) ?_
      refine y_aload_n (pc := 10) hC 1 dX3_hearShot_10 rfl ?_
      refine y_get (pc := 11) hC 0 2 dX3_hearShot_11 rfl rfl inX3 (by decide) kw_1_37 rfl rfl ?_
      refine y_iload_n (pc := 14) hC 0 dX3_hearShot_14 rfl ?_
      refine y_zald (pc := 15) hC 2 (j := j1) dX3_hearShot_15 (bI (me j1)) rfl (by omega) rfl rfl ?_
      refine y_bne (pc := 16) hC dX3_hearShot_16 44 (by decide) (fun c_2 => ?_) (fun c_2 => ?_)
      · refine y_iinc (pc := 44) hC 0 dX3_hearShot_44 (nI (j1 + 1)) [(2, .int (nI (j1 + 1))), (0, .ref a0), (1, .int p)] rfl (nI_inc _) rfl (by decide) ?_
        refine y_goto (pc := 47) hC dX3_hearShot_47 2 (by decide) ?_
        refine y_ws [(a0, .inr (3, [.ref a1, .ref a2, .ref a3, .ref a4, .ref a5, .ref a6, .ref a7, .int (nI n)])), (a1, aI d 10 pl), (a3, aZ d 10 me), (a6, aI d 10 (yi (j1 + 1) (hearS pl me p) su))] (by simp only [yi, hearS, c_2, ↓reduceIte, cond_true, cond_false]) ?_
        exact ihj1 (j1 + 1) (by omega)
      · refine y_aload_n (pc := 19) hC 1 dX3_hearShot_19 rfl ?_
        refine y_get (pc := 20) hC 0 0 dX3_hearShot_20 rfl rfl inX3 (by decide) kw_1_35 rfl rfl ?_
        refine y_iload_n (pc := 23) hC 0 dX3_hearShot_23 rfl ?_
        refine y_iald (pc := 24) hC 1 (j := j1) dX3_hearShot_24 (pl j1) rfl (by omega) rfl rfl ?_
        refine y_iload_n (pc := 25) hC 2 dX3_hearShot_25 rfl ?_
        refine y_isub (pc := 26) hC dX3_hearShot_26 ((pl j1) - p) rfl ?_
        refine y_abs (pc := 27) hC dX3_hearShot_27 kw_2_103 kw_1_233 kw_1_13 kw_1_234 ⟨nb rfl, nb rfl, nb rfl, nb rfl⟩ ?_
        refine y_iconst (pc := 30) hC dX3_hearShot_30 2 (by decide) ?_
        refine y_cmp_gt (pc := 31) hC dX3_hearShot_31 44 (by decide) (fun c_3 => ?_) (fun c_3 => ?_)
        · refine y_iinc (pc := 44) hC 0 dX3_hearShot_44 (nI (j1 + 1)) [(2, .int (nI (j1 + 1))), (0, .ref a0), (1, .int p)] rfl (nI_inc _) rfl (by decide) ?_
          refine y_goto (pc := 47) hC dX3_hearShot_47 2 (by decide) ?_
          refine y_ws [(a0, .inr (3, [.ref a1, .ref a2, .ref a3, .ref a4, .ref a5, .ref a6, .ref a7, .int (nI n)])), (a1, aI d 10 pl), (a3, aZ d 10 me), (a6, aI d 10 (yi (j1 + 1) (hearS pl me p) su))] (by simp only [yi, hearS, c_2, c_3, ↓reduceIte, cond_true, cond_false]) ?_
          exact ihj1 (j1 + 1) (by omega)
        · refine y_aload_n (pc := 34) hC 1 dX3_hearShot_34 rfl ?_
          refine y_get (pc := 35) hC 0 5 dX3_hearShot_35 rfl rfl inX3 (by decide) kw_1_40 rfl rfl ?_
          refine y_iload_n (pc := 38) hC 0 dX3_hearShot_38 rfl ?_
          refine y_dup2 (pc := 39) hC dX3_hearShot_39 rfl rfl ?_
          refine y_iald (pc := 40) hC 3 (j := j1) dX3_hearShot_40 ((yi j1 (hearS pl me p) su) j1) rfl (by omega) rfl rfl ?_
          refine y_iconst (pc := 41) hC dX3_hearShot_41 1 (by decide) ?_
          refine y_iadd (pc := 42) hC dX3_hearShot_42 (((yi j1 (hearS pl me p) su) j1) + 1) rfl ?_
          refine y_iast (pc := 43) hC 3 (j := j1) dX3_hearShot_43 (upd (yi j1 (hearS pl me p) su) j1 (((yi j1 (hearS pl me p) su) j1) + 1)) [(a0, .inr (3, [.ref a1, .ref a2, .ref a3, .ref a4, .ref a5, .ref a6, .ref a7, .int (nI n)])), (a1, aI d 10 pl), (a3, aZ d 10 me), (a6, aI d 10 (upd (yi j1 (hearS pl me p) su) j1 (((yi j1 (hearS pl me p) su) j1) + 1)))] rfl (by omega) rfl rfl rfl ?_
          refine y_iinc (pc := 44) hC 0 dX3_hearShot_44 (nI (j1 + 1)) [(2, .int (nI (j1 + 1))), (0, .ref a0), (1, .int p)] rfl (nI_inc _) rfl (by decide) ?_
          refine y_goto (pc := 47) hC dX3_hearShot_47 2 (by decide) ?_
          refine y_ws [(a0, .inr (3, [.ref a1, .ref a2, .ref a3, .ref a4, .ref a5, .ref a6, .ref a7, .int (nI n)])), (a1, aI d 10 pl), (a3, aZ d 10 me), (a6, aI d 10 (yi (j1 + 1) (hearS pl me p) su))] (by simp only [yi, hearS, c_2, c_3, ↓reduceIte, cond_true, cond_false]) ?_
          exact ihj1 (j1 + 1) (by omega)
  refine y_lv [(2, .int 0), (0, .ref a0), (1, .int p)] [0, 1, 2] rfl ?_
  exact lpj1 n 0 (by omega)
theorem n_X3_hearShot : yyN yX3_hearShot RX3 1 := by refine ⟨rfl, ?_, ?_, ?_⟩ <;> decide +kernel
set_option maxHeartbeats 4000000 in
set_option maxRecDepth 100000 in
/-- hail falls on the vineyards at a place -/
theorem c_X3_takeHail (l : Launch) (d : yyD) (a0 : Nat) (a1 : Nat) (a2 : Nat) (a3 : Nat) (a4 : Nat) (a5 : Nat) (a6 : Nat) (a7 : Nat) (pl : fI) (vi : fI) (lt : fI) (la : fI) (n : Nat) (hp : Int32) (hl : Int32) (hn : n ≤ 10) : yyV (S := Unit) l yX3_takeHail cX3_takeHail 5 { frames := 1, cells := 0, slots := 0, locals := 13 } d [.ref a0, .int hp, .int hl] [(a0, .inr (3, [.ref a1, .ref a2, .ref a3, .ref a4, .ref a5, .ref a6, .ref a7, .int (nI n)])), (a1, aI d 10 pl), (a2, aI d 10 vi), (a5, aI d 10 lt), (a7, aI d 10 la)] (fun _ => True) (fun _ => [(a0, .inr (3, [.ref a1, .ref a2, .ref a3, .ref a4, .ref a5, .ref a6, .ref a7, .int (nI n)])), (a1, aI d 10 pl), (a2, aI d 10 ((takeF pl hp hl n (vi, lt, la)).1)), (a5, aI d 10 ((takeF pl hp hl n (vi, lt, la)).2.1)), (a7, aI d 10 ((takeF pl hp hl n (vi, lt, la)).2.2))]) := by
  refine yyV_of (own := RX3) [(0, .ref a0), (1, .int hp), (2, .int hl)] (by decide +kernel) rfl (Nat.le_of_ble_eq_true rfl) rfl ?_
  intro G Q hQ hGL hC hGA hin
  refine y_iconst (pc := 0) hC dX3_takeHail_0 0 (by decide) ?_
  refine y_istore_n (pc := 1) hC dX3_takeHail_1 [(3, .int 0), (0, .ref a0), (1, .int hp), (2, .int hl)] rfl (by decide) ?_
  have lpj1 : ∀ r1 j1 : Nat, j1 + r1 = n → yyW d G 0 0 Q [(a0, .inr (3, [.ref a1, .ref a2, .ref a3, .ref a4, .ref a5, .ref a6, .ref a7, .int (nI n)])), (a1, aI d 10 pl), (a2, aI d 10 ((yi j1 (takeS pl hp hl) (vi, lt, la)).1)), (a5, aI d 10 ((yi j1 (takeS pl hp hl) (vi, lt, la)).2.1)), (a7, aI d 10 ((yi j1 (takeS pl hp hl) (vi, lt, la)).2.2))] [(3, .int (nI j1)), (0, .ref a0), (1, .int hp), (2, .int hl)] 2 [] := by
    intro r1
    induction r1 with
    | zero =>
      intro j1 hj1
      have ej1 : j1 = n := by omega
      rw [ej1]
      refine y_iload_n (pc := 2) hC 0 dX3_takeHail_2 rfl ?_
      refine y_aload_n (pc := 3) hC 1 dX3_takeHail_3 rfl ?_
      refine y_get (pc := 4) hC 0 7 dX3_takeHail_4 rfl rfl inX3 (by decide) kw_1_43 rfl rfl ?_
      refine y_ge_t (pc := 7) (a := n) (b := n) hC dX3_takeHail_7 73 (by decide) (by omega) (by omega) ?_
      exact y_vret (()) hC hQ (trivial) rfl (nb rfl) (nb rfl) dX3_takeHail_73
    | succ r1 ihj1 =>
      intro j1 hj1
      have lj1 : j1 < n := by omega
      refine y_iload_n (pc := 2) hC 0 dX3_takeHail_2 rfl ?_
      refine y_aload_n (pc := 3) hC 1 dX3_takeHail_3 rfl ?_
      refine y_get (pc := 4) hC 0 7 dX3_takeHail_4 rfl rfl inX3 (by decide) kw_1_43 rfl rfl ?_
      refine y_ge_f (pc := 7) (a := j1) (b := n) hC dX3_takeHail_7 73 (by decide) (by omega) (by omega) ?_
      refine y_aload_n (pc := 10) hC 1 dX3_takeHail_10 rfl ?_
      refine y_get (pc := 11) hC 0 0 dX3_takeHail_11 rfl rfl inX3 (by decide) kw_1_35 rfl rfl ?_
      refine y_iload_n (pc := 14) hC 0 dX3_takeHail_14 rfl ?_
      refine y_iald (pc := 15) hC 1 (j := j1) dX3_takeHail_15 (pl j1) rfl (by omega) rfl rfl ?_
      refine y_iload_n (pc := 16) hC 2 dX3_takeHail_16 rfl ?_
      refine y_cmp_ne (pc := 17) hC dX3_takeHail_17 67 (by decide) (fun c_2 => ?_) (fun c_2 => ?_)
      · refine y_iinc (pc := 67) hC 0 dX3_takeHail_67 (nI (j1 + 1)) [(3, .int (nI (j1 + 1))), (0, .ref a0), (1, .int hp), (2, .int hl)] rfl (nI_inc _) rfl (by decide) ?_
        refine y_goto (pc := 70) hC dX3_takeHail_70 2 (by decide) ?_
        refine y_ws [(a0, .inr (3, [.ref a1, .ref a2, .ref a3, .ref a4, .ref a5, .ref a6, .ref a7, .int (nI n)])), (a1, aI d 10 pl), (a2, aI d 10 ((yi (j1 + 1) (takeS pl hp hl) (vi, lt, la)).1)), (a5, aI d 10 ((yi (j1 + 1) (takeS pl hp hl) (vi, lt, la)).2.1)), (a7, aI d 10 ((yi (j1 + 1) (takeS pl hp hl) (vi, lt, la)).2.2))] (by simp only [yi, takeS, c_2, ↓reduceIte, cond_true, cond_false]) ?_
        exact ihj1 (j1 + 1) (by omega)
      · refine y_iconst (pc := 20) hC dX3_takeHail_20 2 (by decide) ?_
        refine y_iload_n (pc := 21) hC 3 dX3_takeHail_21 rfl ?_
        refine y_imul (pc := 22) hC dX3_takeHail_22 (2 * hl) rfl ?_
        refine y_aload_n (pc := 23) hC 1 dX3_takeHail_23 rfl ?_
        refine y_get (pc := 24) hC 0 1 dX3_takeHail_24 rfl rfl inX3 (by decide) kw_1_36 rfl rfl ?_
        refine y_iload_n (pc := 27) hC 0 dX3_takeHail_27 rfl ?_
        refine y_iald (pc := 28) hC 2 (j := j1) dX3_takeHail_28 (((yi j1 (takeS pl hp hl) (vi, lt, la)).1) j1) rfl (by omega) rfl rfl ?_
        refine y_min (pc := 29) hC dX3_takeHail_29 kw_2_115 kw_2_109 kw_1_13 kw_2_110 ⟨nb rfl, nb rfl, nb rfl, nb rfl⟩ ?_
        refine y_istore (pc := 32) hC dX3_takeHail_32 [(4, .int (mn (2 * hl) (((yi j1 (takeS pl hp hl) (vi, lt, la)).1) j1))), (3, .int (nI j1)), (0, .ref a0), (1, .int hp), (2, .int hl)] rfl (by decide) ?_
        refine y_aload_n (pc := 34) hC 2 dX3_takeHail_34 rfl ?_
        refine y_get (pc := 35) hC 0 1 dX3_takeHail_35 rfl rfl inX3 (by decide) kw_1_36 rfl rfl ?_
        refine y_iload_n (pc := 38) hC 1 dX3_takeHail_38 rfl ?_
        refine y_dup2 (pc := 39) hC dX3_takeHail_39 rfl rfl ?_
        refine y_iald (pc := 40) hC 2 (j := j1) dX3_takeHail_40 (((yi j1 (takeS pl hp hl) (vi, lt, la)).1) j1) rfl (by omega) rfl rfl ?_
        refine y_iload (pc := 41) hC 0 dX3_takeHail_41 rfl ?_
        refine y_isub (pc := 43) hC dX3_takeHail_43 ((((yi j1 (takeS pl hp hl) (vi, lt, la)).1) j1) - (mn (2 * hl) (((yi j1 (takeS pl hp hl) (vi, lt, la)).1) j1))) rfl ?_
        refine y_iast (pc := 44) hC 2 (j := j1) dX3_takeHail_44 (upd ((yi j1 (takeS pl hp hl) (vi, lt, la)).1) j1 ((((yi j1 (takeS pl hp hl) (vi, lt, la)).1) j1) - (mn (2 * hl) (((yi j1 (takeS pl hp hl) (vi, lt, la)).1) j1)))) [(a0, .inr (3, [.ref a1, .ref a2, .ref a3, .ref a4, .ref a5, .ref a6, .ref a7, .int (nI n)])), (a1, aI d 10 pl), (a2, aI d 10 (upd ((yi j1 (takeS pl hp hl) (vi, lt, la)).1) j1 ((((yi j1 (takeS pl hp hl) (vi, lt, la)).1) j1) - (mn (2 * hl) (((yi j1 (takeS pl hp hl) (vi, lt, la)).1) j1))))), (a5, aI d 10 ((yi j1 (takeS pl hp hl) (vi, lt, la)).2.1)), (a7, aI d 10 ((yi j1 (takeS pl hp hl) (vi, lt, la)).2.2))] rfl (by omega) rfl rfl rfl ?_
        refine y_aload_n (pc := 45) hC 2 dX3_takeHail_45 rfl ?_
        refine y_get (pc := 46) hC 0 4 dX3_takeHail_46 rfl rfl inX3 (by decide) kw_1_39 rfl rfl ?_
        refine y_iload_n (pc := 49) hC 1 dX3_takeHail_49 rfl ?_
        refine y_dup2 (pc := 50) hC dX3_takeHail_50 rfl rfl ?_
        refine y_iald (pc := 51) hC 3 (j := j1) dX3_takeHail_51 (((yi j1 (takeS pl hp hl) (vi, lt, la)).2.1) j1) rfl (by omega) rfl rfl ?_
        refine y_iload (pc := 52) hC 0 dX3_takeHail_52 rfl ?_
        refine y_iadd (pc := 54) hC dX3_takeHail_54 ((((yi j1 (takeS pl hp hl) (vi, lt, la)).2.1) j1) + (mn (2 * hl) (((yi j1 (takeS pl hp hl) (vi, lt, la)).1) j1))) rfl ?_
        refine y_iast (pc := 55) hC 3 (j := j1) dX3_takeHail_55 (upd ((yi j1 (takeS pl hp hl) (vi, lt, la)).2.1) j1 ((((yi j1 (takeS pl hp hl) (vi, lt, la)).2.1) j1) + (mn (2 * hl) (((yi j1 (takeS pl hp hl) (vi, lt, la)).1) j1)))) [(a0, .inr (3, [.ref a1, .ref a2, .ref a3, .ref a4, .ref a5, .ref a6, .ref a7, .int (nI n)])), (a1, aI d 10 pl), (a2, aI d 10 (upd ((yi j1 (takeS pl hp hl) (vi, lt, la)).1) j1 ((((yi j1 (takeS pl hp hl) (vi, lt, la)).1) j1) - (mn (2 * hl) (((yi j1 (takeS pl hp hl) (vi, lt, la)).1) j1))))), (a5, aI d 10 (upd ((yi j1 (takeS pl hp hl) (vi, lt, la)).2.1) j1 ((((yi j1 (takeS pl hp hl) (vi, lt, la)).2.1) j1) + (mn (2 * hl) (((yi j1 (takeS pl hp hl) (vi, lt, la)).1) j1))))), (a7, aI d 10 ((yi j1 (takeS pl hp hl) (vi, lt, la)).2.2))] rfl (by omega) rfl rfl rfl ?_
        refine y_aload_n (pc := 56) hC 2 dX3_takeHail_56 rfl ?_
        refine y_get (pc := 57) hC 0 6 dX3_takeHail_57 rfl rfl inX3 (by decide) kw_1_41 rfl rfl ?_
        refine y_iload_n (pc := 60) hC 1 dX3_takeHail_60 rfl ?_
        refine y_dup2 (pc := 61) hC dX3_takeHail_61 rfl rfl ?_
        refine y_iald (pc := 62) hC 4 (j := j1) dX3_takeHail_62 (((yi j1 (takeS pl hp hl) (vi, lt, la)).2.2) j1) rfl (by omega) rfl rfl ?_
        refine y_iload (pc := 63) hC 0 dX3_takeHail_63 rfl ?_
        refine y_iadd (pc := 65) hC dX3_takeHail_65 ((((yi j1 (takeS pl hp hl) (vi, lt, la)).2.2) j1) + (mn (2 * hl) (((yi j1 (takeS pl hp hl) (vi, lt, la)).1) j1))) rfl ?_
        refine y_iast (pc := 66) hC 4 (j := j1) dX3_takeHail_66 (upd ((yi j1 (takeS pl hp hl) (vi, lt, la)).2.2) j1 ((((yi j1 (takeS pl hp hl) (vi, lt, la)).2.2) j1) + (mn (2 * hl) (((yi j1 (takeS pl hp hl) (vi, lt, la)).1) j1)))) [(a0, .inr (3, [.ref a1, .ref a2, .ref a3, .ref a4, .ref a5, .ref a6, .ref a7, .int (nI n)])), (a1, aI d 10 pl), (a2, aI d 10 (upd ((yi j1 (takeS pl hp hl) (vi, lt, la)).1) j1 ((((yi j1 (takeS pl hp hl) (vi, lt, la)).1) j1) - (mn (2 * hl) (((yi j1 (takeS pl hp hl) (vi, lt, la)).1) j1))))), (a5, aI d 10 (upd ((yi j1 (takeS pl hp hl) (vi, lt, la)).2.1) j1 ((((yi j1 (takeS pl hp hl) (vi, lt, la)).2.1) j1) + (mn (2 * hl) (((yi j1 (takeS pl hp hl) (vi, lt, la)).1) j1))))), (a7, aI d 10 (upd ((yi j1 (takeS pl hp hl) (vi, lt, la)).2.2) j1 ((((yi j1 (takeS pl hp hl) (vi, lt, la)).2.2) j1) + (mn (2 * hl) (((yi j1 (takeS pl hp hl) (vi, lt, la)).1) j1)))))] rfl (by omega) rfl rfl rfl ?_
        refine y_iinc (pc := 67) hC 1 dX3_takeHail_67 (nI (j1 + 1)) [(3, .int (nI (j1 + 1))), (4, .int (mn (2 * hl) (((yi j1 (takeS pl hp hl) (vi, lt, la)).1) j1))), (0, .ref a0), (1, .int hp), (2, .int hl)] rfl (nI_inc _) rfl (by decide) ?_
        refine y_goto (pc := 70) hC dX3_takeHail_70 2 (by decide) ?_
        refine y_lv [(3, .int (nI (j1 + 1))), (0, .ref a0), (1, .int hp), (2, .int hl)] [0, 2, 3, 4] rfl ?_
        refine y_ws [(a0, .inr (3, [.ref a1, .ref a2, .ref a3, .ref a4, .ref a5, .ref a6, .ref a7, .int (nI n)])), (a1, aI d 10 pl), (a2, aI d 10 ((yi (j1 + 1) (takeS pl hp hl) (vi, lt, la)).1)), (a5, aI d 10 ((yi (j1 + 1) (takeS pl hp hl) (vi, lt, la)).2.1)), (a7, aI d 10 ((yi (j1 + 1) (takeS pl hp hl) (vi, lt, la)).2.2))] (by simp only [yi, takeS, c_2, ↓reduceIte, cond_true, cond_false]) ?_
        exact ihj1 (j1 + 1) (by omega)
  refine y_lv [(3, .int 0), (0, .ref a0), (1, .int hp), (2, .int hl)] [0, 1, 2, 3] rfl ?_
  exact lpj1 n 0 (by omega)
theorem n_X3_takeHail : yyN yX3_takeHail RX3 2 := by refine ⟨rfl, ?_, ?_, ?_⟩ <;> decide +kernel
set_option maxHeartbeats 4000000 in
set_option maxRecDepth 100000 in
/-- the day ends -/
theorem c_X3_closeDay (l : Launch) (d : yyD) (a0 : Nat) (a1 : Nat) (a2 : Nat) (a3 : Nat) (a4 : Nat) (a5 : Nat) (a6 : Nat) (a7 : Nat) (vi : fI) (ins : fB) (lt : fI) (su : fI) (n : Nat) (hn : n ≤ 10) : yyI l yX3_closeDay cX3_closeDay 3 (some .int) { frames := 0, cells := 0, slots := 0, locals := 0 } d [.ref a0] [(a0, .inr (3, [.ref a1, .ref a2, .ref a3, .ref a4, .ref a5, .ref a6, .ref a7, .int (nI n)])), (a2, aI d 10 vi), (a4, aZ d 10 ins), (a5, aI d 10 lt), (a6, aI d 10 su)] [(a0, .inr (3, [.ref a1, .ref a2, .ref a3, .ref a4, .ref a5, .ref a6, .ref a7, .int (nI n)])), (a2, aI d 10 ((closeF ins n (0, vi, lt, su)).2.1)), (a4, aZ d 10 ins), (a5, aI d 10 ((closeF ins n (0, vi, lt, su)).2.2.1)), (a6, aI d 10 ((closeF ins n (0, vi, lt, su)).2.2.2))] ((closeF ins n (0, vi, lt, su)).1) := by
  refine yyI_of (own := RX3) [(0, .ref a0)] (by decide +kernel) rfl (Nat.le_of_ble_eq_true rfl) rfl ?_
  intro G Q hQ hGL hC hGA
  refine y_iconst (pc := 0) hC dX3_closeDay_0 0 (by decide) ?_
  refine y_istore_n (pc := 1) hC dX3_closeDay_1 [(1, .int 0), (0, .ref a0)] rfl (by decide) ?_
  refine y_iconst (pc := 2) hC dX3_closeDay_2 0 (by decide) ?_
  refine y_istore_n (pc := 3) hC dX3_closeDay_3 [(2, .int 0), (1, .int 0), (0, .ref a0)] rfl (by decide) ?_
  have lpj1 : ∀ r1 j1 : Nat, j1 + r1 = n → yyW d G 0 0 Q [(a0, .inr (3, [.ref a1, .ref a2, .ref a3, .ref a4, .ref a5, .ref a6, .ref a7, .int (nI n)])), (a2, aI d 10 ((yi j1 (closeS ins) (0, vi, lt, su)).2.1)), (a4, aZ d 10 ins), (a5, aI d 10 ((yi j1 (closeS ins) (0, vi, lt, su)).2.2.1)), (a6, aI d 10 ((yi j1 (closeS ins) (0, vi, lt, su)).2.2.2))] [(2, .int (nI j1)), (1, .int ((yi j1 (closeS ins) (0, vi, lt, su)).1)), (0, .ref a0)] 4 [] := by
    intro r1
    induction r1 with
    | zero =>
      intro j1 hj1
      have ej1 : j1 = n := by omega
      rw [ej1]
      refine y_iload_n (pc := 4) hC 0 dX3_closeDay_4 rfl ?_
      refine y_aload_n (pc := 5) hC 2 dX3_closeDay_5 rfl ?_
      refine y_get (pc := 6) hC 0 7 dX3_closeDay_6 rfl rfl inX3 (by decide) kw_1_43 rfl rfl ?_
      refine y_ge_t (pc := 9) (a := n) (b := n) hC dX3_closeDay_9 94 (by decide) (by omega) (by omega) ?_
      refine y_iload_n (pc := 94) hC 1 dX3_closeDay_94 rfl ?_
      exact y_iret hC hQ rfl rfl rfl (nb rfl) (nb rfl) dX3_closeDay_95
    | succ r1 ihj1 =>
      intro j1 hj1
      have lj1 : j1 < n := by omega
      refine y_iload_n (pc := 4) hC 0 dX3_closeDay_4 rfl ?_
      refine y_aload_n (pc := 5) hC 2 dX3_closeDay_5 rfl ?_
      refine y_get (pc := 6) hC 0 7 dX3_closeDay_6 rfl rfl inX3 (by decide) kw_1_43 rfl rfl ?_
      refine y_ge_f (pc := 9) (a := j1) (b := n) hC dX3_closeDay_9 94 (by decide) (by omega) (by omega) ?_
      refine y_aload_n (pc := 12) hC 2 dX3_closeDay_12 rfl ?_
      refine y_get (pc := 13) hC 0 3 dX3_closeDay_13 rfl rfl inX3 (by decide) kw_1_38 rfl rfl ?_
      refine y_iload_n (pc := 16) hC 0 dX3_closeDay_16 rfl ?_
      refine y_zald (pc := 17) hC 2 (j := j1) dX3_closeDay_17 (bI (ins j1)) rfl (by omega) rfl rfl ?_
      refine y_beq (pc := 18) hC dX3_closeDay_18 34 (by decide) (fun c_2 => ?_) (fun c_2 => ?_)
      · refine y_iload_n (pc := 34) hC 1 dX3_closeDay_34 rfl ?_
        refine y_aload_n (pc := 35) hC 2 dX3_closeDay_35 rfl ?_
        refine y_get (pc := 36) hC 0 5 dX3_closeDay_36 rfl rfl inX3 (by decide) kw_1_40 rfl rfl ?_
        refine y_iload_n (pc := 39) hC 0 dX3_closeDay_39 rfl ?_
        refine y_iald (pc := 40) hC 4 (j := j1) dX3_closeDay_40 (((yi j1 (closeS ins) (0, vi, lt, su)).2.2.2) j1) rfl (by omega) rfl rfl ?_
        refine y_isub (pc := 41) hC dX3_closeDay_41 (((yi j1 (closeS ins) (0, vi, lt, su)).1) - (((yi j1 (closeS ins) (0, vi, lt, su)).2.2.2) j1)) rfl ?_
        refine y_istore_n (pc := 42) hC dX3_closeDay_42 [(1, .int (((yi j1 (closeS ins) (0, vi, lt, su)).1) - (((yi j1 (closeS ins) (0, vi, lt, su)).2.2.2) j1))), (2, .int (nI j1)), (0, .ref a0)] rfl (by decide) ?_
        refine y_aload_n (pc := 43) hC 2 dX3_closeDay_43 rfl ?_
        refine y_get (pc := 44) hC 0 4 dX3_closeDay_44 rfl rfl inX3 (by decide) kw_1_39 rfl rfl ?_
        refine y_iload_n (pc := 47) hC 1 dX3_closeDay_47 rfl ?_
        refine y_iconst (pc := 48) hC dX3_closeDay_48 0 (by decide) ?_
        refine y_iast (pc := 49) hC 3 (j := j1) dX3_closeDay_49 (upd ((yi j1 (closeS ins) (0, vi, lt, su)).2.2.1) j1 0) [(a0, .inr (3, [.ref a1, .ref a2, .ref a3, .ref a4, .ref a5, .ref a6, .ref a7, .int (nI n)])), (a2, aI d 10 ((yi j1 (closeS ins) (0, vi, lt, su)).2.1)), (a4, aZ d 10 ins), (a5, aI d 10 (upd ((yi j1 (closeS ins) (0, vi, lt, su)).2.2.1) j1 0)), (a6, aI d 10 ((yi j1 (closeS ins) (0, vi, lt, su)).2.2.2))] rfl (by omega) rfl rfl rfl ?_
        refine y_aload_n (pc := 50) hC 2 dX3_closeDay_50 rfl ?_
        refine y_get (pc := 51) hC 0 5 dX3_closeDay_51 rfl rfl inX3 (by decide) kw_1_40 rfl rfl ?_
        refine y_iload_n (pc := 54) hC 1 dX3_closeDay_54 rfl ?_
        refine y_iconst (pc := 55) hC dX3_closeDay_55 0 (by decide) ?_
        refine y_iast (pc := 56) hC 4 (j := j1) dX3_closeDay_56 (upd ((yi j1 (closeS ins) (0, vi, lt, su)).2.2.2) j1 0) [(a0, .inr (3, [.ref a1, .ref a2, .ref a3, .ref a4, .ref a5, .ref a6, .ref a7, .int (nI n)])), (a2, aI d 10 ((yi j1 (closeS ins) (0, vi, lt, su)).2.1)), (a4, aZ d 10 ins), (a5, aI d 10 (upd ((yi j1 (closeS ins) (0, vi, lt, su)).2.2.1) j1 0)), (a6, aI d 10 (upd ((yi j1 (closeS ins) (0, vi, lt, su)).2.2.2) j1 0))] rfl (by omega) rfl rfl rfl ?_
        refine y_aload_n (pc := 57) hC 2 dX3_closeDay_57 rfl ?_
        refine y_get (pc := 58) hC 0 1 dX3_closeDay_58 rfl rfl inX3 (by decide) kw_1_36 rfl rfl ?_
        refine y_iload_n (pc := 61) hC 1 dX3_closeDay_61 rfl ?_
        refine y_iald (pc := 62) hC 1 (j := j1) dX3_closeDay_62 (((yi j1 (closeS ins) (0, vi, lt, su)).2.1) j1) rfl (by omega) rfl rfl ?_
        refine y_iconst (pc := 63) hC dX3_closeDay_63 1 (by decide) ?_
        refine y_cmp_lt (pc := 64) hC dX3_closeDay_64 88 (by decide) (fun c_3 => ?_) (fun c_3 => ?_)
        · refine y_iinc (pc := 88) hC 1 dX3_closeDay_88 (nI (j1 + 1)) [(2, .int (nI (j1 + 1))), (1, .int (((yi j1 (closeS ins) (0, vi, lt, su)).1) - (((yi j1 (closeS ins) (0, vi, lt, su)).2.2.2) j1))), (0, .ref a0)] rfl (nI_inc _) rfl (by decide) ?_
          refine y_goto (pc := 91) hC dX3_closeDay_91 4 (by decide) ?_
          refine y_ws [(a0, .inr (3, [.ref a1, .ref a2, .ref a3, .ref a4, .ref a5, .ref a6, .ref a7, .int (nI n)])), (a2, aI d 10 ((yi (j1 + 1) (closeS ins) (0, vi, lt, su)).2.1)), (a4, aZ d 10 ins), (a5, aI d 10 ((yi (j1 + 1) (closeS ins) (0, vi, lt, su)).2.2.1)), (a6, aI d 10 ((yi (j1 + 1) (closeS ins) (0, vi, lt, su)).2.2.2))] (by simp only [yi, closeS, c_2, c_3, ↓reduceIte, cond_true, cond_false]) ?_
          refine y_lve [(2, .int (nI (j1 + 1))), (1, .int ((yi (j1 + 1) (closeS ins) (0, vi, lt, su)).1)), (0, .ref a0)] (by simp only [yi, closeS, c_2, c_3, ↓reduceIte, cond_true, cond_false]) ?_
          exact ihj1 (j1 + 1) (by omega)
        · refine y_aload_n (pc := 67) hC 2 dX3_closeDay_67 rfl ?_
          refine y_get (pc := 68) hC 0 1 dX3_closeDay_68 rfl rfl inX3 (by decide) kw_1_36 rfl rfl ?_
          refine y_iload_n (pc := 71) hC 1 dX3_closeDay_71 rfl ?_
          refine y_iald (pc := 72) hC 1 (j := j1) dX3_closeDay_72 (((yi j1 (closeS ins) (0, vi, lt, su)).2.1) j1) rfl (by omega) rfl rfl ?_
          refine y_bipush (pc := 73) hC dX3_closeDay_73 99 (by decide) ?_
          refine y_cmp_ge (pc := 75) hC dX3_closeDay_75 88 (by decide) (fun c_4 => ?_) (fun c_4 => ?_)
          · refine y_iinc (pc := 88) hC 1 dX3_closeDay_88 (nI (j1 + 1)) [(2, .int (nI (j1 + 1))), (1, .int (((yi j1 (closeS ins) (0, vi, lt, su)).1) - (((yi j1 (closeS ins) (0, vi, lt, su)).2.2.2) j1))), (0, .ref a0)] rfl (nI_inc _) rfl (by decide) ?_
            refine y_goto (pc := 91) hC dX3_closeDay_91 4 (by decide) ?_
            refine y_ws [(a0, .inr (3, [.ref a1, .ref a2, .ref a3, .ref a4, .ref a5, .ref a6, .ref a7, .int (nI n)])), (a2, aI d 10 ((yi (j1 + 1) (closeS ins) (0, vi, lt, su)).2.1)), (a4, aZ d 10 ins), (a5, aI d 10 ((yi (j1 + 1) (closeS ins) (0, vi, lt, su)).2.2.1)), (a6, aI d 10 ((yi (j1 + 1) (closeS ins) (0, vi, lt, su)).2.2.2))] (by simp only [yi, closeS, c_2, c_3, c_4, ↓reduceIte, cond_true, cond_false]) ?_
            refine y_lve [(2, .int (nI (j1 + 1))), (1, .int ((yi (j1 + 1) (closeS ins) (0, vi, lt, su)).1)), (0, .ref a0)] (by simp only [yi, closeS, c_2, c_3, c_4, ↓reduceIte, cond_true, cond_false]) ?_
            exact ihj1 (j1 + 1) (by omega)
          · refine y_aload_n (pc := 78) hC 2 dX3_closeDay_78 rfl ?_
            refine y_get (pc := 79) hC 0 1 dX3_closeDay_79 rfl rfl inX3 (by decide) kw_1_36 rfl rfl ?_
            refine y_iload_n (pc := 82) hC 1 dX3_closeDay_82 rfl ?_
            refine y_dup2 (pc := 83) hC dX3_closeDay_83 rfl rfl ?_
            refine y_iald (pc := 84) hC 1 (j := j1) dX3_closeDay_84 (((yi j1 (closeS ins) (0, vi, lt, su)).2.1) j1) rfl (by omega) rfl rfl ?_
            refine y_iconst (pc := 85) hC dX3_closeDay_85 1 (by decide) ?_
            refine y_iadd (pc := 86) hC dX3_closeDay_86 ((((yi j1 (closeS ins) (0, vi, lt, su)).2.1) j1) + 1) rfl ?_
            refine y_iast (pc := 87) hC 1 (j := j1) dX3_closeDay_87 (upd ((yi j1 (closeS ins) (0, vi, lt, su)).2.1) j1 ((((yi j1 (closeS ins) (0, vi, lt, su)).2.1) j1) + 1)) [(a0, .inr (3, [.ref a1, .ref a2, .ref a3, .ref a4, .ref a5, .ref a6, .ref a7, .int (nI n)])), (a2, aI d 10 (upd ((yi j1 (closeS ins) (0, vi, lt, su)).2.1) j1 ((((yi j1 (closeS ins) (0, vi, lt, su)).2.1) j1) + 1))), (a4, aZ d 10 ins), (a5, aI d 10 (upd ((yi j1 (closeS ins) (0, vi, lt, su)).2.2.1) j1 0)), (a6, aI d 10 (upd ((yi j1 (closeS ins) (0, vi, lt, su)).2.2.2) j1 0))] rfl (by omega) rfl rfl rfl ?_
            refine y_iinc (pc := 88) hC 1 dX3_closeDay_88 (nI (j1 + 1)) [(2, .int (nI (j1 + 1))), (1, .int (((yi j1 (closeS ins) (0, vi, lt, su)).1) - (((yi j1 (closeS ins) (0, vi, lt, su)).2.2.2) j1))), (0, .ref a0)] rfl (nI_inc _) rfl (by decide) ?_
            refine y_goto (pc := 91) hC dX3_closeDay_91 4 (by decide) ?_
            refine y_ws [(a0, .inr (3, [.ref a1, .ref a2, .ref a3, .ref a4, .ref a5, .ref a6, .ref a7, .int (nI n)])), (a2, aI d 10 ((yi (j1 + 1) (closeS ins) (0, vi, lt, su)).2.1)), (a4, aZ d 10 ins), (a5, aI d 10 ((yi (j1 + 1) (closeS ins) (0, vi, lt, su)).2.2.1)), (a6, aI d 10 ((yi (j1 + 1) (closeS ins) (0, vi, lt, su)).2.2.2))] (by simp only [yi, closeS, c_2, c_3, c_4, ↓reduceIte, cond_true, cond_false]) ?_
            refine y_lve [(2, .int (nI (j1 + 1))), (1, .int ((yi (j1 + 1) (closeS ins) (0, vi, lt, su)).1)), (0, .ref a0)] (by simp only [yi, closeS, c_2, c_3, c_4, ↓reduceIte, cond_true, cond_false]) ?_
            exact ihj1 (j1 + 1) (by omega)
      · refine y_iload_n (pc := 21) hC 1 dX3_closeDay_21 rfl ?_
        refine y_iconst (pc := 22) hC dX3_closeDay_22 1 (by decide) ?_
        refine y_aload_n (pc := 23) hC 2 dX3_closeDay_23 rfl ?_
        refine y_get (pc := 24) hC 0 4 dX3_closeDay_24 rfl rfl inX3 (by decide) kw_1_39 rfl rfl ?_
        refine y_iload_n (pc := 27) hC 0 dX3_closeDay_27 rfl ?_
        refine y_iald (pc := 28) hC 3 (j := j1) dX3_closeDay_28 (((yi j1 (closeS ins) (0, vi, lt, su)).2.2.1) j1) rfl (by omega) rfl rfl ?_
        refine y_iconst (pc := 29) hC dX3_closeDay_29 2 (by decide) ?_
        refine y_idiv (pc := 30) hC dX3_closeDay_30 ((((yi j1 (closeS ins) (0, vi, lt, su)).2.2.1) j1) / 2) rfl (by decide) ?_
        refine y_isub (pc := 31) hC dX3_closeDay_31 (1 - ((((yi j1 (closeS ins) (0, vi, lt, su)).2.2.1) j1) / 2)) rfl ?_
        refine y_iadd (pc := 32) hC dX3_closeDay_32 (((yi j1 (closeS ins) (0, vi, lt, su)).1) + (1 - ((((yi j1 (closeS ins) (0, vi, lt, su)).2.2.1) j1) / 2))) rfl ?_
        refine y_istore_n (pc := 33) hC dX3_closeDay_33 [(1, .int (((yi j1 (closeS ins) (0, vi, lt, su)).1) + (1 - ((((yi j1 (closeS ins) (0, vi, lt, su)).2.2.1) j1) / 2)))), (2, .int (nI j1)), (0, .ref a0)] rfl (by decide) ?_
        refine y_iload_n (pc := 34) hC 0 dX3_closeDay_34 rfl ?_
        refine y_aload_n (pc := 35) hC 2 dX3_closeDay_35 rfl ?_
        refine y_get (pc := 36) hC 0 5 dX3_closeDay_36 rfl rfl inX3 (by decide) kw_1_40 rfl rfl ?_
        refine y_iload_n (pc := 39) hC 1 dX3_closeDay_39 rfl ?_
        refine y_iald (pc := 40) hC 4 (j := j1) dX3_closeDay_40 (((yi j1 (closeS ins) (0, vi, lt, su)).2.2.2) j1) rfl (by omega) rfl rfl ?_
        refine y_isub (pc := 41) hC dX3_closeDay_41 ((((yi j1 (closeS ins) (0, vi, lt, su)).1) + (1 - ((((yi j1 (closeS ins) (0, vi, lt, su)).2.2.1) j1) / 2))) - (((yi j1 (closeS ins) (0, vi, lt, su)).2.2.2) j1)) rfl ?_
        refine y_istore_n (pc := 42) hC dX3_closeDay_42 [(1, .int ((((yi j1 (closeS ins) (0, vi, lt, su)).1) + (1 - ((((yi j1 (closeS ins) (0, vi, lt, su)).2.2.1) j1) / 2))) - (((yi j1 (closeS ins) (0, vi, lt, su)).2.2.2) j1))), (2, .int (nI j1)), (0, .ref a0)] rfl (by decide) ?_
        refine y_aload_n (pc := 43) hC 2 dX3_closeDay_43 rfl ?_
        refine y_get (pc := 44) hC 0 4 dX3_closeDay_44 rfl rfl inX3 (by decide) kw_1_39 rfl rfl ?_
        refine y_iload_n (pc := 47) hC 1 dX3_closeDay_47 rfl ?_
        refine y_iconst (pc := 48) hC dX3_closeDay_48 0 (by decide) ?_
        refine y_iast (pc := 49) hC 3 (j := j1) dX3_closeDay_49 (upd ((yi j1 (closeS ins) (0, vi, lt, su)).2.2.1) j1 0) [(a0, .inr (3, [.ref a1, .ref a2, .ref a3, .ref a4, .ref a5, .ref a6, .ref a7, .int (nI n)])), (a2, aI d 10 ((yi j1 (closeS ins) (0, vi, lt, su)).2.1)), (a4, aZ d 10 ins), (a5, aI d 10 (upd ((yi j1 (closeS ins) (0, vi, lt, su)).2.2.1) j1 0)), (a6, aI d 10 ((yi j1 (closeS ins) (0, vi, lt, su)).2.2.2))] rfl (by omega) rfl rfl rfl ?_
        refine y_aload_n (pc := 50) hC 2 dX3_closeDay_50 rfl ?_
        refine y_get (pc := 51) hC 0 5 dX3_closeDay_51 rfl rfl inX3 (by decide) kw_1_40 rfl rfl ?_
        refine y_iload_n (pc := 54) hC 1 dX3_closeDay_54 rfl ?_
        refine y_iconst (pc := 55) hC dX3_closeDay_55 0 (by decide) ?_
        refine y_iast (pc := 56) hC 4 (j := j1) dX3_closeDay_56 (upd ((yi j1 (closeS ins) (0, vi, lt, su)).2.2.2) j1 0) [(a0, .inr (3, [.ref a1, .ref a2, .ref a3, .ref a4, .ref a5, .ref a6, .ref a7, .int (nI n)])), (a2, aI d 10 ((yi j1 (closeS ins) (0, vi, lt, su)).2.1)), (a4, aZ d 10 ins), (a5, aI d 10 (upd ((yi j1 (closeS ins) (0, vi, lt, su)).2.2.1) j1 0)), (a6, aI d 10 (upd ((yi j1 (closeS ins) (0, vi, lt, su)).2.2.2) j1 0))] rfl (by omega) rfl rfl rfl ?_
        refine y_aload_n (pc := 57) hC 2 dX3_closeDay_57 rfl ?_
        refine y_get (pc := 58) hC 0 1 dX3_closeDay_58 rfl rfl inX3 (by decide) kw_1_36 rfl rfl ?_
        refine y_iload_n (pc := 61) hC 1 dX3_closeDay_61 rfl ?_
        refine y_iald (pc := 62) hC 1 (j := j1) dX3_closeDay_62 (((yi j1 (closeS ins) (0, vi, lt, su)).2.1) j1) rfl (by omega) rfl rfl ?_
        refine y_iconst (pc := 63) hC dX3_closeDay_63 1 (by decide) ?_
        refine y_cmp_lt (pc := 64) hC dX3_closeDay_64 88 (by decide) (fun c_5 => ?_) (fun c_5 => ?_)
        · refine y_iinc (pc := 88) hC 1 dX3_closeDay_88 (nI (j1 + 1)) [(2, .int (nI (j1 + 1))), (1, .int ((((yi j1 (closeS ins) (0, vi, lt, su)).1) + (1 - ((((yi j1 (closeS ins) (0, vi, lt, su)).2.2.1) j1) / 2))) - (((yi j1 (closeS ins) (0, vi, lt, su)).2.2.2) j1))), (0, .ref a0)] rfl (nI_inc _) rfl (by decide) ?_
          refine y_goto (pc := 91) hC dX3_closeDay_91 4 (by decide) ?_
          refine y_ws [(a0, .inr (3, [.ref a1, .ref a2, .ref a3, .ref a4, .ref a5, .ref a6, .ref a7, .int (nI n)])), (a2, aI d 10 ((yi (j1 + 1) (closeS ins) (0, vi, lt, su)).2.1)), (a4, aZ d 10 ins), (a5, aI d 10 ((yi (j1 + 1) (closeS ins) (0, vi, lt, su)).2.2.1)), (a6, aI d 10 ((yi (j1 + 1) (closeS ins) (0, vi, lt, su)).2.2.2))] (by simp only [yi, closeS, c_2, c_5, ↓reduceIte, cond_true, cond_false]) ?_
          refine y_lve [(2, .int (nI (j1 + 1))), (1, .int ((yi (j1 + 1) (closeS ins) (0, vi, lt, su)).1)), (0, .ref a0)] (by simp only [yi, closeS, c_2, c_5, ↓reduceIte, cond_true, cond_false]) ?_
          exact ihj1 (j1 + 1) (by omega)
        · refine y_aload_n (pc := 67) hC 2 dX3_closeDay_67 rfl ?_
          refine y_get (pc := 68) hC 0 1 dX3_closeDay_68 rfl rfl inX3 (by decide) kw_1_36 rfl rfl ?_
          refine y_iload_n (pc := 71) hC 1 dX3_closeDay_71 rfl ?_
          refine y_iald (pc := 72) hC 1 (j := j1) dX3_closeDay_72 (((yi j1 (closeS ins) (0, vi, lt, su)).2.1) j1) rfl (by omega) rfl rfl ?_
          refine y_bipush (pc := 73) hC dX3_closeDay_73 99 (by decide) ?_
          refine y_cmp_ge (pc := 75) hC dX3_closeDay_75 88 (by decide) (fun c_6 => ?_) (fun c_6 => ?_)
          · refine y_iinc (pc := 88) hC 1 dX3_closeDay_88 (nI (j1 + 1)) [(2, .int (nI (j1 + 1))), (1, .int ((((yi j1 (closeS ins) (0, vi, lt, su)).1) + (1 - ((((yi j1 (closeS ins) (0, vi, lt, su)).2.2.1) j1) / 2))) - (((yi j1 (closeS ins) (0, vi, lt, su)).2.2.2) j1))), (0, .ref a0)] rfl (nI_inc _) rfl (by decide) ?_
            refine y_goto (pc := 91) hC dX3_closeDay_91 4 (by decide) ?_
            refine y_ws [(a0, .inr (3, [.ref a1, .ref a2, .ref a3, .ref a4, .ref a5, .ref a6, .ref a7, .int (nI n)])), (a2, aI d 10 ((yi (j1 + 1) (closeS ins) (0, vi, lt, su)).2.1)), (a4, aZ d 10 ins), (a5, aI d 10 ((yi (j1 + 1) (closeS ins) (0, vi, lt, su)).2.2.1)), (a6, aI d 10 ((yi (j1 + 1) (closeS ins) (0, vi, lt, su)).2.2.2))] (by simp only [yi, closeS, c_2, c_5, c_6, ↓reduceIte, cond_true, cond_false]) ?_
            refine y_lve [(2, .int (nI (j1 + 1))), (1, .int ((yi (j1 + 1) (closeS ins) (0, vi, lt, su)).1)), (0, .ref a0)] (by simp only [yi, closeS, c_2, c_5, c_6, ↓reduceIte, cond_true, cond_false]) ?_
            exact ihj1 (j1 + 1) (by omega)
          · refine y_aload_n (pc := 78) hC 2 dX3_closeDay_78 rfl ?_
            refine y_get (pc := 79) hC 0 1 dX3_closeDay_79 rfl rfl inX3 (by decide) kw_1_36 rfl rfl ?_
            refine y_iload_n (pc := 82) hC 1 dX3_closeDay_82 rfl ?_
            refine y_dup2 (pc := 83) hC dX3_closeDay_83 rfl rfl ?_
            refine y_iald (pc := 84) hC 1 (j := j1) dX3_closeDay_84 (((yi j1 (closeS ins) (0, vi, lt, su)).2.1) j1) rfl (by omega) rfl rfl ?_
            refine y_iconst (pc := 85) hC dX3_closeDay_85 1 (by decide) ?_
            refine y_iadd (pc := 86) hC dX3_closeDay_86 ((((yi j1 (closeS ins) (0, vi, lt, su)).2.1) j1) + 1) rfl ?_
            refine y_iast (pc := 87) hC 1 (j := j1) dX3_closeDay_87 (upd ((yi j1 (closeS ins) (0, vi, lt, su)).2.1) j1 ((((yi j1 (closeS ins) (0, vi, lt, su)).2.1) j1) + 1)) [(a0, .inr (3, [.ref a1, .ref a2, .ref a3, .ref a4, .ref a5, .ref a6, .ref a7, .int (nI n)])), (a2, aI d 10 (upd ((yi j1 (closeS ins) (0, vi, lt, su)).2.1) j1 ((((yi j1 (closeS ins) (0, vi, lt, su)).2.1) j1) + 1))), (a4, aZ d 10 ins), (a5, aI d 10 (upd ((yi j1 (closeS ins) (0, vi, lt, su)).2.2.1) j1 0)), (a6, aI d 10 (upd ((yi j1 (closeS ins) (0, vi, lt, su)).2.2.2) j1 0))] rfl (by omega) rfl rfl rfl ?_
            refine y_iinc (pc := 88) hC 1 dX3_closeDay_88 (nI (j1 + 1)) [(2, .int (nI (j1 + 1))), (1, .int ((((yi j1 (closeS ins) (0, vi, lt, su)).1) + (1 - ((((yi j1 (closeS ins) (0, vi, lt, su)).2.2.1) j1) / 2))) - (((yi j1 (closeS ins) (0, vi, lt, su)).2.2.2) j1))), (0, .ref a0)] rfl (nI_inc _) rfl (by decide) ?_
            refine y_goto (pc := 91) hC dX3_closeDay_91 4 (by decide) ?_
            refine y_ws [(a0, .inr (3, [.ref a1, .ref a2, .ref a3, .ref a4, .ref a5, .ref a6, .ref a7, .int (nI n)])), (a2, aI d 10 ((yi (j1 + 1) (closeS ins) (0, vi, lt, su)).2.1)), (a4, aZ d 10 ins), (a5, aI d 10 ((yi (j1 + 1) (closeS ins) (0, vi, lt, su)).2.2.1)), (a6, aI d 10 ((yi (j1 + 1) (closeS ins) (0, vi, lt, su)).2.2.2))] (by simp only [yi, closeS, c_2, c_5, c_6, ↓reduceIte, cond_true, cond_false]) ?_
            refine y_lve [(2, .int (nI (j1 + 1))), (1, .int ((yi (j1 + 1) (closeS ins) (0, vi, lt, su)).1)), (0, .ref a0)] (by simp only [yi, closeS, c_2, c_5, c_6, ↓reduceIte, cond_true, cond_false]) ?_
            exact ihj1 (j1 + 1) (by omega)
  refine y_lv [(2, .int 0), (1, .int 0), (0, .ref a0)] [0, 1, 2] rfl ?_
  exact lpj1 n 0 (by omega)
theorem n_X3_closeDay : yyN yX3_closeDay RX3 0 := by refine ⟨rfl, ?_, ?_, ?_⟩ <;> decide +kernel
set_option maxHeartbeats 4000000 in
set_option maxRecDepth 100000 in
theorem c_X3_sum (l : Launch) (d : yyD) (a0 : Nat) (a1 : Nat) (a2 : Nat) (a3 : Nat) (a4 : Nat) (a5 : Nat) (a6 : Nat) (a7 : Nat) (b : Nat) (f : fI) (n : Nat) (hn : n ≤ 10) : yyI l yX3_sum cX3_sum 4 (some .int) { frames := 0, cells := 0, slots := 0, locals := 0 } d [.ref a0, .ref b] [(a0, .inr (3, [.ref a1, .ref a2, .ref a3, .ref a4, .ref a5, .ref a6, .ref a7, .int (nI n)])), (b, aI d 10 f)] [(a0, .inr (3, [.ref a1, .ref a2, .ref a3, .ref a4, .ref a5, .ref a6, .ref a7, .int (nI n)])), (b, aI d 10 f)] (sumF f n) := by
  refine yyI_of (own := RX3) [(0, .ref a0), (1, .ref b)] (by decide +kernel) rfl (Nat.le_of_ble_eq_true rfl) rfl ?_
  intro G Q hQ hGL hC hGA
  refine y_iconst (pc := 0) hC dX3_sum_0 0 (by decide) ?_
  refine y_istore_n (pc := 1) hC dX3_sum_1 [(2, .int 0), (0, .ref a0), (1, .ref b)] rfl (by decide) ?_
  refine y_iconst (pc := 2) hC dX3_sum_2 0 (by decide) ?_
  refine y_istore_n (pc := 3) hC dX3_sum_3 [(3, .int 0), (2, .int 0), (0, .ref a0), (1, .ref b)] rfl (by decide) ?_
  have lpj1 : ∀ r1 j1 : Nat, j1 + r1 = n → yyW d G 0 0 Q [(a0, .inr (3, [.ref a1, .ref a2, .ref a3, .ref a4, .ref a5, .ref a6, .ref a7, .int (nI n)])), (b, aI d 10 f)] [(3, .int (nI j1)), (2, .int (yi j1 (fun k a => a + f k) 0)), (0, .ref a0), (1, .ref b)] 4 [] := by
    intro r1
    induction r1 with
    | zero =>
      intro j1 hj1
      have ej1 : j1 = n := by omega
      rw [ej1]
      refine y_iload_n (pc := 4) hC 0 dX3_sum_4 rfl ?_
      refine y_aload_n (pc := 5) hC 2 dX3_sum_5 rfl ?_
      refine y_get (pc := 6) hC 0 7 dX3_sum_6 rfl rfl inX3 (by decide) kw_1_43 rfl rfl ?_
      refine y_ge_t (pc := 9) (a := n) (b := n) hC dX3_sum_9 24 (by decide) (by omega) (by omega) ?_
      refine y_iload_n (pc := 24) hC 1 dX3_sum_24 rfl ?_
      exact y_iret hC hQ rfl rfl rfl (nb rfl) (nb rfl) dX3_sum_25
    | succ r1 ihj1 =>
      intro j1 hj1
      have lj1 : j1 < n := by omega
      refine y_iload_n (pc := 4) hC 0 dX3_sum_4 rfl ?_
      refine y_aload_n (pc := 5) hC 2 dX3_sum_5 rfl ?_
      refine y_get (pc := 6) hC 0 7 dX3_sum_6 rfl rfl inX3 (by decide) kw_1_43 rfl rfl ?_
      refine y_ge_f (pc := 9) (a := j1) (b := n) hC dX3_sum_9 24 (by decide) (by omega) (by omega) ?_
      refine y_iload_n (pc := 12) hC 1 dX3_sum_12 rfl ?_
      refine y_aload_n (pc := 13) hC 3 dX3_sum_13 rfl ?_
      refine y_iload_n (pc := 14) hC 0 dX3_sum_14 rfl ?_
      refine y_iald (pc := 15) hC 1 (j := j1) dX3_sum_15 (f j1) rfl (by omega) rfl rfl ?_
      refine y_iadd (pc := 16) hC dX3_sum_16 ((yi j1 (fun k a => a + f k) 0) + (f j1)) rfl ?_
      refine y_istore_n (pc := 17) hC dX3_sum_17 [(2, .int ((yi j1 (fun k a => a + f k) 0) + (f j1))), (3, .int (nI j1)), (0, .ref a0), (1, .ref b)] rfl (by decide) ?_
      refine y_iinc (pc := 18) hC 1 dX3_sum_18 (nI (j1 + 1)) [(3, .int (nI (j1 + 1))), (2, .int ((yi j1 (fun k a => a + f k) 0) + (f j1))), (0, .ref a0), (1, .ref b)] rfl (nI_inc _) rfl (by decide) ?_
      refine y_goto (pc := 21) hC dX3_sum_21 4 (by decide) ?_
      refine y_ws [(a0, .inr (3, [.ref a1, .ref a2, .ref a3, .ref a4, .ref a5, .ref a6, .ref a7, .int (nI n)])), (b, aI d 10 f)] rfl ?_
      refine y_lve [(3, .int (nI (j1 + 1))), (2, .int (yi (j1 + 1) (fun k a => a + f k) 0)), (0, .ref a0), (1, .ref b)] (by simp only [yi, ↓reduceIte, cond_true, cond_false]) ?_
      exact ihj1 (j1 + 1) (by omega)
  refine y_lv [(3, .int 0), (2, .int 0), (0, .ref a0), (1, .ref b)] [0, 1, 2, 3] rfl ?_
  exact lpj1 n 0 (by omega)
theorem n_X3_sum : yyN yX3_sum RX3 1 := by refine ⟨rfl, ?_, ?_, ?_⟩ <;> decide +kernel
set_option maxHeartbeats 4000000 in
set_option maxRecDepth 100000 in
theorem c_X3_howManyAre (l : Launch) (d : yyD) (a0 : Nat) (a1 : Nat) (a2 : Nat) (a3 : Nat) (a4 : Nat) (a5 : Nat) (a6 : Nat) (a7 : Nat) (b : Nat) (f : fB) (n : Nat) (hn : n ≤ 10) : yyI l yX3_howManyAre cX3_howManyAre 4 (some .int) { frames := 0, cells := 0, slots := 0, locals := 0 } d [.ref a0, .ref b] [(a0, .inr (3, [.ref a1, .ref a2, .ref a3, .ref a4, .ref a5, .ref a6, .ref a7, .int (nI n)])), (b, aZ d 10 f)] [(a0, .inr (3, [.ref a1, .ref a2, .ref a3, .ref a4, .ref a5, .ref a6, .ref a7, .int (nI n)])), (b, aZ d 10 f)] (manyF f n) := by
  refine yyI_of (own := RX3) [(0, .ref a0), (1, .ref b)] (by decide +kernel) rfl (Nat.le_of_ble_eq_true rfl) rfl ?_
  intro G Q hQ hGL hC hGA
  refine y_iconst (pc := 0) hC dX3_howManyAre_0 0 (by decide) ?_
  refine y_istore_n (pc := 1) hC dX3_howManyAre_1 [(2, .int 0), (0, .ref a0), (1, .ref b)] rfl (by decide) ?_
  refine y_iconst (pc := 2) hC dX3_howManyAre_2 0 (by decide) ?_
  refine y_istore_n (pc := 3) hC dX3_howManyAre_3 [(3, .int 0), (2, .int 0), (0, .ref a0), (1, .ref b)] rfl (by decide) ?_
  have lpj1 : ∀ r1 j1 : Nat, j1 + r1 = n → yyW d G 0 0 Q [(a0, .inr (3, [.ref a1, .ref a2, .ref a3, .ref a4, .ref a5, .ref a6, .ref a7, .int (nI n)])), (b, aZ d 10 f)] [(3, .int (nI j1)), (2, .int (yi j1 (fun k a => cond (f k) (a + Int32.ofInt 1) a) 0)), (0, .ref a0), (1, .ref b)] 4 [] := by
    intro r1
    induction r1 with
    | zero =>
      intro j1 hj1
      have ej1 : j1 = n := by omega
      rw [ej1]
      refine y_iload_n (pc := 4) hC 0 dX3_howManyAre_4 rfl ?_
      refine y_aload_n (pc := 5) hC 2 dX3_howManyAre_5 rfl ?_
      refine y_get (pc := 6) hC 0 7 dX3_howManyAre_6 rfl rfl inX3 (by decide) kw_1_43 rfl rfl ?_
      refine y_ge_t (pc := 9) (a := n) (b := n) hC dX3_howManyAre_9 27 (by decide) (by omega) (by omega) ?_
      refine y_iload_n (pc := 27) hC 1 dX3_howManyAre_27 rfl ?_
      exact y_iret hC hQ rfl rfl rfl (nb rfl) (nb rfl) dX3_howManyAre_28
    | succ r1 ihj1 =>
      intro j1 hj1
      have lj1 : j1 < n := by omega
      refine y_iload_n (pc := 4) hC 0 dX3_howManyAre_4 rfl ?_
      refine y_aload_n (pc := 5) hC 2 dX3_howManyAre_5 rfl ?_
      refine y_get (pc := 6) hC 0 7 dX3_howManyAre_6 rfl rfl inX3 (by decide) kw_1_43 rfl rfl ?_
      refine y_ge_f (pc := 9) (a := j1) (b := n) hC dX3_howManyAre_9 27 (by decide) (by omega) (by omega) ?_
      refine y_aload_n (pc := 12) hC 3 dX3_howManyAre_12 rfl ?_
      refine y_iload_n (pc := 13) hC 0 dX3_howManyAre_13 rfl ?_
      refine y_zald (pc := 14) hC 1 (j := j1) dX3_howManyAre_14 (bI (f j1)) rfl (by omega) rfl rfl ?_
      refine y_beq (pc := 15) hC dX3_howManyAre_15 21 (by decide) (fun c_2 => ?_) (fun c_2 => ?_)
      · refine y_iinc (pc := 21) hC 0 dX3_howManyAre_21 (nI (j1 + 1)) [(3, .int (nI (j1 + 1))), (2, .int (yi j1 (fun k a => cond (f k) (a + Int32.ofInt 1) a) 0)), (0, .ref a0), (1, .ref b)] rfl (nI_inc _) rfl (by decide) ?_
        refine y_goto (pc := 24) hC dX3_howManyAre_24 4 (by decide) ?_
        refine y_ws [(a0, .inr (3, [.ref a1, .ref a2, .ref a3, .ref a4, .ref a5, .ref a6, .ref a7, .int (nI n)])), (b, aZ d 10 f)] rfl ?_
        refine y_lve [(3, .int (nI (j1 + 1))), (2, .int (yi (j1 + 1) (fun k a => cond (f k) (a + Int32.ofInt 1) a) 0)), (0, .ref a0), (1, .ref b)] (by simp only [yi, c_2, ↓reduceIte, cond_true, cond_false]) ?_
        exact ihj1 (j1 + 1) (by omega)
      · refine y_iinc (pc := 18) hC 1 dX3_howManyAre_18 (yi j1 (fun k a => cond (f k) (a + Int32.ofInt 1) a) 0 + Int32.ofInt 1) [(2, .int (yi j1 (fun k a => cond (f k) (a + Int32.ofInt 1) a) 0 + Int32.ofInt 1)), (3, .int (nI j1)), (0, .ref a0), (1, .ref b)] rfl rfl rfl (by decide) ?_
        refine y_iinc (pc := 21) hC 1 dX3_howManyAre_21 (nI (j1 + 1)) [(3, .int (nI (j1 + 1))), (2, .int (yi j1 (fun k a => cond (f k) (a + Int32.ofInt 1) a) 0 + Int32.ofInt 1)), (0, .ref a0), (1, .ref b)] rfl (nI_inc _) rfl (by decide) ?_
        refine y_goto (pc := 24) hC dX3_howManyAre_24 4 (by decide) ?_
        refine y_ws [(a0, .inr (3, [.ref a1, .ref a2, .ref a3, .ref a4, .ref a5, .ref a6, .ref a7, .int (nI n)])), (b, aZ d 10 f)] rfl ?_
        refine y_lve [(3, .int (nI (j1 + 1))), (2, .int (yi (j1 + 1) (fun k a => cond (f k) (a + Int32.ofInt 1) a) 0)), (0, .ref a0), (1, .ref b)] (by simp only [yi, c_2, ↓reduceIte, cond_true, cond_false]) ?_
        exact ihj1 (j1 + 1) (by omega)
  refine y_lv [(3, .int 0), (2, .int 0), (0, .ref a0), (1, .ref b)] [0, 1, 2, 3] rfl ?_
  exact lpj1 n 0 (by omega)
theorem n_X3_howManyAre : yyN yX3_howManyAre RX3 1 := by refine ⟨rfl, ?_, ?_, ?_⟩ <;> decide +kernel
set_option maxHeartbeats 4000000 in
set_option maxRecDepth 100000 in
theorem c_X3_sumOfVines (l : Launch) (d : yyD) (a0 : Nat) (a1 : Nat) (a2 : Nat) (a3 : Nat) (a4 : Nat) (a5 : Nat) (a6 : Nat) (a7 : Nat) (vi : fI) (n : Nat) (hn : n ≤ 10) : yyI l yX3_sumOfVines cX3_sumOfVines 1 (some .int) { frames := 1, cells := 0, slots := 0, locals := 23 } d [.ref a0] [(a0, .inr (3, [.ref a1, .ref a2, .ref a3, .ref a4, .ref a5, .ref a6, .ref a7, .int (nI n)])), (a2, aI d 10 vi)] [(a0, .inr (3, [.ref a1, .ref a2, .ref a3, .ref a4, .ref a5, .ref a6, .ref a7, .int (nI n)])), (a2, aI d 10 vi)] (sumF vi n) := by
  refine yyI_of (own := RX3) [(0, .ref a0)] (by decide +kernel) rfl (Nat.le_of_ble_eq_true rfl) rfl ?_
  intro G Q hQ hGL hC hGA
  refine y_aload_n (pc := 0) hC 0 dX3_sumOfVines_0 rfl ?_
  refine y_aload_n (pc := 1) hC 0 dX3_sumOfVines_1 rfl ?_
  refine y_get (pc := 2) hC 0 1 dX3_sumOfVines_2 rfl rfl inX3 (by decide) kw_1_36 rfl rfl ?_
  refine y_cI (pc := 5) (As := [.ref a2]) (st := []) hC (c_X3_sum (gL G) d a0 a1 a2 a3 a4 a5 a6 a7 a2 vi n (by omega)) kw_2_18 kw_2_15 kw_2_17 kw_s2 kw_1_3 n_X3_sum ⟨⟨nb rfl, nb rfl⟩, ⟨nb rfl, nb rfl⟩, nb rfl⟩ [0, 1] [] [0, 1] 0 [] [(a0, .inr (3, [.ref a1, .ref a2, .ref a3, .ref a4, .ref a5, .ref a6, .ref a7, .int (nI n)])), (a2, aI d 10 vi)] rfl rfl ⟨rfl, by decide, rfl, by decide, by decide⟩ ⟨rfl, by decide⟩ rfl dX3_sumOfVines_5 ?_
  exact y_iret hC hQ rfl rfl rfl (nb rfl) (nb rfl) dX3_sumOfVines_8
theorem n_X3_sumOfVines : yyN yX3_sumOfVines RX3 0 := by refine ⟨rfl, ?_, ?_, ?_⟩ <;> decide +kernel
set_option maxHeartbeats 4000000 in
set_option maxRecDepth 100000 in
theorem c_X3_sumOfLostInAll (l : Launch) (d : yyD) (a0 : Nat) (a1 : Nat) (a2 : Nat) (a3 : Nat) (a4 : Nat) (a5 : Nat) (a6 : Nat) (a7 : Nat) (la : fI) (n : Nat) (hn : n ≤ 10) : yyI l yX3_sumOfLostInAll cX3_sumOfLostInAll 1 (some .int) { frames := 1, cells := 0, slots := 0, locals := 23 } d [.ref a0] [(a0, .inr (3, [.ref a1, .ref a2, .ref a3, .ref a4, .ref a5, .ref a6, .ref a7, .int (nI n)])), (a7, aI d 10 la)] [(a0, .inr (3, [.ref a1, .ref a2, .ref a3, .ref a4, .ref a5, .ref a6, .ref a7, .int (nI n)])), (a7, aI d 10 la)] (sumF la n) := by
  refine yyI_of (own := RX3) [(0, .ref a0)] (by decide +kernel) rfl (Nat.le_of_ble_eq_true rfl) rfl ?_
  intro G Q hQ hGL hC hGA
  refine y_aload_n (pc := 0) hC 0 dX3_sumOfLostInAll_0 rfl ?_
  refine y_aload_n (pc := 1) hC 0 dX3_sumOfLostInAll_1 rfl ?_
  refine y_get (pc := 2) hC 0 6 dX3_sumOfLostInAll_2 rfl rfl inX3 (by decide) kw_1_41 rfl rfl ?_
  refine y_cI (pc := 5) (As := [.ref a7]) (st := []) hC (c_X3_sum (gL G) d a0 a1 a2 a3 a4 a5 a6 a7 a7 la n (by omega)) kw_2_18 kw_2_15 kw_2_17 kw_s2 kw_1_3 n_X3_sum ⟨⟨nb rfl, nb rfl⟩, ⟨nb rfl, nb rfl⟩, nb rfl⟩ [0, 1] [] [0, 1] 0 [] [(a0, .inr (3, [.ref a1, .ref a2, .ref a3, .ref a4, .ref a5, .ref a6, .ref a7, .int (nI n)])), (a7, aI d 10 la)] rfl rfl ⟨rfl, by decide, rfl, by decide, by decide⟩ ⟨rfl, by decide⟩ rfl dX3_sumOfLostInAll_5 ?_
  exact y_iret hC hQ rfl rfl rfl (nb rfl) (nb rfl) dX3_sumOfLostInAll_8
theorem n_X3_sumOfLostInAll : yyN yX3_sumOfLostInAll RX3 0 := by refine ⟨rfl, ?_, ?_, ?_⟩ <;> decide +kernel
set_option maxHeartbeats 4000000 in
set_option maxRecDepth 100000 in
theorem c_X3_sumOfSuits (l : Launch) (d : yyD) (a0 : Nat) (a1 : Nat) (a2 : Nat) (a3 : Nat) (a4 : Nat) (a5 : Nat) (a6 : Nat) (a7 : Nat) (su : fI) (n : Nat) (hn : n ≤ 10) : yyI l yX3_sumOfSuits cX3_sumOfSuits 1 (some .int) { frames := 1, cells := 0, slots := 0, locals := 23 } d [.ref a0] [(a0, .inr (3, [.ref a1, .ref a2, .ref a3, .ref a4, .ref a5, .ref a6, .ref a7, .int (nI n)])), (a6, aI d 10 su)] [(a0, .inr (3, [.ref a1, .ref a2, .ref a3, .ref a4, .ref a5, .ref a6, .ref a7, .int (nI n)])), (a6, aI d 10 su)] (sumF su n) := by
  refine yyI_of (own := RX3) [(0, .ref a0)] (by decide +kernel) rfl (Nat.le_of_ble_eq_true rfl) rfl ?_
  intro G Q hQ hGL hC hGA
  refine y_aload_n (pc := 0) hC 0 dX3_sumOfSuits_0 rfl ?_
  refine y_aload_n (pc := 1) hC 0 dX3_sumOfSuits_1 rfl ?_
  refine y_get (pc := 2) hC 0 5 dX3_sumOfSuits_2 rfl rfl inX3 (by decide) kw_1_40 rfl rfl ?_
  refine y_cI (pc := 5) (As := [.ref a6]) (st := []) hC (c_X3_sum (gL G) d a0 a1 a2 a3 a4 a5 a6 a7 a6 su n (by omega)) kw_2_18 kw_2_15 kw_2_17 kw_s2 kw_1_3 n_X3_sum ⟨⟨nb rfl, nb rfl⟩, ⟨nb rfl, nb rfl⟩, nb rfl⟩ [0, 1] [] [0, 1] 0 [] [(a0, .inr (3, [.ref a1, .ref a2, .ref a3, .ref a4, .ref a5, .ref a6, .ref a7, .int (nI n)])), (a6, aI d 10 su)] rfl rfl ⟨rfl, by decide, rfl, by decide, by decide⟩ ⟨rfl, by decide⟩ rfl dX3_sumOfSuits_5 ?_
  exact y_iret hC hQ rfl rfl rfl (nb rfl) (nb rfl) dX3_sumOfSuits_8
theorem n_X3_sumOfSuits : yyN yX3_sumOfSuits RX3 0 := by refine ⟨rfl, ?_, ?_, ?_⟩ <;> decide +kernel
set_option maxHeartbeats 4000000 in
set_option maxRecDepth 100000 in
theorem c_X3_members (l : Launch) (d : yyD) (a0 : Nat) (a1 : Nat) (a2 : Nat) (a3 : Nat) (a4 : Nat) (a5 : Nat) (a6 : Nat) (a7 : Nat) (me : fB) (n : Nat) (hn : n ≤ 10) : yyI l yX3_members cX3_members 1 (some .int) { frames := 1, cells := 0, slots := 0, locals := 23 } d [.ref a0] [(a0, .inr (3, [.ref a1, .ref a2, .ref a3, .ref a4, .ref a5, .ref a6, .ref a7, .int (nI n)])), (a3, aZ d 10 me)] [(a0, .inr (3, [.ref a1, .ref a2, .ref a3, .ref a4, .ref a5, .ref a6, .ref a7, .int (nI n)])), (a3, aZ d 10 me)] (manyF me n) := by
  refine yyI_of (own := RX3) [(0, .ref a0)] (by decide +kernel) rfl (Nat.le_of_ble_eq_true rfl) rfl ?_
  intro G Q hQ hGL hC hGA
  refine y_aload_n (pc := 0) hC 0 dX3_members_0 rfl ?_
  refine y_aload_n (pc := 1) hC 0 dX3_members_1 rfl ?_
  refine y_get (pc := 2) hC 0 2 dX3_members_2 rfl rfl inX3 (by decide) kw_1_37 rfl rfl ?_
  refine y_cI (pc := 5) (As := [.ref a3]) (st := []) hC (c_X3_howManyAre (gL G) d a0 a1 a2 a3 a4 a5 a6 a7 a3 me n (by omega)) kw_2_34 kw_2_31 kw_2_33 kw_s3 kw_1_3 n_X3_howManyAre ⟨⟨nb rfl, nb rfl⟩, ⟨nb rfl, nb rfl⟩, nb rfl⟩ [0, 1] [] [0, 1] 0 [] [(a0, .inr (3, [.ref a1, .ref a2, .ref a3, .ref a4, .ref a5, .ref a6, .ref a7, .int (nI n)])), (a3, aZ d 10 me)] rfl rfl ⟨rfl, by decide, rfl, by decide, by decide⟩ ⟨rfl, by decide⟩ rfl dX3_members_5 ?_
  exact y_iret hC hQ rfl rfl rfl (nb rfl) (nb rfl) dX3_members_8
theorem n_X3_members : yyN yX3_members RX3 0 := by refine ⟨rfl, ?_, ?_, ?_⟩ <;> decide +kernel
set_option maxHeartbeats 4000000 in
set_option maxRecDepth 100000 in
theorem c_X3_insuredOnes (l : Launch) (d : yyD) (a0 : Nat) (a1 : Nat) (a2 : Nat) (a3 : Nat) (a4 : Nat) (a5 : Nat) (a6 : Nat) (a7 : Nat) (ins : fB) (n : Nat) (hn : n ≤ 10) : yyI l yX3_insuredOnes cX3_insuredOnes 1 (some .int) { frames := 1, cells := 0, slots := 0, locals := 23 } d [.ref a0] [(a0, .inr (3, [.ref a1, .ref a2, .ref a3, .ref a4, .ref a5, .ref a6, .ref a7, .int (nI n)])), (a4, aZ d 10 ins)] [(a0, .inr (3, [.ref a1, .ref a2, .ref a3, .ref a4, .ref a5, .ref a6, .ref a7, .int (nI n)])), (a4, aZ d 10 ins)] (manyF ins n) := by
  refine yyI_of (own := RX3) [(0, .ref a0)] (by decide +kernel) rfl (Nat.le_of_ble_eq_true rfl) rfl ?_
  intro G Q hQ hGL hC hGA
  refine y_aload_n (pc := 0) hC 0 dX3_insuredOnes_0 rfl ?_
  refine y_aload_n (pc := 1) hC 0 dX3_insuredOnes_1 rfl ?_
  refine y_get (pc := 2) hC 0 3 dX3_insuredOnes_2 rfl rfl inX3 (by decide) kw_1_38 rfl rfl ?_
  refine y_cI (pc := 5) (As := [.ref a4]) (st := []) hC (c_X3_howManyAre (gL G) d a0 a1 a2 a3 a4 a5 a6 a7 a4 ins n (by omega)) kw_2_34 kw_2_31 kw_2_33 kw_s3 kw_1_3 n_X3_howManyAre ⟨⟨nb rfl, nb rfl⟩, ⟨nb rfl, nb rfl⟩, nb rfl⟩ [0, 1] [] [0, 1] 0 [] [(a0, .inr (3, [.ref a1, .ref a2, .ref a3, .ref a4, .ref a5, .ref a6, .ref a7, .int (nI n)])), (a4, aZ d 10 ins)] rfl rfl ⟨rfl, by decide, rfl, by decide, by decide⟩ ⟨rfl, by decide⟩ rfl dX3_insuredOnes_5 ?_
  exact y_iret hC hQ rfl rfl rfl (nb rfl) (nb rfl) dX3_insuredOnes_8
theorem n_X3_insuredOnes : yyN yX3_insuredOnes RX3 0 := by refine ⟨rfl, ?_, ?_, ?_⟩ <;> decide +kernel
set_option maxHeartbeats 4000000 in
set_option maxRecDepth 100000 in
theorem c_X3_fact (l : Launch) (d : yyD) (a0 : Nat) (a1 : Nat) (a2 : Nat) (a3 : Nat) (a4 : Nat) (a5 : Nat) (a6 : Nat) (a7 : Nat) (pl : fI) (vi : fI) (me : fB) (ins : fB) (lt : fI) (su : fI) (la : fI) (n : Nat) (j : Nat) (w : Nat) (hn : n ≤ 10) (hj : j < 10) (hw : w ≤ 6) : yyI l yX3_fact cX3_fact 3 (some .int) { frames := 0, cells := 0, slots := 0, locals := 0 } d [.ref a0, .int (nI j), .int (nI w)] [(a0, .inr (3, [.ref a1, .ref a2, .ref a3, .ref a4, .ref a5, .ref a6, .ref a7, .int (nI n)])), (a1, aI d 10 pl), (a2, aI d 10 vi), (a3, aZ d 10 me), (a4, aZ d 10 ins), (a5, aI d 10 lt), (a6, aI d 10 su), (a7, aI d 10 la)] [(a0, .inr (3, [.ref a1, .ref a2, .ref a3, .ref a4, .ref a5, .ref a6, .ref a7, .int (nI n)])), (a1, aI d 10 pl), (a2, aI d 10 vi), (a3, aZ d 10 me), (a4, aZ d 10 ins), (a5, aI d 10 lt), (a6, aI d 10 su), (a7, aI d 10 la)] (vfact pl vi me ins lt su la j w) := by
  refine yyI_of (own := RX3) [(0, .ref a0), (1, .int (nI j)), (2, .int (nI w))] (by decide +kernel) rfl (Nat.le_of_ble_eq_true rfl) rfl ?_
  intro G Q hQ hGL hC hGA
  refine y_iload_n (pc := 0) hC 2 dX3_fact_0 rfl ?_
  have hs1 : w = 0 ∨ w = 1 ∨ w = 2 ∨ w = 3 ∨ w = 4 ∨ w = 5 ∨ w = 6 := by omega
  rcases hs1 with rfl | rfl | rfl | rfl | rfl | rfl | rfl
  · refine y_tsw (pc := 1) (off := 39) hC dX3_fact_1 40 (by decide +kernel) (by decide +kernel) (by decide +kernel) (by decide) ?_
    refine y_aload_n (pc := 40) hC 0 dX3_fact_40 rfl ?_
    refine y_get (pc := 41) hC 0 0 dX3_fact_41 rfl rfl inX3 (by decide) kw_1_35 rfl rfl ?_
    refine y_iload_n (pc := 44) hC 1 dX3_fact_44 rfl ?_
    refine y_iald (pc := 45) hC 1 (j := j) dX3_fact_45 (pl j) rfl (by omega) rfl rfl ?_
    exact y_iret hC hQ rfl rfl rfl (nb rfl) (nb rfl) dX3_fact_46
  · refine y_tsw (pc := 1) (off := 46) hC dX3_fact_1 47 (by decide +kernel) (by decide +kernel) (by decide +kernel) (by decide) ?_
    refine y_aload_n (pc := 47) hC 0 dX3_fact_47 rfl ?_
    refine y_get (pc := 48) hC 0 1 dX3_fact_48 rfl rfl inX3 (by decide) kw_1_36 rfl rfl ?_
    refine y_iload_n (pc := 51) hC 1 dX3_fact_51 rfl ?_
    refine y_iald (pc := 52) hC 2 (j := j) dX3_fact_52 (vi j) rfl (by omega) rfl rfl ?_
    exact y_iret hC hQ rfl rfl rfl (nb rfl) (nb rfl) dX3_fact_53
  · refine y_tsw (pc := 1) (off := 53) hC dX3_fact_1 54 (by decide +kernel) (by decide +kernel) (by decide +kernel) (by decide) ?_
    refine y_aload_n (pc := 54) hC 0 dX3_fact_54 rfl ?_
    refine y_get (pc := 55) hC 0 2 dX3_fact_55 rfl rfl inX3 (by decide) kw_1_37 rfl rfl ?_
    refine y_iload_n (pc := 58) hC 1 dX3_fact_58 rfl ?_
    refine y_zald (pc := 59) hC 3 (j := j) dX3_fact_59 (bI (me j)) rfl (by omega) rfl rfl ?_
    refine y_beq (pc := 60) hC dX3_fact_60 67 (by decide) (fun c_2 => ?_) (fun c_2 => ?_)
    · refine y_iconst (pc := 67) hC dX3_fact_67 0 (by decide) ?_
      exact y_iret hC hQ rfl rfl (by simp [vfact, bI, c_2]) (nb rfl) (nb rfl) dX3_fact_68
    · refine y_iconst (pc := 63) hC dX3_fact_63 1 (by decide) ?_
      refine y_goto (pc := 64) hC dX3_fact_64 68 (by decide) ?_
      exact y_iret hC hQ rfl rfl (by simp [vfact, bI, c_2]) (nb rfl) (nb rfl) dX3_fact_68
  · refine y_tsw (pc := 1) (off := 68) hC dX3_fact_1 69 (by decide +kernel) (by decide +kernel) (by decide +kernel) (by decide) ?_
    refine y_aload_n (pc := 69) hC 0 dX3_fact_69 rfl ?_
    refine y_get (pc := 70) hC 0 3 dX3_fact_70 rfl rfl inX3 (by decide) kw_1_38 rfl rfl ?_
    refine y_iload_n (pc := 73) hC 1 dX3_fact_73 rfl ?_
    refine y_zald (pc := 74) hC 4 (j := j) dX3_fact_74 (bI (ins j)) rfl (by omega) rfl rfl ?_
    refine y_beq (pc := 75) hC dX3_fact_75 82 (by decide) (fun c_3 => ?_) (fun c_3 => ?_)
    · refine y_iconst (pc := 82) hC dX3_fact_82 0 (by decide) ?_
      exact y_iret hC hQ rfl rfl (by simp [vfact, bI, c_3]) (nb rfl) (nb rfl) dX3_fact_83
    · refine y_iconst (pc := 78) hC dX3_fact_78 1 (by decide) ?_
      refine y_goto (pc := 79) hC dX3_fact_79 83 (by decide) ?_
      exact y_iret hC hQ rfl rfl (by simp [vfact, bI, c_3]) (nb rfl) (nb rfl) dX3_fact_83
  · refine y_tsw (pc := 1) (off := 83) hC dX3_fact_1 84 (by decide +kernel) (by decide +kernel) (by decide +kernel) (by decide) ?_
    refine y_aload_n (pc := 84) hC 0 dX3_fact_84 rfl ?_
    refine y_get (pc := 85) hC 0 4 dX3_fact_85 rfl rfl inX3 (by decide) kw_1_39 rfl rfl ?_
    refine y_iload_n (pc := 88) hC 1 dX3_fact_88 rfl ?_
    refine y_iald (pc := 89) hC 5 (j := j) dX3_fact_89 (lt j) rfl (by omega) rfl rfl ?_
    exact y_iret hC hQ rfl rfl rfl (nb rfl) (nb rfl) dX3_fact_90
  · refine y_tsw (pc := 1) (off := 90) hC dX3_fact_1 91 (by decide +kernel) (by decide +kernel) (by decide +kernel) (by decide) ?_
    refine y_aload_n (pc := 91) hC 0 dX3_fact_91 rfl ?_
    refine y_get (pc := 92) hC 0 5 dX3_fact_92 rfl rfl inX3 (by decide) kw_1_40 rfl rfl ?_
    refine y_iload_n (pc := 95) hC 1 dX3_fact_95 rfl ?_
    refine y_iald (pc := 96) hC 6 (j := j) dX3_fact_96 (su j) rfl (by omega) rfl rfl ?_
    exact y_iret hC hQ rfl rfl rfl (nb rfl) (nb rfl) dX3_fact_97
  · refine y_tsd (pc := 1) hC dX3_fact_1 98 (by decide +kernel) (by decide) ?_
    refine y_aload_n (pc := 98) hC 0 dX3_fact_98 rfl ?_
    refine y_get (pc := 99) hC 0 6 dX3_fact_99 rfl rfl inX3 (by decide) kw_1_41 rfl rfl ?_
    refine y_iload_n (pc := 102) hC 1 dX3_fact_102 rfl ?_
    refine y_iald (pc := 103) hC 7 (j := j) dX3_fact_103 (la j) rfl (by omega) rfl rfl ?_
    exact y_iret hC hQ rfl rfl rfl (nb rfl) (nb rfl) dX3_fact_104
theorem n_X3_fact : yyN yX3_fact RX3 2 := by refine ⟨rfl, ?_, ?_, ?_⟩ <;> decide +kernel
set_option maxHeartbeats 4000000 in
set_option maxRecDepth 100000 in
theorem c_X3_enrol (l : Launch) (d : yyD) (a0 : Nat) (a1 : Nat) (a2 : Nat) (a3 : Nat) (a4 : Nat) (a5 : Nat) (a6 : Nat) (a7 : Nat) (me : fB) (ins : fB) (n : Nat) (j : Nat) (p : Bool) (q : Bool) (hn : n ≤ 10) (hj : j < 10) : yyI l yX3_enrol cX3_enrol 5 (some .int) { frames := 0, cells := 0, slots := 0, locals := 0 } d [.ref a0, .int (nI j), .int (bI p), .int (bI q)] [(a0, .inr (3, [.ref a1, .ref a2, .ref a3, .ref a4, .ref a5, .ref a6, .ref a7, .int (nI n)])), (a3, aZ d 10 me), (a4, aZ d 10 ins)] [(a0, .inr (3, [.ref a1, .ref a2, .ref a3, .ref a4, .ref a5, .ref a6, .ref a7, .int (nI n)])), (a3, aZ d 10 (updB me j p)), (a4, aZ d 10 (updB ins j q))] (cond (me j) 1 0 + cond (ins j) 2 0) := by
  refine yyI_of (own := RX3) [(0, .ref a0), (1, .int (nI j)), (2, .int (bI p)), (3, .int (bI q))] (by decide +kernel) rfl (Nat.le_of_ble_eq_true rfl) rfl ?_
  intro G Q hQ hGL hC hGA
  refine y_aload_n (pc := 0) hC 0 dX3_enrol_0 rfl ?_
  refine y_get (pc := 1) hC 0 2 dX3_enrol_1 rfl rfl inX3 (by decide) kw_1_37 rfl rfl ?_
  refine y_iload_n (pc := 4) hC 1 dX3_enrol_4 rfl ?_
  refine y_zald (pc := 5) hC 1 (j := j) dX3_enrol_5 (bI (me j)) rfl (by omega) rfl rfl ?_
  refine y_beq (pc := 6) hC dX3_enrol_6 13 (by decide) (fun c_1 => ?_) (fun c_1 => ?_)
  · refine y_iconst (pc := 13) hC dX3_enrol_13 0 (by decide) ?_
    refine y_aload_n (pc := 14) hC 0 dX3_enrol_14 rfl ?_
    refine y_get (pc := 15) hC 0 3 dX3_enrol_15 rfl rfl inX3 (by decide) kw_1_38 rfl rfl ?_
    refine y_iload_n (pc := 18) hC 1 dX3_enrol_18 rfl ?_
    refine y_zald (pc := 19) hC 2 (j := j) dX3_enrol_19 (bI (ins j)) rfl (by omega) rfl rfl ?_
    refine y_beq (pc := 20) hC dX3_enrol_20 27 (by decide) (fun c_2 => ?_) (fun c_2 => ?_)
    · refine y_iconst (pc := 27) hC dX3_enrol_27 0 (by decide) ?_
      refine y_iadd (pc := 28) hC dX3_enrol_28 (0 + 0) rfl ?_
      refine y_istore (pc := 29) hC dX3_enrol_29 [(4, .int (0 + 0)), (0, .ref a0), (1, .int (nI j)), (2, .int (bI p)), (3, .int (bI q))] rfl (by decide) ?_
      refine y_aload_n (pc := 31) hC 1 dX3_enrol_31 rfl ?_
      refine y_get (pc := 32) hC 0 2 dX3_enrol_32 rfl rfl inX3 (by decide) kw_1_37 rfl rfl ?_
      refine y_iload_n (pc := 35) hC 2 dX3_enrol_35 rfl ?_
      refine y_iload_n (pc := 36) hC 3 dX3_enrol_36 rfl ?_
      refine y_zast (pc := 37) hC 1 (j := j) dX3_enrol_37 p (updB me j p) [(a0, .inr (3, [.ref a1, .ref a2, .ref a3, .ref a4, .ref a5, .ref a6, .ref a7, .int (nI n)])), (a3, aZ d 10 (updB me j p)), (a4, aZ d 10 ins)] rfl (by omega) rfl rfl rfl ?_
      refine y_aload_n (pc := 38) hC 1 dX3_enrol_38 rfl ?_
      refine y_get (pc := 39) hC 0 3 dX3_enrol_39 rfl rfl inX3 (by decide) kw_1_38 rfl rfl ?_
      refine y_iload_n (pc := 42) hC 2 dX3_enrol_42 rfl ?_
      refine y_iload_n (pc := 43) hC 4 dX3_enrol_43 rfl ?_
      refine y_zast (pc := 44) hC 2 (j := j) dX3_enrol_44 q (updB ins j q) [(a0, .inr (3, [.ref a1, .ref a2, .ref a3, .ref a4, .ref a5, .ref a6, .ref a7, .int (nI n)])), (a3, aZ d 10 (updB me j p)), (a4, aZ d 10 (updB ins j q))] rfl (by omega) rfl rfl rfl ?_
      refine y_iload (pc := 45) hC 0 dX3_enrol_45 rfl ?_
      exact y_iret hC hQ rfl rfl (by simp only [c_1, c_2, ↓reduceIte, cond_true, cond_false]) (nb rfl) (nb rfl) dX3_enrol_47
    · refine y_iconst (pc := 23) hC dX3_enrol_23 2 (by decide) ?_
      refine y_goto (pc := 24) hC dX3_enrol_24 28 (by decide) ?_
      refine y_iadd (pc := 28) hC dX3_enrol_28 (0 + 2) rfl ?_
      refine y_istore (pc := 29) hC dX3_enrol_29 [(4, .int (0 + 2)), (0, .ref a0), (1, .int (nI j)), (2, .int (bI p)), (3, .int (bI q))] rfl (by decide) ?_
      refine y_aload_n (pc := 31) hC 1 dX3_enrol_31 rfl ?_
      refine y_get (pc := 32) hC 0 2 dX3_enrol_32 rfl rfl inX3 (by decide) kw_1_37 rfl rfl ?_
      refine y_iload_n (pc := 35) hC 2 dX3_enrol_35 rfl ?_
      refine y_iload_n (pc := 36) hC 3 dX3_enrol_36 rfl ?_
      refine y_zast (pc := 37) hC 1 (j := j) dX3_enrol_37 p (updB me j p) [(a0, .inr (3, [.ref a1, .ref a2, .ref a3, .ref a4, .ref a5, .ref a6, .ref a7, .int (nI n)])), (a3, aZ d 10 (updB me j p)), (a4, aZ d 10 ins)] rfl (by omega) rfl rfl rfl ?_
      refine y_aload_n (pc := 38) hC 1 dX3_enrol_38 rfl ?_
      refine y_get (pc := 39) hC 0 3 dX3_enrol_39 rfl rfl inX3 (by decide) kw_1_38 rfl rfl ?_
      refine y_iload_n (pc := 42) hC 2 dX3_enrol_42 rfl ?_
      refine y_iload_n (pc := 43) hC 4 dX3_enrol_43 rfl ?_
      refine y_zast (pc := 44) hC 2 (j := j) dX3_enrol_44 q (updB ins j q) [(a0, .inr (3, [.ref a1, .ref a2, .ref a3, .ref a4, .ref a5, .ref a6, .ref a7, .int (nI n)])), (a3, aZ d 10 (updB me j p)), (a4, aZ d 10 (updB ins j q))] rfl (by omega) rfl rfl rfl ?_
      refine y_iload (pc := 45) hC 0 dX3_enrol_45 rfl ?_
      exact y_iret hC hQ rfl rfl (by simp only [c_1, c_2, ↓reduceIte, cond_true, cond_false]) (nb rfl) (nb rfl) dX3_enrol_47
  · refine y_iconst (pc := 9) hC dX3_enrol_9 1 (by decide) ?_
    refine y_goto (pc := 10) hC dX3_enrol_10 14 (by decide) ?_
    refine y_aload_n (pc := 14) hC 0 dX3_enrol_14 rfl ?_
    refine y_get (pc := 15) hC 0 3 dX3_enrol_15 rfl rfl inX3 (by decide) kw_1_38 rfl rfl ?_
    refine y_iload_n (pc := 18) hC 1 dX3_enrol_18 rfl ?_
    refine y_zald (pc := 19) hC 2 (j := j) dX3_enrol_19 (bI (ins j)) rfl (by omega) rfl rfl ?_
    refine y_beq (pc := 20) hC dX3_enrol_20 27 (by decide) (fun c_3 => ?_) (fun c_3 => ?_)
    · refine y_iconst (pc := 27) hC dX3_enrol_27 0 (by decide) ?_
      refine y_iadd (pc := 28) hC dX3_enrol_28 (1 + 0) rfl ?_
      refine y_istore (pc := 29) hC dX3_enrol_29 [(4, .int (1 + 0)), (0, .ref a0), (1, .int (nI j)), (2, .int (bI p)), (3, .int (bI q))] rfl (by decide) ?_
      refine y_aload_n (pc := 31) hC 1 dX3_enrol_31 rfl ?_
      refine y_get (pc := 32) hC 0 2 dX3_enrol_32 rfl rfl inX3 (by decide) kw_1_37 rfl rfl ?_
      refine y_iload_n (pc := 35) hC 2 dX3_enrol_35 rfl ?_
      refine y_iload_n (pc := 36) hC 3 dX3_enrol_36 rfl ?_
      refine y_zast (pc := 37) hC 1 (j := j) dX3_enrol_37 p (updB me j p) [(a0, .inr (3, [.ref a1, .ref a2, .ref a3, .ref a4, .ref a5, .ref a6, .ref a7, .int (nI n)])), (a3, aZ d 10 (updB me j p)), (a4, aZ d 10 ins)] rfl (by omega) rfl rfl rfl ?_
      refine y_aload_n (pc := 38) hC 1 dX3_enrol_38 rfl ?_
      refine y_get (pc := 39) hC 0 3 dX3_enrol_39 rfl rfl inX3 (by decide) kw_1_38 rfl rfl ?_
      refine y_iload_n (pc := 42) hC 2 dX3_enrol_42 rfl ?_
      refine y_iload_n (pc := 43) hC 4 dX3_enrol_43 rfl ?_
      refine y_zast (pc := 44) hC 2 (j := j) dX3_enrol_44 q (updB ins j q) [(a0, .inr (3, [.ref a1, .ref a2, .ref a3, .ref a4, .ref a5, .ref a6, .ref a7, .int (nI n)])), (a3, aZ d 10 (updB me j p)), (a4, aZ d 10 (updB ins j q))] rfl (by omega) rfl rfl rfl ?_
      refine y_iload (pc := 45) hC 0 dX3_enrol_45 rfl ?_
      exact y_iret hC hQ rfl rfl (by simp only [c_1, c_3, ↓reduceIte, cond_true, cond_false]) (nb rfl) (nb rfl) dX3_enrol_47
    · refine y_iconst (pc := 23) hC dX3_enrol_23 2 (by decide) ?_
      refine y_goto (pc := 24) hC dX3_enrol_24 28 (by decide) ?_
      refine y_iadd (pc := 28) hC dX3_enrol_28 (1 + 2) rfl ?_
      refine y_istore (pc := 29) hC dX3_enrol_29 [(4, .int (1 + 2)), (0, .ref a0), (1, .int (nI j)), (2, .int (bI p)), (3, .int (bI q))] rfl (by decide) ?_
      refine y_aload_n (pc := 31) hC 1 dX3_enrol_31 rfl ?_
      refine y_get (pc := 32) hC 0 2 dX3_enrol_32 rfl rfl inX3 (by decide) kw_1_37 rfl rfl ?_
      refine y_iload_n (pc := 35) hC 2 dX3_enrol_35 rfl ?_
      refine y_iload_n (pc := 36) hC 3 dX3_enrol_36 rfl ?_
      refine y_zast (pc := 37) hC 1 (j := j) dX3_enrol_37 p (updB me j p) [(a0, .inr (3, [.ref a1, .ref a2, .ref a3, .ref a4, .ref a5, .ref a6, .ref a7, .int (nI n)])), (a3, aZ d 10 (updB me j p)), (a4, aZ d 10 ins)] rfl (by omega) rfl rfl rfl ?_
      refine y_aload_n (pc := 38) hC 1 dX3_enrol_38 rfl ?_
      refine y_get (pc := 39) hC 0 3 dX3_enrol_39 rfl rfl inX3 (by decide) kw_1_38 rfl rfl ?_
      refine y_iload_n (pc := 42) hC 2 dX3_enrol_42 rfl ?_
      refine y_iload_n (pc := 43) hC 4 dX3_enrol_43 rfl ?_
      refine y_zast (pc := 44) hC 2 (j := j) dX3_enrol_44 q (updB ins j q) [(a0, .inr (3, [.ref a1, .ref a2, .ref a3, .ref a4, .ref a5, .ref a6, .ref a7, .int (nI n)])), (a3, aZ d 10 (updB me j p)), (a4, aZ d 10 (updB ins j q))] rfl (by omega) rfl rfl rfl ?_
      refine y_iload (pc := 45) hC 0 dX3_enrol_45 rfl ?_
      exact y_iret hC hQ rfl rfl (by simp only [c_1, c_3, ↓reduceIte, cond_true, cond_false]) (nb rfl) (nb rfl) dX3_enrol_47
theorem n_X3_enrol : yyN yX3_enrol RX3 3 := by refine ⟨rfl, ?_, ?_, ?_⟩ <;> decide +kernel
set_option maxHeartbeats 4000000 in
set_option maxRecDepth 100000 in
theorem c_X3_add (l : Launch) (d : yyD) (a0 : Nat) (a1 : Nat) (a2 : Nat) (a3 : Nat) (a4 : Nat) (a5 : Nat) (a6 : Nat) (a7 : Nat) (pl : fI) (vi : fI) (me : fB) (ins : fB) (n : Nat) (x : Int32) (y : Int32) (p : Bool) (q : Bool) (hn : n < 10) : yyI l yX3_add cX3_add 6 (some .int) { frames := 0, cells := 0, slots := 0, locals := 0 } d [.ref a0, .int x, .int y, .int (bI p), .int (bI q)] [(a0, .inr (3, [.ref a1, .ref a2, .ref a3, .ref a4, .ref a5, .ref a6, .ref a7, .int (nI n)])), (a1, aI d 10 pl), (a2, aI d 10 vi), (a3, aZ d 10 me), (a4, aZ d 10 ins)] [(a0, .inr (3, [.ref a1, .ref a2, .ref a3, .ref a4, .ref a5, .ref a6, .ref a7, .int (nI (n + 1))])), (a1, aI d 10 (upd pl n x)), (a2, aI d 10 (upd vi n y)), (a3, aZ d 10 (updB me n p)), (a4, aZ d 10 (updB ins n q))] (nI n) := by
  refine yyI_of (own := RX3) [(0, .ref a0), (1, .int x), (2, .int y), (3, .int (bI p)), (4, .int (bI q))] (by decide +kernel) rfl (Nat.le_of_ble_eq_true rfl) rfl ?_
  intro G Q hQ hGL hC hGA
  refine y_aload_n (pc := 0) hC 0 dX3_add_0 rfl ?_
  refine y_get (pc := 1) hC 0 7 dX3_add_1 rfl rfl inX3 (by decide) kw_1_43 rfl rfl ?_
  refine y_istore (pc := 4) hC dX3_add_4 [(5, .int (nI n)), (0, .ref a0), (1, .int x), (2, .int y), (3, .int (bI p)), (4, .int (bI q))] rfl (by decide) ?_
  refine y_aload_n (pc := 6) hC 1 dX3_add_6 rfl ?_
  refine y_get (pc := 7) hC 0 0 dX3_add_7 rfl rfl inX3 (by decide) kw_1_35 rfl rfl ?_
  refine y_iload (pc := 10) hC 0 dX3_add_10 rfl ?_
  refine y_iload_n (pc := 12) hC 2 dX3_add_12 rfl ?_
  refine y_iast (pc := 13) hC 1 (j := n) dX3_add_13 (upd pl n x) [(a0, .inr (3, [.ref a1, .ref a2, .ref a3, .ref a4, .ref a5, .ref a6, .ref a7, .int (nI n)])), (a1, aI d 10 (upd pl n x)), (a2, aI d 10 vi), (a3, aZ d 10 me), (a4, aZ d 10 ins)] rfl (by omega) rfl rfl rfl ?_
  refine y_aload_n (pc := 14) hC 1 dX3_add_14 rfl ?_
  refine y_get (pc := 15) hC 0 1 dX3_add_15 rfl rfl inX3 (by decide) kw_1_36 rfl rfl ?_
  refine y_iload (pc := 18) hC 0 dX3_add_18 rfl ?_
  refine y_iload_n (pc := 20) hC 3 dX3_add_20 rfl ?_
  refine y_iast (pc := 21) hC 2 (j := n) dX3_add_21 (upd vi n y) [(a0, .inr (3, [.ref a1, .ref a2, .ref a3, .ref a4, .ref a5, .ref a6, .ref a7, .int (nI n)])), (a1, aI d 10 (upd pl n x)), (a2, aI d 10 (upd vi n y)), (a3, aZ d 10 me), (a4, aZ d 10 ins)] rfl (by omega) rfl rfl rfl ?_
  refine y_aload_n (pc := 22) hC 1 dX3_add_22 rfl ?_
  refine y_get (pc := 23) hC 0 2 dX3_add_23 rfl rfl inX3 (by decide) kw_1_37 rfl rfl ?_
  refine y_iload (pc := 26) hC 0 dX3_add_26 rfl ?_
  refine y_iload_n (pc := 28) hC 4 dX3_add_28 rfl ?_
  refine y_zast (pc := 29) hC 3 (j := n) dX3_add_29 p (updB me n p) [(a0, .inr (3, [.ref a1, .ref a2, .ref a3, .ref a4, .ref a5, .ref a6, .ref a7, .int (nI n)])), (a1, aI d 10 (upd pl n x)), (a2, aI d 10 (upd vi n y)), (a3, aZ d 10 (updB me n p)), (a4, aZ d 10 ins)] rfl (by omega) rfl rfl rfl ?_
  refine y_aload_n (pc := 30) hC 1 dX3_add_30 rfl ?_
  refine y_get (pc := 31) hC 0 3 dX3_add_31 rfl rfl inX3 (by decide) kw_1_38 rfl rfl ?_
  refine y_iload (pc := 34) hC 0 dX3_add_34 rfl ?_
  refine y_iload (pc := 36) hC 5 dX3_add_36 rfl ?_
  refine y_zast (pc := 38) hC 4 (j := n) dX3_add_38 q (updB ins n q) [(a0, .inr (3, [.ref a1, .ref a2, .ref a3, .ref a4, .ref a5, .ref a6, .ref a7, .int (nI n)])), (a1, aI d 10 (upd pl n x)), (a2, aI d 10 (upd vi n y)), (a3, aZ d 10 (updB me n p)), (a4, aZ d 10 (updB ins n q))] rfl (by omega) rfl rfl rfl ?_
  refine y_aload_n (pc := 39) hC 1 dX3_add_39 rfl ?_
  refine y_dup (pc := 40) hC dX3_add_40 rfl ?_
  refine y_get (pc := 41) hC 0 7 dX3_add_41 rfl rfl inX3 (by decide) kw_1_43 rfl rfl ?_
  refine y_iconst (pc := 44) hC dX3_add_44 1 (by decide) ?_
  refine y_iadd (pc := 45) hC dX3_add_45 (nI (n + 1)) (nI_1 _) ?_
  refine y_put (pc := 46) hC 0 7 .int dX3_add_46 tyX3 [(a0, .inr (3, [.ref a1, .ref a2, .ref a3, .ref a4, .ref a5, .ref a6, .ref a7, .int (nI (n + 1))])), (a1, aI d 10 (upd pl n x)), (a2, aI d 10 (upd vi n y)), (a3, aZ d 10 (updB me n p)), (a4, aZ d 10 (updB ins n q))] rfl rfl rfl inX3 tyX3_ok nmX3 (by decide) kw_1_43 rfl rfl (by decide +kernel) rfl rfl (Nat.le_of_ble_eq_true rfl) ?_
  refine y_iload (pc := 49) hC 0 dX3_add_49 rfl ?_
  exact y_iret hC hQ rfl rfl rfl (nb rfl) (nb rfl) dX3_add_51
theorem n_X3_add : yyN yX3_add RX3 4 := by refine ⟨rfl, ?_, ?_, ?_⟩ <;> decide +kernel
set_option maxHeartbeats 4000000 in
set_option maxRecDepth 100000 in
theorem c_X3_copyFrom (l : Launch) (d : yyD) (a0 : Nat) (a1 : Nat) (a2 : Nat) (a3 : Nat) (a4 : Nat) (a5 : Nat) (a6 : Nat) (a7 : Nat) (b0 : Nat) (b1 : Nat) (b2 : Nat) (b3 : Nat) (b4 : Nat) (b5 : Nat) (b6 : Nat) (b7 : Nat) (pl : fI) (vi : fI) (me : fB) (ins : fB) (lt : fI) (su : fI) (la : fI) (pl2 : fI) (vi2 : fI) (me2 : fB) (ins2 : fB) (lt2 : fI) (su2 : fI) (la2 : fI) (n : Nat) (n2 : Nat)  : yyV (S := Unit) l yX3_copyFrom cX3_copyFrom 3 { frames := 1, cells := 0, slots := 0, locals := 18 } d [.ref a0, .ref b0] [(a0, .inr (3, [.ref a1, .ref a2, .ref a3, .ref a4, .ref a5, .ref a6, .ref a7, .int (nI n)])), (a1, aI d 10 pl), (a2, aI d 10 vi), (a3, aZ d 10 me), (a4, aZ d 10 ins), (a5, aI d 10 lt), (a6, aI d 10 su), (a7, aI d 10 la), (b0, .inr (3, [.ref b1, .ref b2, .ref b3, .ref b4, .ref b5, .ref b6, .ref b7, .int (nI n2)])), (b1, aI d 10 pl2), (b2, aI d 10 vi2), (b3, aZ d 10 me2), (b4, aZ d 10 ins2), (b5, aI d 10 lt2), (b6, aI d 10 su2), (b7, aI d 10 la2)] (fun _ => True) (fun _ => [(a0, .inr (3, [.ref a1, .ref a2, .ref a3, .ref a4, .ref a5, .ref a6, .ref a7, .int (nI n2)])), (a1, aI d 10 pl2), (a2, aI d 10 vi2), (a3, aZ d 10 me2), (a4, aZ d 10 ins2), (a5, aI d 10 lt2), (a6, aI d 10 su2), (a7, aI d 10 la2), (b0, .inr (3, [.ref b1, .ref b2, .ref b3, .ref b4, .ref b5, .ref b6, .ref b7, .int (nI n2)])), (b1, aI d 10 pl2), (b2, aI d 10 vi2), (b3, aZ d 10 me2), (b4, aZ d 10 ins2), (b5, aI d 10 lt2), (b6, aI d 10 su2), (b7, aI d 10 la2)]) := by
  refine yyV_of (own := RX3) [(0, .ref a0), (1, .ref b0)] (by decide +kernel) rfl (Nat.le_of_ble_eq_true rfl) rfl ?_
  intro G Q hQ hGL hC hGA hin
  refine y_aload_n (pc := 0) hC 1 dX3_copyFrom_0 rfl ?_
  refine y_get (pc := 1) hC 8 0 dX3_copyFrom_1 rfl rfl inX3 (by decide) kw_1_35 rfl rfl ?_
  refine y_iconst (pc := 4) hC dX3_copyFrom_4 0 (by decide) ?_
  refine y_aload_n (pc := 5) hC 0 dX3_copyFrom_5 rfl ?_
  refine y_get (pc := 6) hC 0 0 dX3_copyFrom_6 rfl rfl inX3 (by decide) kw_1_35 rfl rfl ?_
  refine y_iconst (pc := 9) hC dX3_copyFrom_9 0 (by decide) ?_
  refine y_bipush (pc := 10) hC dX3_copyFrom_10 10 (by decide) ?_
  refine y_copyI (pc := 12) hC dX3_copyFrom_12 9 1 [(a0, .inr (3, [.ref a1, .ref a2, .ref a3, .ref a4, .ref a5, .ref a6, .ref a7, .int (nI n)])), (a1, aI d 10 pl2), (a2, aI d 10 vi), (a3, aZ d 10 me), (a4, aZ d 10 ins), (a5, aI d 10 lt), (a6, aI d 10 su), (a7, aI d 10 la), (b0, .inr (3, [.ref b1, .ref b2, .ref b3, .ref b4, .ref b5, .ref b6, .ref b7, .int (nI n2)])), (b1, aI d 10 pl2), (b2, aI d 10 vi2), (b3, aZ d 10 me2), (b4, aZ d 10 ins2), (b5, aI d 10 lt2), (b6, aI d 10 su2), (b7, aI d 10 la2)] rfl rfl rfl rfl rfl rfl rfl kw_2_132 kw_2_134 kw_2_133 kw_1_14 ⟨nb rfl, nb rfl⟩ ?_
  refine y_aload_n (pc := 15) hC 1 dX3_copyFrom_15 rfl ?_
  refine y_get (pc := 16) hC 8 1 dX3_copyFrom_16 rfl rfl inX3 (by decide) kw_1_36 rfl rfl ?_
  refine y_iconst (pc := 19) hC dX3_copyFrom_19 0 (by decide) ?_
  refine y_aload_n (pc := 20) hC 0 dX3_copyFrom_20 rfl ?_
  refine y_get (pc := 21) hC 0 1 dX3_copyFrom_21 rfl rfl inX3 (by decide) kw_1_36 rfl rfl ?_
  refine y_iconst (pc := 24) hC dX3_copyFrom_24 0 (by decide) ?_
  refine y_bipush (pc := 25) hC dX3_copyFrom_25 10 (by decide) ?_
  refine y_copyI (pc := 27) hC dX3_copyFrom_27 10 2 [(a0, .inr (3, [.ref a1, .ref a2, .ref a3, .ref a4, .ref a5, .ref a6, .ref a7, .int (nI n)])), (a1, aI d 10 pl2), (a2, aI d 10 vi2), (a3, aZ d 10 me), (a4, aZ d 10 ins), (a5, aI d 10 lt), (a6, aI d 10 su), (a7, aI d 10 la), (b0, .inr (3, [.ref b1, .ref b2, .ref b3, .ref b4, .ref b5, .ref b6, .ref b7, .int (nI n2)])), (b1, aI d 10 pl2), (b2, aI d 10 vi2), (b3, aZ d 10 me2), (b4, aZ d 10 ins2), (b5, aI d 10 lt2), (b6, aI d 10 su2), (b7, aI d 10 la2)] rfl rfl rfl rfl rfl rfl rfl kw_2_132 kw_2_134 kw_2_133 kw_1_14 ⟨nb rfl, nb rfl⟩ ?_
  refine y_aload_n (pc := 30) hC 1 dX3_copyFrom_30 rfl ?_
  refine y_get (pc := 31) hC 8 4 dX3_copyFrom_31 rfl rfl inX3 (by decide) kw_1_39 rfl rfl ?_
  refine y_iconst (pc := 34) hC dX3_copyFrom_34 0 (by decide) ?_
  refine y_aload_n (pc := 35) hC 0 dX3_copyFrom_35 rfl ?_
  refine y_get (pc := 36) hC 0 4 dX3_copyFrom_36 rfl rfl inX3 (by decide) kw_1_39 rfl rfl ?_
  refine y_iconst (pc := 39) hC dX3_copyFrom_39 0 (by decide) ?_
  refine y_bipush (pc := 40) hC dX3_copyFrom_40 10 (by decide) ?_
  refine y_copyI (pc := 42) hC dX3_copyFrom_42 13 5 [(a0, .inr (3, [.ref a1, .ref a2, .ref a3, .ref a4, .ref a5, .ref a6, .ref a7, .int (nI n)])), (a1, aI d 10 pl2), (a2, aI d 10 vi2), (a3, aZ d 10 me), (a4, aZ d 10 ins), (a5, aI d 10 lt2), (a6, aI d 10 su), (a7, aI d 10 la), (b0, .inr (3, [.ref b1, .ref b2, .ref b3, .ref b4, .ref b5, .ref b6, .ref b7, .int (nI n2)])), (b1, aI d 10 pl2), (b2, aI d 10 vi2), (b3, aZ d 10 me2), (b4, aZ d 10 ins2), (b5, aI d 10 lt2), (b6, aI d 10 su2), (b7, aI d 10 la2)] rfl rfl rfl rfl rfl rfl rfl kw_2_132 kw_2_134 kw_2_133 kw_1_14 ⟨nb rfl, nb rfl⟩ ?_
  refine y_aload_n (pc := 45) hC 1 dX3_copyFrom_45 rfl ?_
  refine y_get (pc := 46) hC 8 5 dX3_copyFrom_46 rfl rfl inX3 (by decide) kw_1_40 rfl rfl ?_
  refine y_iconst (pc := 49) hC dX3_copyFrom_49 0 (by decide) ?_
  refine y_aload_n (pc := 50) hC 0 dX3_copyFrom_50 rfl ?_
  refine y_get (pc := 51) hC 0 5 dX3_copyFrom_51 rfl rfl inX3 (by decide) kw_1_40 rfl rfl ?_
  refine y_iconst (pc := 54) hC dX3_copyFrom_54 0 (by decide) ?_
  refine y_bipush (pc := 55) hC dX3_copyFrom_55 10 (by decide) ?_
  refine y_copyI (pc := 57) hC dX3_copyFrom_57 14 6 [(a0, .inr (3, [.ref a1, .ref a2, .ref a3, .ref a4, .ref a5, .ref a6, .ref a7, .int (nI n)])), (a1, aI d 10 pl2), (a2, aI d 10 vi2), (a3, aZ d 10 me), (a4, aZ d 10 ins), (a5, aI d 10 lt2), (a6, aI d 10 su2), (a7, aI d 10 la), (b0, .inr (3, [.ref b1, .ref b2, .ref b3, .ref b4, .ref b5, .ref b6, .ref b7, .int (nI n2)])), (b1, aI d 10 pl2), (b2, aI d 10 vi2), (b3, aZ d 10 me2), (b4, aZ d 10 ins2), (b5, aI d 10 lt2), (b6, aI d 10 su2), (b7, aI d 10 la2)] rfl rfl rfl rfl rfl rfl rfl kw_2_132 kw_2_134 kw_2_133 kw_1_14 ⟨nb rfl, nb rfl⟩ ?_
  refine y_aload_n (pc := 60) hC 1 dX3_copyFrom_60 rfl ?_
  refine y_get (pc := 61) hC 8 6 dX3_copyFrom_61 rfl rfl inX3 (by decide) kw_1_41 rfl rfl ?_
  refine y_iconst (pc := 64) hC dX3_copyFrom_64 0 (by decide) ?_
  refine y_aload_n (pc := 65) hC 0 dX3_copyFrom_65 rfl ?_
  refine y_get (pc := 66) hC 0 6 dX3_copyFrom_66 rfl rfl inX3 (by decide) kw_1_41 rfl rfl ?_
  refine y_iconst (pc := 69) hC dX3_copyFrom_69 0 (by decide) ?_
  refine y_bipush (pc := 70) hC dX3_copyFrom_70 10 (by decide) ?_
  refine y_copyI (pc := 72) hC dX3_copyFrom_72 15 7 [(a0, .inr (3, [.ref a1, .ref a2, .ref a3, .ref a4, .ref a5, .ref a6, .ref a7, .int (nI n)])), (a1, aI d 10 pl2), (a2, aI d 10 vi2), (a3, aZ d 10 me), (a4, aZ d 10 ins), (a5, aI d 10 lt2), (a6, aI d 10 su2), (a7, aI d 10 la2), (b0, .inr (3, [.ref b1, .ref b2, .ref b3, .ref b4, .ref b5, .ref b6, .ref b7, .int (nI n2)])), (b1, aI d 10 pl2), (b2, aI d 10 vi2), (b3, aZ d 10 me2), (b4, aZ d 10 ins2), (b5, aI d 10 lt2), (b6, aI d 10 su2), (b7, aI d 10 la2)] rfl rfl rfl rfl rfl rfl rfl kw_2_132 kw_2_134 kw_2_133 kw_1_14 ⟨nb rfl, nb rfl⟩ ?_
  refine y_iconst (pc := 75) hC dX3_copyFrom_75 0 (by decide) ?_
  refine y_istore_n (pc := 76) hC dX3_copyFrom_76 [(2, .int 0), (0, .ref a0), (1, .ref b0)] rfl (by decide) ?_
  have lpj1 : ∀ r1 j1 : Nat, j1 + r1 = 10 → yyW d G 0 0 Q [(a0, .inr (3, [.ref a1, .ref a2, .ref a3, .ref a4, .ref a5, .ref a6, .ref a7, .int (nI n)])), (a1, aI d 10 pl2), (a2, aI d 10 vi2), (a3, aZ d 10 (yi j1 (fun k w => updB w k (me2 k)) me)), (a4, aZ d 10 (yi j1 (fun k w => updB w k (ins2 k)) ins)), (a5, aI d 10 lt2), (a6, aI d 10 su2), (a7, aI d 10 la2), (b0, .inr (3, [.ref b1, .ref b2, .ref b3, .ref b4, .ref b5, .ref b6, .ref b7, .int (nI n2)])), (b1, aI d 10 pl2), (b2, aI d 10 vi2), (b3, aZ d 10 me2), (b4, aZ d 10 ins2), (b5, aI d 10 lt2), (b6, aI d 10 su2), (b7, aI d 10 la2)] [(2, .int (nI j1)), (0, .ref a0), (1, .ref b0)] 77 [] := by
    intro r1
    induction r1 with
    | zero =>
      intro j1 hj1
      have ej1 : j1 = 10 := by omega
      rw [ej1]
      refine y_iload_n (pc := 77) hC 0 dX3_copyFrom_77 rfl ?_
      refine y_bipush (pc := 78) hC dX3_copyFrom_78 10 (by decide) ?_
      refine y_ge_t (pc := 80) (a := 10) (b := 10) hC dX3_copyFrom_80 113 (by decide) (by omega) (by omega) ?_
      refine y_aZx 3 me2 [(a0, .inr (3, [.ref a1, .ref a2, .ref a3, .ref a4, .ref a5, .ref a6, .ref a7, .int (nI n)])), (a1, aI d 10 pl2), (a2, aI d 10 vi2), (a3, aZ d 10 me2), (a4, aZ d 10 (yi 10 (fun k w => updB w k (ins2 k)) ins)), (a5, aI d 10 lt2), (a6, aI d 10 su2), (a7, aI d 10 la2), (b0, .inr (3, [.ref b1, .ref b2, .ref b3, .ref b4, .ref b5, .ref b6, .ref b7, .int (nI n2)])), (b1, aI d 10 pl2), (b2, aI d 10 vi2), (b3, aZ d 10 me2), (b4, aZ d 10 ins2), (b5, aI d 10 lt2), (b6, aI d 10 su2), (b7, aI d 10 la2)] rfl (cpB_in _ _ _) rfl ?_
      refine y_aZx 4 ins2 [(a0, .inr (3, [.ref a1, .ref a2, .ref a3, .ref a4, .ref a5, .ref a6, .ref a7, .int (nI n)])), (a1, aI d 10 pl2), (a2, aI d 10 vi2), (a3, aZ d 10 me2), (a4, aZ d 10 ins2), (a5, aI d 10 lt2), (a6, aI d 10 su2), (a7, aI d 10 la2), (b0, .inr (3, [.ref b1, .ref b2, .ref b3, .ref b4, .ref b5, .ref b6, .ref b7, .int (nI n2)])), (b1, aI d 10 pl2), (b2, aI d 10 vi2), (b3, aZ d 10 me2), (b4, aZ d 10 ins2), (b5, aI d 10 lt2), (b6, aI d 10 su2), (b7, aI d 10 la2)] rfl (cpB_in _ _ _) rfl ?_
      refine y_aload_n (pc := 113) hC 1 dX3_copyFrom_113 rfl ?_
      refine y_aload_n (pc := 114) hC 2 dX3_copyFrom_114 rfl ?_
      refine y_get (pc := 115) hC 8 7 dX3_copyFrom_115 rfl rfl inX3 (by decide) kw_1_43 rfl rfl ?_
      refine y_put (pc := 118) hC 0 7 .int dX3_copyFrom_118 tyX3 [(a0, .inr (3, [.ref a1, .ref a2, .ref a3, .ref a4, .ref a5, .ref a6, .ref a7, .int (nI n2)])), (a1, aI d 10 pl2), (a2, aI d 10 vi2), (a3, aZ d 10 me2), (a4, aZ d 10 ins2), (a5, aI d 10 lt2), (a6, aI d 10 su2), (a7, aI d 10 la2), (b0, .inr (3, [.ref b1, .ref b2, .ref b3, .ref b4, .ref b5, .ref b6, .ref b7, .int (nI n2)])), (b1, aI d 10 pl2), (b2, aI d 10 vi2), (b3, aZ d 10 me2), (b4, aZ d 10 ins2), (b5, aI d 10 lt2), (b6, aI d 10 su2), (b7, aI d 10 la2)] rfl rfl rfl inX3 tyX3_ok nmX3 (by decide) kw_1_43 rfl rfl (by decide +kernel) rfl rfl (Nat.le_of_ble_eq_true rfl) ?_
      exact y_vret (()) hC hQ (trivial) rfl (nb rfl) (nb rfl) dX3_copyFrom_121
    | succ r1 ihj1 =>
      intro j1 hj1
      have lj1 : j1 < 10 := by omega
      refine y_iload_n (pc := 77) hC 0 dX3_copyFrom_77 rfl ?_
      refine y_bipush (pc := 78) hC dX3_copyFrom_78 10 (by decide) ?_
      refine y_ge_f (pc := 80) (a := j1) (b := 10) hC dX3_copyFrom_80 113 (by decide) (by omega) (by omega) ?_
      refine y_aload_n (pc := 83) hC 1 dX3_copyFrom_83 rfl ?_
      refine y_get (pc := 84) hC 0 2 dX3_copyFrom_84 rfl rfl inX3 (by decide) kw_1_37 rfl rfl ?_
      refine y_iload_n (pc := 87) hC 0 dX3_copyFrom_87 rfl ?_
      refine y_aload_n (pc := 88) hC 2 dX3_copyFrom_88 rfl ?_
      refine y_get (pc := 89) hC 8 2 dX3_copyFrom_89 rfl rfl inX3 (by decide) kw_1_37 rfl rfl ?_
      refine y_iload_n (pc := 92) hC 0 dX3_copyFrom_92 rfl ?_
      refine y_zald (pc := 93) hC 11 (j := j1) dX3_copyFrom_93 (bI (me2 j1)) rfl (by omega) rfl rfl ?_
      refine y_zast (pc := 94) hC 3 (j := j1) dX3_copyFrom_94 (me2 j1) (updB (yi j1 (fun k w => updB w k (me2 k)) me) j1 (me2 j1)) [(a0, .inr (3, [.ref a1, .ref a2, .ref a3, .ref a4, .ref a5, .ref a6, .ref a7, .int (nI n)])), (a1, aI d 10 pl2), (a2, aI d 10 vi2), (a3, aZ d 10 (updB (yi j1 (fun k w => updB w k (me2 k)) me) j1 (me2 j1))), (a4, aZ d 10 (yi j1 (fun k w => updB w k (ins2 k)) ins)), (a5, aI d 10 lt2), (a6, aI d 10 su2), (a7, aI d 10 la2), (b0, .inr (3, [.ref b1, .ref b2, .ref b3, .ref b4, .ref b5, .ref b6, .ref b7, .int (nI n2)])), (b1, aI d 10 pl2), (b2, aI d 10 vi2), (b3, aZ d 10 me2), (b4, aZ d 10 ins2), (b5, aI d 10 lt2), (b6, aI d 10 su2), (b7, aI d 10 la2)] rfl (by omega) rfl rfl rfl ?_
      refine y_aload_n (pc := 95) hC 1 dX3_copyFrom_95 rfl ?_
      refine y_get (pc := 96) hC 0 3 dX3_copyFrom_96 rfl rfl inX3 (by decide) kw_1_38 rfl rfl ?_
      refine y_iload_n (pc := 99) hC 0 dX3_copyFrom_99 rfl ?_
      refine y_aload_n (pc := 100) hC 2 dX3_copyFrom_100 rfl ?_
      refine y_get (pc := 101) hC 8 3 dX3_copyFrom_101 rfl rfl inX3 (by decide) kw_1_38 rfl rfl ?_
      refine y_iload_n (pc := 104) hC 0 dX3_copyFrom_104 rfl ?_
      refine y_zald (pc := 105) hC 12 (j := j1) dX3_copyFrom_105 (bI (ins2 j1)) rfl (by omega) rfl rfl ?_
      refine y_zast (pc := 106) hC 4 (j := j1) dX3_copyFrom_106 (ins2 j1) (updB (yi j1 (fun k w => updB w k (ins2 k)) ins) j1 (ins2 j1)) [(a0, .inr (3, [.ref a1, .ref a2, .ref a3, .ref a4, .ref a5, .ref a6, .ref a7, .int (nI n)])), (a1, aI d 10 pl2), (a2, aI d 10 vi2), (a3, aZ d 10 (updB (yi j1 (fun k w => updB w k (me2 k)) me) j1 (me2 j1))), (a4, aZ d 10 (updB (yi j1 (fun k w => updB w k (ins2 k)) ins) j1 (ins2 j1))), (a5, aI d 10 lt2), (a6, aI d 10 su2), (a7, aI d 10 la2), (b0, .inr (3, [.ref b1, .ref b2, .ref b3, .ref b4, .ref b5, .ref b6, .ref b7, .int (nI n2)])), (b1, aI d 10 pl2), (b2, aI d 10 vi2), (b3, aZ d 10 me2), (b4, aZ d 10 ins2), (b5, aI d 10 lt2), (b6, aI d 10 su2), (b7, aI d 10 la2)] rfl (by omega) rfl rfl rfl ?_
      refine y_iinc (pc := 107) hC 0 dX3_copyFrom_107 (nI (j1 + 1)) [(2, .int (nI (j1 + 1))), (0, .ref a0), (1, .ref b0)] rfl (nI_inc _) rfl (by decide) ?_
      refine y_goto (pc := 110) hC dX3_copyFrom_110 77 (by decide) ?_
      refine y_ws [(a0, .inr (3, [.ref a1, .ref a2, .ref a3, .ref a4, .ref a5, .ref a6, .ref a7, .int (nI n)])), (a1, aI d 10 pl2), (a2, aI d 10 vi2), (a3, aZ d 10 (yi (j1 + 1) (fun k w => updB w k (me2 k)) me)), (a4, aZ d 10 (yi (j1 + 1) (fun k w => updB w k (ins2 k)) ins)), (a5, aI d 10 lt2), (a6, aI d 10 su2), (a7, aI d 10 la2), (b0, .inr (3, [.ref b1, .ref b2, .ref b3, .ref b4, .ref b5, .ref b6, .ref b7, .int (nI n2)])), (b1, aI d 10 pl2), (b2, aI d 10 vi2), (b3, aZ d 10 me2), (b4, aZ d 10 ins2), (b5, aI d 10 lt2), (b6, aI d 10 su2), (b7, aI d 10 la2)] rfl ?_
      exact ihj1 (j1 + 1) (by omega)
  refine y_lv [(2, .int 0), (0, .ref a0), (1, .ref b0)] [0, 1, 2] rfl ?_
  exact lpj1 10 0 (by omega)
theorem n_X3_copyFrom : yyN yX3_copyFrom RX3 1 := by refine ⟨rfl, ?_, ?_, ?_⟩ <;> decide +kernel
set_option maxHeartbeats 4000000 in
set_option maxRecDepth 100000 in
theorem c_X3_init (l : Launch) (d : yyD) (a0 : Nat)  : yyV (S := Nat → Nat) l yX3_init cX3_init 1 { frames := 1, cells := 7, slots := 70, locals := 12 } d [.ref a0] [(a0, .inr (3, [.null, .null, .null, .null, .null, .null, .null, .int 0]))] (fun _ => True) (fun u => [(a0, .inr (3, [.ref (u 1), .ref (u 2), .ref (u 3), .ref (u 4), .ref (u 5), .ref (u 6), .ref (u 7), .int (nI 0)])), (u 1, aI d 10 (fun _ => 0)), (u 2, aI d 10 (fun _ => 0)), (u 3, aZ d 10 (fun _ => false)), (u 4, aZ d 10 (fun _ => false)), (u 5, aI d 10 (fun _ => 0)), (u 6, aI d 10 (fun _ => 0)), (u 7, aI d 10 (fun _ => 0))]) := by
  refine yyV_of (own := RX3) [(0, .ref a0)] (by decide +kernel) rfl (Nat.le_of_ble_eq_true rfl) rfl ?_
  intro G Q hQ hGL hC hGA hin
  refine y_aload_n (pc := 0) hC 0 dX3_init_0 rfl ?_
  refine y_obj (pc := 1) hC kw_1_34 kw_1_21 kw_1_22 ⟨nb rfl, nb rfl⟩ dX3_init_1 ?_
  refine y_aload_n (pc := 4) hC 0 dX3_init_4 rfl ?_
  refine y_bipush (pc := 5) hC dX3_init_5 10 (by decide) ?_
  refine y_newaI (pc := 7) hC dX3_init_7 10 (fun q1 => [(a0, .inr (3, [.null, .null, .null, .null, .null, .null, .null, .int 0])), (q1, aI d 10 (fun _ => 0))]) rfl rfl kw_1_62 ⟨nb rfl, nb rfl⟩ (fun _ => rfl) (fun q1 => ?_)
  refine y_putF (pc := 9) hC hin 0 0 (.array .int) dX3_init_9 tyX3 [(a0, .inr (3, [.ref q1, .null, .null, .null, .null, .null, .null, .int 0])), (q1, aI d 10 (fun _ => 0))] rfl rfl rfl inX3 tyX3_ok nmX3 (by decide) kw_1_35 rfl rfl rfl (by decide +kernel) rfl rfl (Nat.le_of_ble_eq_true rfl) ?_
  refine y_aload_n (pc := 12) hC 0 dX3_init_12 rfl ?_
  refine y_bipush (pc := 13) hC dX3_init_13 10 (by decide) ?_
  refine y_newaI (pc := 15) hC dX3_init_15 10 (fun q2 => [(a0, .inr (3, [.ref q1, .null, .null, .null, .null, .null, .null, .int 0])), (q1, aI d 10 (fun _ => 0)), (q2, aI d 10 (fun _ => 0))]) rfl rfl kw_1_62 ⟨nb rfl, nb rfl⟩ (fun _ => rfl) (fun q2 => ?_)
  refine y_putF (pc := 17) hC hin 0 1 (.array .int) dX3_init_17 tyX3 [(a0, .inr (3, [.ref q1, .ref q2, .null, .null, .null, .null, .null, .int 0])), (q1, aI d 10 (fun _ => 0)), (q2, aI d 10 (fun _ => 0))] rfl rfl rfl inX3 tyX3_ok nmX3 (by decide) kw_1_36 rfl rfl rfl (by decide +kernel) rfl rfl (Nat.le_of_ble_eq_true rfl) ?_
  refine y_aload_n (pc := 20) hC 0 dX3_init_20 rfl ?_
  refine y_bipush (pc := 21) hC dX3_init_21 10 (by decide) ?_
  refine y_newaZ (pc := 23) hC dX3_init_23 10 (fun q3 => [(a0, .inr (3, [.ref q1, .ref q2, .null, .null, .null, .null, .null, .int 0])), (q1, aI d 10 (fun _ => 0)), (q2, aI d 10 (fun _ => 0)), (q3, aZ d 10 (fun _ => false))]) rfl rfl kw_1_63 ⟨nb rfl, nb rfl⟩ (fun _ => rfl) (fun q3 => ?_)
  refine y_putF (pc := 25) hC hin 0 2 (.array .boolean) dX3_init_25 tyX3 [(a0, .inr (3, [.ref q1, .ref q2, .ref q3, .null, .null, .null, .null, .int 0])), (q1, aI d 10 (fun _ => 0)), (q2, aI d 10 (fun _ => 0)), (q3, aZ d 10 (fun _ => false))] rfl rfl rfl inX3 tyX3_ok nmX3 (by decide) kw_1_37 rfl rfl rfl (by decide +kernel) rfl rfl (Nat.le_of_ble_eq_true rfl) ?_
  refine y_aload_n (pc := 28) hC 0 dX3_init_28 rfl ?_
  refine y_bipush (pc := 29) hC dX3_init_29 10 (by decide) ?_
  refine y_newaZ (pc := 31) hC dX3_init_31 10 (fun q4 => [(a0, .inr (3, [.ref q1, .ref q2, .ref q3, .null, .null, .null, .null, .int 0])), (q1, aI d 10 (fun _ => 0)), (q2, aI d 10 (fun _ => 0)), (q3, aZ d 10 (fun _ => false)), (q4, aZ d 10 (fun _ => false))]) rfl rfl kw_1_63 ⟨nb rfl, nb rfl⟩ (fun _ => rfl) (fun q4 => ?_)
  refine y_putF (pc := 33) hC hin 0 3 (.array .boolean) dX3_init_33 tyX3 [(a0, .inr (3, [.ref q1, .ref q2, .ref q3, .ref q4, .null, .null, .null, .int 0])), (q1, aI d 10 (fun _ => 0)), (q2, aI d 10 (fun _ => 0)), (q3, aZ d 10 (fun _ => false)), (q4, aZ d 10 (fun _ => false))] rfl rfl rfl inX3 tyX3_ok nmX3 (by decide) kw_1_38 rfl rfl rfl (by decide +kernel) rfl rfl (Nat.le_of_ble_eq_true rfl) ?_
  refine y_aload_n (pc := 36) hC 0 dX3_init_36 rfl ?_
  refine y_bipush (pc := 37) hC dX3_init_37 10 (by decide) ?_
  refine y_newaI (pc := 39) hC dX3_init_39 10 (fun q5 => [(a0, .inr (3, [.ref q1, .ref q2, .ref q3, .ref q4, .null, .null, .null, .int 0])), (q1, aI d 10 (fun _ => 0)), (q2, aI d 10 (fun _ => 0)), (q3, aZ d 10 (fun _ => false)), (q4, aZ d 10 (fun _ => false)), (q5, aI d 10 (fun _ => 0))]) rfl rfl kw_1_62 ⟨nb rfl, nb rfl⟩ (fun _ => rfl) (fun q5 => ?_)
  refine y_putF (pc := 41) hC hin 0 4 (.array .int) dX3_init_41 tyX3 [(a0, .inr (3, [.ref q1, .ref q2, .ref q3, .ref q4, .ref q5, .null, .null, .int 0])), (q1, aI d 10 (fun _ => 0)), (q2, aI d 10 (fun _ => 0)), (q3, aZ d 10 (fun _ => false)), (q4, aZ d 10 (fun _ => false)), (q5, aI d 10 (fun _ => 0))] rfl rfl rfl inX3 tyX3_ok nmX3 (by decide) kw_1_39 rfl rfl rfl (by decide +kernel) rfl rfl (Nat.le_of_ble_eq_true rfl) ?_
  refine y_aload_n (pc := 44) hC 0 dX3_init_44 rfl ?_
  refine y_bipush (pc := 45) hC dX3_init_45 10 (by decide) ?_
  refine y_newaI (pc := 47) hC dX3_init_47 10 (fun q6 => [(a0, .inr (3, [.ref q1, .ref q2, .ref q3, .ref q4, .ref q5, .null, .null, .int 0])), (q1, aI d 10 (fun _ => 0)), (q2, aI d 10 (fun _ => 0)), (q3, aZ d 10 (fun _ => false)), (q4, aZ d 10 (fun _ => false)), (q5, aI d 10 (fun _ => 0)), (q6, aI d 10 (fun _ => 0))]) rfl rfl kw_1_62 ⟨nb rfl, nb rfl⟩ (fun _ => rfl) (fun q6 => ?_)
  refine y_putF (pc := 49) hC hin 0 5 (.array .int) dX3_init_49 tyX3 [(a0, .inr (3, [.ref q1, .ref q2, .ref q3, .ref q4, .ref q5, .ref q6, .null, .int 0])), (q1, aI d 10 (fun _ => 0)), (q2, aI d 10 (fun _ => 0)), (q3, aZ d 10 (fun _ => false)), (q4, aZ d 10 (fun _ => false)), (q5, aI d 10 (fun _ => 0)), (q6, aI d 10 (fun _ => 0))] rfl rfl rfl inX3 tyX3_ok nmX3 (by decide) kw_1_40 rfl rfl rfl (by decide +kernel) rfl rfl (Nat.le_of_ble_eq_true rfl) ?_
  refine y_aload_n (pc := 52) hC 0 dX3_init_52 rfl ?_
  refine y_bipush (pc := 53) hC dX3_init_53 10 (by decide) ?_
  refine y_newaI (pc := 55) hC dX3_init_55 10 (fun q7 => [(a0, .inr (3, [.ref q1, .ref q2, .ref q3, .ref q4, .ref q5, .ref q6, .null, .int 0])), (q1, aI d 10 (fun _ => 0)), (q2, aI d 10 (fun _ => 0)), (q3, aZ d 10 (fun _ => false)), (q4, aZ d 10 (fun _ => false)), (q5, aI d 10 (fun _ => 0)), (q6, aI d 10 (fun _ => 0)), (q7, aI d 10 (fun _ => 0))]) rfl rfl kw_1_62 ⟨nb rfl, nb rfl⟩ (fun _ => rfl) (fun q7 => ?_)
  refine y_putF (pc := 57) hC hin 0 6 (.array .int) dX3_init_57 tyX3 [(a0, .inr (3, [.ref q1, .ref q2, .ref q3, .ref q4, .ref q5, .ref q6, .ref q7, .int 0])), (q1, aI d 10 (fun _ => 0)), (q2, aI d 10 (fun _ => 0)), (q3, aZ d 10 (fun _ => false)), (q4, aZ d 10 (fun _ => false)), (q5, aI d 10 (fun _ => 0)), (q6, aI d 10 (fun _ => 0)), (q7, aI d 10 (fun _ => 0))] rfl rfl rfl inX3 tyX3_ok nmX3 (by decide) kw_1_41 rfl rfl rfl (by decide +kernel) rfl rfl (Nat.le_of_ble_eq_true rfl) ?_
  refine y_aload_n (pc := 60) hC 0 dX3_init_60 rfl ?_
  refine y_iconst (pc := 61) hC dX3_init_61 0 (by decide) ?_
  refine y_put (pc := 62) hC 0 7 .int dX3_init_62 tyX3 [(a0, .inr (3, [.ref q1, .ref q2, .ref q3, .ref q4, .ref q5, .ref q6, .ref q7, .int 0])), (q1, aI d 10 (fun _ => 0)), (q2, aI d 10 (fun _ => 0)), (q3, aZ d 10 (fun _ => false)), (q4, aZ d 10 (fun _ => false)), (q5, aI d 10 (fun _ => 0)), (q6, aI d 10 (fun _ => 0)), (q7, aI d 10 (fun _ => 0))] rfl rfl rfl inX3 tyX3_ok nmX3 (by decide) kw_1_43 rfl rfl (by decide +kernel) rfl rfl (Nat.le_of_ble_eq_true rfl) ?_
  exact y_vret (fun i => match i with | 1 => q1 | 2 => q2 | 3 => q3 | 4 => q4 | 5 => q5 | 6 => q6 | 7 => q7 | _ => a0) hC hQ (trivial) rfl (nb rfl) (nb rfl) dX3_init_65
theorem n_X3_init : yyN yX3_init RX3 0 := by refine ⟨rfl, ?_, ?_, ?_⟩ <;> decide +kernel
