-- PURE, owed: (closed below, one by one)
theorem Jv_00 : Jv e00 0 s00 := sorry
theorem Jv_hour {e : ES} {h : Nat} {s : DS} (hJ : Jv e h s) (hh : h ≤ 10000) : Jv e (h + 1) (hourF e h s) := sorry
theorem Jv_pl {e : ES} {h : Nat} {s : DS} (hJ : Jv e h s) {x y : Int32} {p q : Bool} (hn : eN e < 10) (hx : rg x 0 29) (hy : rg y 0 99) : Jv (plE e x p q) h (plS e s y) := sorry
theorem Jv_sg {e : ES} {h : Nat} {s : DS} (hJ : Jv e h s) {j : Nat} {p q : Bool} : Jv (sgE e j p q) h s := sorry
theorem Jv_ca {e : ES} {h : Nat} {s : DS} (hJ : Jv e h s) {x y z : Int32} (hn : eNk e < 6) (hx : rg x 0 29) (hy : rg y 1 9) (hz : rg z 0 60) : Jv (caE e x y) h (caS e s z) := sorry
theorem Jv_lo {e : ES} {h : Nat} {s : DS} (hJ : Jv e h s) {j : Nat} {x : Int32} (hx : rg x 1 60) : Jv e h (loS s j x) := sorry
theorem Jv_ga {e : ES} {h : Nat} {s : DS} (hJ : Jv e h s) {x y z : Int32} (hn : eNc e < 20) (hx : rg x 0 29) (hy : rg y (-3) 3) (hz : rg z 0 60) : Jv (gaE e y) h (gaS e s x z) := sorry
theorem Jv_wi {e : ES} {h : Nat} {s : DS} (hJ : Jv e h s) {j : Nat} {x : Int32} (hx : rg x (-2) 2) : Jv (wiE e j x) h s := sorry
theorem Jv_mo {e : ES} {h : Nat} {s : DS} (hJ : Jv e h s) {j : Nat} {x : Int32} (hx : rg x 0 29) : Jv (moE e j x) h (moS s) := sorry
/-- ring by ring is the nearest -/
theorem aims_eq {e : ES} {h : Nat} {s : DS} (hJ : Jv e h s) (k : Nat) : aimsF (crow e s) (krow e s k 0) (krow e s k 2) (rrF e k) (eNc e) = arow e s k 4 := sorry
theorem arow_k {e : ES} {s : DS} {k w : Nat} (hw : w < 4) : arow e s k w = krow e s k w := sorry
theorem cnt_eq {e : ES} {h : Nat} {s : DS} {w : Nat} (hw : w < 10) : cntR h (sCo s) (eN e) (eNk e) (eNc e) (yrow e s) (krow e s) (crow e s) w = totF e h s w := sorry
theorem mean_eq (e : ES) (s : DS) : sumR (yrow e s) 1 (eN e) = sumF (sVi s) (eN e) := sorry
/-- an hour by rows is an hour -/
theorem pass_eq {e : ES} {h : Nat} {s : DS} (hJ : Jv e h s) (hh : h ≤ 10000) :
    (∀ k, k < eN e → ∀ w, w < 7 → (simD (rrF e) (eWd e (h % 6)) h (eN e) (eNk e) (eNc e) (yrow e s) (krow e s) (crow e s) (sCo s)).1 k w = yrow e (hourF e h s) k w) ∧
    (∀ k, k < eNk e → ∀ w, w < 4 → (simK (rrF e) (eWd e (h % 6)) (eN e) (eNk e) (eNc e) (yrow e s) (krow e s) (crow e s)).1 k w = krow e (hourF e h s) k w) ∧
    (∀ k, k < eNc e → ∀ w, w < 4 → (simC (rrF e) (eWd e (h % 6)) (eN e) (eNk e) (eNc e) (yrow e s) (krow e s) (crow e s)).1 k w = crow e (hourF e h s) k w) ∧
    (simD (rrF e) (eWd e (h % 6)) h (eN e) (eNk e) (eNc e) (yrow e s) (krow e s) (crow e s) (sCo s)).2 = sCo (hourF e h s) ∧
    (simC (rrF e) (eWd e (h % 6)) (eN e) (eNk e) (eNc e) (yrow e s) (krow e s) (crow e s)).2.2 = sumF (sLa (hourF e h s)) (eN e) - sumF (sLa s) (eN e) := sorry
-- what the law asks of an hour
theorem q_cloud {e : ES} {h : Nat} {s : DS} (hJ : Jv e h s) (hh : h ≤ 10000) {k : Nat} (hk : k < eNc e) :
    crow e (hourF e h s) k 1 = crow e s k 1 ∧ ¬ crow e s k 2 < crow e (hourF e h s) k 2 ∧ ¬ crow e (hourF e h s) k 2 < 0 ∧ ¬ crow e (hourF e h s) k 3 < crow e s k 3 ∧
    ((crow e (hourF e h s) k 3 = 1 ∧ (crow e (hourF e h s) k 0 < 0 ∨ (¬ crow e (hourF e h s) k 0 < 0 ∧ ¬ crow e (hourF e h s) k 0 ≤ 29))) ∨ (¬ crow e (hourF e h s) k 3 = 1 ∧ ¬ crow e (hourF e h s) k 0 < 0 ∧ crow e (hourF e h s) k 0 ≤ 29)) ∧
    ((crow e s k 3 = 1 ∧ ¬ crow e s k 3 = 0 ∧ crow e (hourF e h s) k 0 = crow e s k 0 ∧ crow e (hourF e h s) k 2 = crow e s k 2) ∨ (¬ crow e s k 3 = 1 ∧ crow e s k 3 = 0 ∧ crow e (hourF e h s) k 0 = crow e s k 0 + crow e s k 1 + eWd e (h % 6))) := sorry
theorem q_cannon {e : ES} {h : Nat} {s : DS} (hJ : Jv e h s) (hh : h ≤ 10000) {k : Nat} (hk : k < eNk e) :
    ¬ arow e (hourF e h s) k 3 - arow e s k 3 < 0 ∧ ¬ 1 < arow e (hourF e h s) k 3 - arow e s k 3 ∧ arow e (hourF e h s) k 2 = arow e s k 2 - (arow e (hourF e h s) k 3 - arow e s k 3) ∧ ¬ arow e (hourF e h s) k 2 < 0 ∧ arow e (hourF e h s) k 0 = arow e s k 0 := sorry
theorem q_aim {e : ES} {h : Nat} {s : DS} (hJ : Jv e h s) {k : Nat} (hk : k < eNk e) :
    arow e s k 4 < 0 ∨ ∃ t, t < eNc e ∧ arow e s k 4 = nI t ∧ ¬ arow e s k 2 = 0 ∧ ¬ crow e s t 2 = 0 ∧ ¬ crow e s t 3 = 1 ∧ ab (crow e s t 0 - arow e s k 0) ≤ arow e s k 1 := sorry
theorem q_less {e : ES} {h : Nat} {s : DS} (hJ : Jv e h s) (hh : h ≤ 10000) :
    ¬ yi (eNc e) (lessS e s (hourF e h s)) 0 < 0 ∧ (yi (eNk e) (shotS e s (hourF e h s)) 0 ≤ 0 ∨ ¬ yi (eNc e) (lessS e s (hourF e h s)) 0 = 0) := sorry
theorem q_yard {e : ES} {h : Nat} {s : DS} (hJ : Jv e h s) (hh : h ≤ 10000) {k : Nat} (hk : k < eN e) :
    ¬ itsF e s (hourF e h s) k < 0 ∧ ¬ yrow e s k 1 - itsF e s (hourF e h s) k < 0 ∧ ¬ 8 * nI (eNc e) < itsF e s (hourF e h s) k ∧
    ((itsF e s (hourF e h s) k ≤ 0 ∧ ¬ hitF e h s k = 1) ∨ (¬ itsF e s (hourF e h s) k ≤ 0 ∧ hitF e h s k = 1)) ∧
    yrow e (hourF e h s) k 1 = (if enF h = 0 then yrow e s k 1 - itsF e s (hourF e h s) k else if yrow e s k 1 - itsF e s (hourF e h s) k ≤ 0 then yrow e s k 1 - itsF e s (hourF e h s) k else if 99 ≤ yrow e s k 1 - itsF e s (hourF e h s) k then yrow e s k 1 - itsF e s (hourF e h s) k else yrow e s k 1 - itsF e s (hourF e h s) k + 1) ∧
    yrow e (hourF e h s) k 4 = (if enF h = 0 then yrow e s k 4 + itsF e s (hourF e h s) k else 0) ∧
    yrow e (hourF e h s) k 5 = (if enF h = 0 then yrow e s k 5 + loudF e s (hourF e h s) k else 0) ∧
    (hitF e h s k ≤ 1 ∨ hitF e (h + 1) (hourF e h s) k = hitF e h s k - 1) := sorry
theorem q_sum {e : ES} {h : Nat} {s : DS} (hJ : Jv e h s) (hh : h ≤ 10000) :
    yi (eN e) (sumS e s (hourF e h s)) 0 = sumF (sLa (hourF e h s)) (eN e) - sumF (sLa s) (eN e) ∧ totF e (h + 1) (hourF e h s) 2 = yi (eN e) (dueS e h s (hourF e h s)) (totF e h s 2) ∧ ¬ 8 * nI (eNc e) * nI (eN e) < sumF (sLa (hourF e h s)) (eN e) - sumF (sLa s) (eN e) := sorry
theorem q_best (e : ES) (h : Nat) (s : DS) (j : Nat) : ¬ advF e h s j 6 < -1 ∧ advF e h s j 6 ≤ 29 := sorry
