-- ACT: something that a number chooses, done to both
def sar (z k : Int32) : Int32 := z >>> (k &&& 31)
def eqb1 (x : Int32) : Bool := if x = 1 then true else false
theorem bI_eqb (x : Int32) : bI (eqb1 x) = if ¬ x = 1 then 0 else 1 := by
  unfold eqb1
  by_cases h : x = 1
  · rw [if_pos h, if_neg (fun q => q h)]; rfl
  · rw [if_neg h, if_pos h]; rfl
theorem nz_pos {n : Nat} (h : ¬ nI n = 0) : 0 < n := Nat.pos_of_ne_zero (fun e => h (by rw [e]; rfl))
def plcF (z : Int32) : Int32 := if ¬ nI (bw (sar z 9) 2) = 0 then 10 + nI (bw (sar z 5) 8) else nI (bw (sar z 4) 30)
def kF (z : Int32) (n : Nat) : Int32 := if ¬ nI n = 0 then nI (bw (sar z 3) n) else -1
theorem kF_ix {z : Int32} {n : Nat} (h : 0 ≤ kF z n) : ∃ t, t < n ∧ kF z n = nI t := by
  unfold kF at h ⊢
  by_cases e : nI n = 0
  · rw [if_neg (fun q => q e)] at h
    exact absurd h (by decide)
  · rw [if_pos e]
    exact ⟨_, bw_lt (nz_pos e), rfl⟩
def pwN (z : Int32) : Nat := if bw (sar z 8) 2 = 0 then 61 else 6
theorem pwN_pos (z : Int32) : 0 < pwN z := by unfold pwN; split <;> omega
theorem pwN_le (z : Int32) : pwN z ≤ 61 := by unfold pwN; split <;> omega
theorem pwN_eq (z : Int32) : nI (pwN z) = if ¬ nI (bw (sar z 8) 2) = 0 then 6 else 61 := by
  unfold pwN
  by_cases h : bw (sar z 8) 2 = 0
  · rw [if_pos h, h, if_neg (fun q => q rfl)]; rfl
  · rw [if_neg h, if_pos (nI_nz (by omega) (by have := bw_lt (v := sar z 8) (n := 2) (by omega); omega))]; rfl
abbrev AS : Type := ES × DS × (Nat → Nat) × (Nat → Nat) × (Nat → Nat) × (Nat → Nat)
section YM
variable {d : yyD} {G : yyG} {k n : Nat} {Q : State → Prop} {lv : List (Nat × Value)} {pc : Nat} {st : List Value}
/-- a row joins its run -/
theorem yb_join {m N q : Nat} {a : Nat → Nat} {F : fR} {g : fI} {BB : List va_W} (kk : yyW d G k n Q (fl (sg d m (upN a N q) (upR F N g) (N + 1) :: BB)) lv pc st) : yyW d G k n Q (fl (sg d m a F N :: [(q, aI d m g)] :: BB)) lv pc st := by
  have e : fl (sg d m a F N :: [(q, aI d m g)] :: BB) = fl (sg d m (upN a N q) (upR F N g) (N + 1) :: BB) := by
    show sg d m a F N ++ ([(q, aI d m g)] ++ fl BB) = sg d m (upN a N q) (upR F N g) (N + 1) ++ fl BB
    rw [← List.append_assoc, sg_push]
  rw [e]
  exact kk
end YM
theorem rg_plc (z : Int32) : rg (plcF z) 0 29 := sorry
theorem rg_nI {a : Nat} {b c : Int} (h1 : b ≤ a) (h2 : (a : Int) ≤ c) (h3 : a < 1000) : rg (nI a) b c := sorry
theorem rg_1p {a : Nat} {c : Int} (h2 : (a : Int) + 1 ≤ c) (h3 : a < 1000) : rg (1 + nI a) 1 c := sorry
theorem rg_sub {a m : Nat} {b c : Int} (h1 : b ≤ (a : Int) - m) (h2 : (a : Int) - m ≤ c) (h3 : a < 1000) (h4 : m < 1000) : rg (nI a - nI m) b c := sorry
theorem ok_plant {x y : Int32} (hx : rg x 0 29) (hy : rg y 0 99) : okPlant x y = true := sorry
theorem ok_cannon {x y z : Int32} (hx : rg x 0 29) (hy : rg y 1 9) (hz : rg z 0 60) : okCannon x y z = true := sorry
theorem ok_gather {x y z : Int32} (hx : rg x 0 29) (hy : rg y (-3) 3) (hz : rg z 0 60) : okGather x y z = true := sorry
theorem ok_load {x : Int32} (hx : rg x 1 60) : okLoad x = true := sorry
theorem ok_wind {x : Int32} (hx : rg x (-2) 2) : okWind x = true := sorry
theorem ok_pl {x : Int32} (hx : rg x 0 29) : isPl x = true := sorry
theorem ok_gn {x : Int32} (hx : rg x 0 29) : gn x = false := sorry
theorem gn_end {e : ES} {h : Nat} {s : DS} (hJ : Jv e h s) : gn (sCp s (eNc e)) = false := sorry
theorem rows_pl {e : ES} {h : Nat} {s : DS} (hJ : Jv e h s) {x y : Int32} {f : fI} {i j : Nat} (hi : i < 2) (hj : j < 2) (f0 : f 0 = x) (f1 : f 1 = y) (f2 : f 2 = nI i) (f3 : f 3 = nI j) (f4 : f 4 = 0) (f5 : f 5 = 0) (f6 : f 6 = 0) : ∀ k, k < eN e + 1 → ∀ w, w < 7 → upR (yrow e s) (eN e) f k w = yrow (plE e x (eqb1 (nI i)) (eqb1 (nI j))) (plS e s y) k w := sorry
theorem rows_sg {e : ES} {s : DS} {r i j : Nat} (hi : i < 2) (hj : j < 2) : ∀ k, k < eN e → ∀ w, w < 7 → up2 (up2 (yrow e s) r 2 (nI i)) r 3 (nI j) k w = yrow (sgE e r (eqb1 (nI i)) (eqb1 (nI j))) s k w := sorry
theorem told_sg {e : ES} {s : DS} {r : Nat} : cond (eMe e r) 1 0 + cond (eIn e r) 2 0 = yrow e s r 2 + 2 * yrow e s r 3 := sorry
theorem rows_ca {e : ES} {h : Nat} {s : DS} (hJ : Jv e h s) {x y z : Int32} {f : fI} (f0 : f 0 = x) (f1 : f 1 = y) (f2 : f 2 = z) (f3 : f 3 = 0) : ∀ k, k < eNk e + 1 → ∀ w, w < 4 → upR (krow e s) (eNk e) f k w = krow (caE e x y) (caS e s z) k w := sorry
theorem rows_lo {e : ES} {s : DS} {r : Nat} {x : Int32} : ∀ k, k < eNk e → ∀ w, w < 4 → up2 (krow e s) r 2 (mn 60 (krow e s r 2 + x)) k w = krow e (loS s r x) k w := sorry
theorem told_lo {e : ES} {s : DS} {r : Nat} {x : Int32} : mn (sPw s r + x) 60 = mn 60 (krow e s r 2 + x) := sorry
theorem rows_ga {e : ES} {h : Nat} {s : DS} (hJ : Jv e h s) {x y z : Int32} {f : fI} (hx : rg x 0 29) (f0 : f 0 = x) (f1 : f 1 = y) (f2 : f 2 = z) (f3 : f 3 = 0) : ∀ k, k < eNc e + 1 → ∀ w, w < 4 → upR (crow e s) (eNc e) f k w = crow (gaE e y) (gaS e s x z) k w := sorry
theorem rows_mo {e : ES} {s : DS} {r : Nat} {x : Int32} : ∀ k, k < eNk e → ∀ w, w < 4 → up2 (krow e s) r 0 x k w = krow (moE e r x) (moS s) k w := sorry
