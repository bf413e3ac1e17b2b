-- ACT: something that a number chooses, done to both
def sar (z k : Int32) : Int32 := z >>> (k &&& 31)
def eqb1 (x : Int32) : Bool := if x = 1 then true else false
theorem bI_eqb (x : Int32) : bI (eqb1 x) = if ¬ x = 1 then 0 else 1 := by
  unfold eqb1
  by_cases h : x = 1
  · rw [if_pos h, if_neg (fun q => q h)]; rfl
  · rw [if_neg h, if_pos h]; rfl
theorem nz_pos {n : Nat} (h : ¬ nI n = 0) : 0 < n := Nat.pos_of_ne_zero (fun e => h (by rw [e]; rfl))
def plcF (z : Int32) : Int32 := if ¬ nI (bw (sar z 9) 2) = 0 then 10 + nI (bw (sar z 5) 8) else nI (bw (sar z 4) 30)
def kF (z : Int32) (n : Nat) : Int32 := if ¬ nI n = 0 then nI (bw (sar z 3) n) else -1
theorem kF_ix {z : Int32} {n : Nat} (h : 0 ≤ kF z n) : ∃ t, t < n ∧ kF z n = nI t := by
  unfold kF at h ⊢
  by_cases e : nI n = 0
  · rw [if_neg (fun q => q e)] at h
    exact absurd h (by decide)
  · rw [if_pos e]
    exact ⟨_, bw_lt (nz_pos e), rfl⟩
def pwN (z : Int32) : Nat := if bw (sar z 8) 2 = 0 then 61 else 6
theorem pwN_pos (z : Int32) : 0 < pwN z := by unfold pwN; split <;> omega
theorem pwN_le (z : Int32) : pwN z ≤ 61 := by unfold pwN; split <;> omega
theorem pwN_eq (z : Int32) : nI (pwN z) = if ¬ nI (bw (sar z 8) 2) = 0 then 6 else 61 := by
  unfold pwN
  by_cases h : bw (sar z 8) 2 = 0
  · rw [if_pos h, h, if_neg (fun q => q rfl)]; rfl
  · rw [if_neg h, if_pos (nI_nz (by omega) (by have := bw_lt (v := sar z 8) (n := 2) (by omega); omega))]; rfl
abbrev AS : Type := ES × DS × (Nat → Nat) × (Nat → Nat) × (Nat → Nat) × (Nat → Nat)
section YM
variable {d : yyD} {G : yyG} {k n : Nat} {Q : State → Prop} {lv : List (Nat × Value)} {pc : Nat} {st : List Value}
/-- a row joins its run -/
theorem yb_join {m N q : Nat} {a : Nat → Nat} {F : fR} {g : fI} {BB : List va_W} (kk : yyW d G k n Q (fl (sg d m (upN a N q) (upR F N g) (N + 1) :: BB)) lv pc st) : yyW d G k n Q (fl (sg d m a F N :: [(q, aI d m g)] :: BB)) lv pc st := by
  have e : fl (sg d m a F N :: [(q, aI d m g)] :: BB) = fl (sg d m (upN a N q) (upR F N g) (N + 1) :: BB) := by
    show sg d m a F N ++ ([(q, aI d m g)] ++ fl BB) = sg d m (upN a N q) (upR F N g) (N + 1) ++ fl BB
    rw [← List.append_assoc, sg_push]
  rw [e]
  exact kk
end YM
theorem rg_nI {a : Nat} {b c : Int} (h1 : b ≤ a) (h2 : (a : Int) ≤ c) (h3 : a < 1000) : rg (nI a) b c := by
  unfold rg
  rw [nI_toInt (by omega)]
  exact ⟨h1, h2⟩
theorem rg_plc (z : Int32) : rg (plcF z) 0 29 := by
  unfold plcF
  by_cases c : nI (bw (sar z 9) 2) = 0
  · rw [if_neg (fun q => q c)]
    have h1 := bw_lt (v := sar z 4) (n := 30) (by omega)
    exact rg_nI (by omega) (by omega) (by omega)
  · rw [if_pos c]
    have h1 := bw_lt (v := sar z 5) (n := 8) (by omega)
    have e1 := nI_toInt (n := bw (sar z 5) 8) (by omega)
    have e2 : (10 : Int32).toInt = 10 := rfl
    unfold rg
    rw [t_add (by omega) (by omega), e1, e2]
    omega
theorem rg_1p {a : Nat} {c : Int} (h2 : (a : Int) + 1 ≤ c) (h3 : a < 1000) : rg (1 + nI a) 1 c := by
  have e1 := nI_toInt (n := a) (by omega)
  unfold rg
  rw [t_add (by rw [t_1]; omega) (by rw [t_1]; omega), e1, t_1]
  omega
theorem rg_sub {a m : Nat} {b c : Int} (h1 : b ≤ (a : Int) - m) (h2 : (a : Int) - m ≤ c) (h3 : a < 1000) (h4 : m < 1000) : rg (nI a - nI m) b c := by
  have e1 := nI_toInt (n := a) (by omega)
  have e2 := nI_toInt (n := m) (by omega)
  unfold rg
  rw [t_sub (by omega) (by omega), e1, e2]
  exact ⟨h1, h2⟩
theorem ok_pl {x : Int32} (hx : rg x 0 29) : isPl x = true := isPl_t.mpr hx
theorem ok_gn {x : Int32} (hx : rg x 0 29) : gn x = false := gn_f.mpr hx
theorem t_9 : (9 : Int32).toInt = 9 := rfl
theorem t_m3 : (-3 : Int32).toInt = -3 := rfl
theorem t_m2 : (-2 : Int32).toInt = -2 := rfl
theorem ok_plant {x y : Int32} (hx : rg x 0 29) (hy : rg y 0 99) : okPlant x y = true := by
  unfold rg at hy
  unfold okPlant
  rw [ok_pl hx, cond_true, if_neg (by rw [t_lt, t_0]; omega), if_neg (by rw [t_lt, t_99]; omega)]
theorem ok_cannon {x y z : Int32} (hx : rg x 0 29) (hy : rg y 1 9) (hz : rg z 0 60) : okCannon x y z = true := by
  unfold rg at hy hz
  unfold okCannon
  rw [ok_pl hx, cond_true, if_neg (by rw [t_lt, t_1]; omega), if_neg (by rw [t_lt, t_9]; omega), if_neg (by rw [t_lt, t_0]; omega), if_neg (by rw [t_lt, t_60]; omega)]
theorem ok_gather {x y z : Int32} (hx : rg x 0 29) (hy : rg y (-3) 3) (hz : rg z 0 60) : okGather x y z = true := by
  unfold rg at hy hz
  unfold okGather
  rw [ok_pl hx, cond_true, if_neg (by rw [t_lt, t_m3]; omega), if_neg (by rw [t_lt, t_3c]; omega), if_neg (by rw [t_lt, t_0]; omega), if_neg (by rw [t_lt, t_60]; omega)]
theorem ok_load {x : Int32} (hx : rg x 1 60) : okLoad x = true := by
  unfold rg at hx
  unfold okLoad
  rw [if_neg (by rw [t_lt, t_1]; omega), if_neg (by rw [t_lt, t_60]; omega)]
theorem ok_wind {x : Int32} (hx : rg x (-2) 2) : okWind x = true := by
  unfold rg at hx
  unfold okWind
  rw [if_neg (by rw [t_lt, t_m2]; omega), if_neg (by rw [t_lt, t_2c]; omega)]
theorem gn_end {e : ES} {h : Nat} {s : DS} (hJ : Jv e h s) : gn (sCp s (eNc e)) = false := by
  rw [hJ.2.2.2.2.2 _ (Nat.le_refl _)]
  exact gn_f.mpr ⟨by rw [t_0]; omega, by rw [t_0]; omega⟩
theorem updB_at (f : fB) (j : Nat) (b : Bool) (k : Nat) : updB f j b k = if k = j then b else f k := rfl
theorem bI_n2 {i : Nat} (hi : i < 2) : nI i = bI (eqb1 (nI i)) := by
  rcases (show i = 0 ∨ i = 1 by omega) with rfl | rfl <;> decide
theorem rows_pl {e : ES} {h : Nat} {s : DS} (hJ : Jv e h s) {x y : Int32} {f : fI} {i j : Nat} (hi : i < 2) (hj : j < 2) (f0 : f 0 = x) (f1 : f 1 = y) (f2 : f 2 = nI i) (f3 : f 3 = nI j) (f4 : f 4 = 0) (f5 : f 5 = 0) (f6 : f 6 = 0) : ∀ k, k < eN e + 1 → ∀ w, w < 7 → upR (yrow e s) (eN e) f k w = yrow (plE e x (eqb1 (nI i)) (eqb1 (nI j))) (plS e s y) k w := by
  intro k hk w hw
  obtain ⟨z1, z2, z3⟩ := hJ.2.2.2.1 (eN e) (Nat.le_refl _)
  have eu : upR (yrow e s) (eN e) f k = if k = eN e then f else yrow e s k := rfl
  rw [eu]
  have w7 := (show w = 0 ∨ w = 1 ∨ w = 2 ∨ w = 3 ∨ w = 4 ∨ w = 5 ∨ w = 6 by omega)
  by_cases c : k = eN e
  · rw [if_pos c, c]
    rcases w7 with rfl | rfl | rfl | rfl | rfl | rfl | rfl
    · show f 0 = upd (ePl e) (eN e) x (eN e)
      rw [upd_at, if_pos rfl, f0]
    · show f 1 = upd (sVi s) (eN e) y (eN e)
      rw [upd_at, if_pos rfl, f1]
    · show f 2 = bI (updB (eMe e) (eN e) (eqb1 (nI i)) (eN e))
      rw [updB_at, if_pos rfl, f2]
      exact bI_n2 hi
    · show f 3 = bI (updB (eIn e) (eN e) (eqb1 (nI j)) (eN e))
      rw [updB_at, if_pos rfl, f3]
      exact bI_n2 hj
    · show f 4 = sLt s (eN e)
      rw [f4, z1]
    · show f 5 = sSu s (eN e)
      rw [f5, z2]
    · show f 6 = sLa s (eN e)
      rw [f6, z3]
  · rw [if_neg c]
    rcases w7 with rfl | rfl | rfl | rfl | rfl | rfl | rfl
    · show ePl e k = upd (ePl e) (eN e) x k
      rw [upd_at, if_neg c]
    · show sVi s k = upd (sVi s) (eN e) y k
      rw [upd_at, if_neg c]
    · show bI (eMe e k) = bI (updB (eMe e) (eN e) (eqb1 (nI i)) k)
      rw [updB_at, if_neg c]
    · show bI (eIn e k) = bI (updB (eIn e) (eN e) (eqb1 (nI j)) k)
      rw [updB_at, if_neg c]
    · rfl
    · rfl
    · rfl
theorem rows_sg {e : ES} {s : DS} {r i j : Nat} (hi : i < 2) (hj : j < 2) : ∀ k, k < eN e → ∀ w, w < 7 → up2 (up2 (yrow e s) r 2 (nI i)) r 3 (nI j) k w = yrow (sgE e r (eqb1 (nI i)) (eqb1 (nI j))) s k w := by
  intro k hk w hw
  rw [up2_at, up2_at]
  have w7 := (show w = 0 ∨ w = 1 ∨ w = 2 ∨ w = 3 ∨ w = 4 ∨ w = 5 ∨ w = 6 by omega)
  by_cases c : k = r
  · rw [if_pos c, if_pos c]
    rcases w7 with rfl | rfl | rfl | rfl | rfl | rfl | rfl
    · rfl
    · rfl
    · show nI i = bI (updB (eMe e) r (eqb1 (nI i)) k)
      rw [updB_at, if_pos c]
      exact bI_n2 hi
    · show nI j = bI (updB (eIn e) r (eqb1 (nI j)) k)
      rw [updB_at, if_pos c]
      exact bI_n2 hj
    · rfl
    · rfl
    · rfl
  · rw [if_neg c, if_neg c]
    rcases w7 with rfl | rfl | rfl | rfl | rfl | rfl | rfl
    · rfl
    · rfl
    · show bI (eMe e k) = bI (updB (eMe e) r (eqb1 (nI i)) k)
      rw [updB_at, if_neg c]
    · show bI (eIn e k) = bI (updB (eIn e) r (eqb1 (nI j)) k)
      rw [updB_at, if_neg c]
    · rfl
    · rfl
    · rfl
theorem told_sg {e : ES} {s : DS} {r : Nat} : cond (eMe e r) 1 0 + cond (eIn e r) 2 0 = yrow e s r 2 + 2 * yrow e s r 3 := by
  show cond (eMe e r) (1 : Int32) 0 + cond (eIn e r) 2 0 = bI (eMe e r) + 2 * bI (eIn e r)
  cases eMe e r <;> cases eIn e r <;> decide
theorem rows_ca {e : ES} {h : Nat} {s : DS} (hJ : Jv e h s) {x y z : Int32} {f : fI} (f0 : f 0 = x) (f1 : f 1 = y) (f2 : f 2 = z) (f3 : f 3 = 0) : ∀ k, k < eNk e + 1 → ∀ w, w < 4 → upR (krow e s) (eNk e) f k w = krow (caE e x y) (caS e s z) k w := by
  intro k hk w hw
  have z2 := hJ.2.2.2.2.1 (eNk e) (Nat.le_refl _)
  have eu : upR (krow e s) (eNk e) f k = if k = eNk e then f else krow e s k := rfl
  rw [eu]
  have w4 := (show w = 0 ∨ w = 1 ∨ w = 2 ∨ w = 3 by omega)
  by_cases c : k = eNk e
  · rw [if_pos c, c]
    rcases w4 with rfl | rfl | rfl | rfl
    · show f 0 = upd (eKp e) (eNk e) x (eNk e)
      rw [upd_at, if_pos rfl, f0]
    · show f 1 = upd (eRg e) (eNk e) y (eNk e)
      rw [upd_at, if_pos rfl, f1]
    · show f 2 = upd (sPw s) (eNk e) z (eNk e)
      rw [upd_at, if_pos rfl, f2]
    · show f 3 = sSh s (eNk e)
      rw [f3, z2]
  · rw [if_neg c]
    rcases w4 with rfl | rfl | rfl | rfl
    · show eKp e k = upd (eKp e) (eNk e) x k
      rw [upd_at, if_neg c]
    · show eRg e k = upd (eRg e) (eNk e) y k
      rw [upd_at, if_neg c]
    · show sPw s k = upd (sPw s) (eNk e) z k
      rw [upd_at, if_neg c]
    · rfl
theorem rows_lo {e : ES} {s : DS} {r : Nat} {x : Int32} : ∀ k, k < eNk e → ∀ w, w < 4 → up2 (krow e s) r 2 (mn 60 (krow e s r 2 + x)) k w = krow e (loS s r x) k w := by
  intro k hk w hw
  rw [up2_at]
  have w4 := (show w = 0 ∨ w = 1 ∨ w = 2 ∨ w = 3 by omega)
  by_cases c : k = r
  · rw [if_pos c]
    rcases w4 with rfl | rfl | rfl | rfl
    · rfl
    · rfl
    · show mn 60 (sPw s r + x) = upd (sPw s) r (mn (sPw s r + x) 60) k
      rw [upd_at, if_pos c, mn_comm]
    · rfl
  · rw [if_neg c]
    rcases w4 with rfl | rfl | rfl | rfl
    · rfl
    · rfl
    · show sPw s k = upd (sPw s) r (mn (sPw s r + x) 60) k
      rw [upd_at, if_neg c]
    · rfl
theorem told_lo {e : ES} {s : DS} {r : Nat} {x : Int32} : mn (sPw s r + x) 60 = mn 60 (krow e s r 2 + x) := mn_comm _ _
theorem rows_ga {e : ES} {h : Nat} {s : DS} (hJ : Jv e h s) {x y z : Int32} {f : fI} (hx : rg x 0 29) (f0 : f 0 = x) (f1 : f 1 = y) (f2 : f 2 = z) (f3 : f 3 = 0) : ∀ k, k < eNc e + 1 → ∀ w, w < 4 → upR (crow e s) (eNc e) f k w = crow (gaE e y) (gaS e s x z) k w := by
  intro k hk w hw
  have eu : upR (crow e s) (eNc e) f k = if k = eNc e then f else crow e s k := rfl
  rw [eu]
  have w4 := (show w = 0 ∨ w = 1 ∨ w = 2 ∨ w = 3 by omega)
  by_cases c : k = eNc e
  · rw [if_pos c, c]
    rcases w4 with rfl | rfl | rfl | rfl
    · show f 0 = upd (sCp s) (eNc e) x (eNc e)
      rw [upd_at, if_pos rfl, f0]
    · show f 1 = upd (eDr e) (eNc e) y (eNc e)
      rw [upd_at, if_pos rfl, f1]
    · show f 2 = upd (sHa s) (eNc e) z (eNc e)
      rw [upd_at, if_pos rfl, f2]
    · show f 3 = bI (gn (upd (sCp s) (eNc e) x (eNc e)))
      rw [upd_at, if_pos rfl, f3, ok_gn hx]
      rfl
  · rw [if_neg c]
    rcases w4 with rfl | rfl | rfl | rfl
    · show sCp s k = upd (sCp s) (eNc e) x k
      rw [upd_at, if_neg c]
    · show eDr e k = upd (eDr e) (eNc e) y k
      rw [upd_at, if_neg c]
    · show sHa s k = upd (sHa s) (eNc e) z k
      rw [upd_at, if_neg c]
    · show bI (gn (sCp s k)) = bI (gn (upd (sCp s) (eNc e) x k))
      rw [upd_at, if_neg c]
theorem rows_mo {e : ES} {s : DS} {r : Nat} {x : Int32} : ∀ k, k < eNk e → ∀ w, w < 4 → up2 (krow e s) r 0 x k w = krow (moE e r x) (moS s) k w := by
  intro k hk w hw
  rw [up2_at]
  have w4 := (show w = 0 ∨ w = 1 ∨ w = 2 ∨ w = 3 by omega)
  by_cases c : k = r
  · rw [if_pos c]
    rcases w4 with rfl | rfl | rfl | rfl
    · show x = upd (eKp e) r x k
      rw [upd_at, if_pos c]
    · rfl
    · rfl
    · rfl
  · rw [if_neg c]
    rcases w4 with rfl | rfl | rfl | rfl
    · show eKp e k = upd (eKp e) r x k
      rw [upd_at, if_neg c]
    · rfl
    · rfl
    · rfl
