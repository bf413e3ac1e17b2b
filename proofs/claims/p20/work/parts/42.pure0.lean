-- PURE: what every state keeps; what is told of an hour (words and statements)
def rg (x : Int32) (a b : Int) : Prop := a ≤ x.toInt ∧ x.toInt ≤ b
def Jv (e : ES) (h : Nat) (s : DS) : Prop :=
  (eN e ≤ 10 ∧ eNk e ≤ 6 ∧ eNc e ≤ 20) ∧
  ((∀ k, rg (ePl e k) 0 29) ∧ (∀ k, rg (eKp e k) 0 29) ∧ (∀ k, rg (eRg e k) 0 9) ∧ (∀ k, rg (eDr e k) (-3) 3) ∧ (∀ k, rg (eWd e k) (-2) 2)) ∧
  ((∀ k, rg (sVi s k) 0 99) ∧ (∀ k, rg (sLt s k) 0 (99 * h)) ∧ (∀ k, rg (sSu s k) 0 (6 * h)) ∧ (∀ k, rg (sLa s k) 0 (99 * h)) ∧ (∀ k, rg (sPw s k) 0 60) ∧ (∀ k, rg (sSh s k) 0 h) ∧ (∀ k, rg (sCp s k) (-5) 34) ∧ (∀ k, rg (sHa s k) 0 60)) ∧
  ((∀ k, eN e ≤ k → sLt s k = 0 ∧ sSu s k = 0 ∧ sLa s k = 0) ∧ (∀ k, eNk e ≤ k → sSh s k = 0) ∧ (∀ k, eNc e ≤ k → sCp s k = 0))
def rrF (e : ES) (k : Nat) : Nat := (eRg e k).toNatClampNeg
def cellF (xs : Nat → Int32) (L k : Nat) : Int32 := if nI L ≤ nI k then 790386105 * (nI k + 3) else xs k
def bw (v : Int32) (n : Nat) : Nat := (v &&& 2147483647).toNatClampNeg % n
theorem bw_lt {v : Int32} {n : Nat} (h : 0 < n) : bw v n < n := Nat.mod_lt _ h
def enF (h : Nat) : Int32 := if ¬ nI (h % 24) = 23 then 0 else 1
def wts (k : Nat) : Nat := if k = 0 then 2 else if k = 1 then 3 else if k = 2 then 4 else if k = 3 then 5 else 8
theorem wts_in (k : Nat) : wts k = 2 ∨ wts k = 3 ∨ wts k = 4 ∨ wts k = 5 ∨ wts k = 8 := by
  unfold wts
  split
  · exact Or.inl rfl
  · split
    · exact Or.inr (Or.inl rfl)
    · split
      · exact Or.inr (Or.inr (Or.inl rfl))
      · split
        · exact Or.inr (Or.inr (Or.inr (Or.inl rfl)))
        · exact Or.inr (Or.inr (Or.inr (Or.inr rfl)))
theorem wts_lt (k : Nat) : wts k < 10 := by
  rcases wts_in k with h | h | h | h | h <;> omega
def lessS (e : ES) (s t : DS) (j : Nat) (a : Int32) : Int32 := a + (crow e s j 2 - crow e t j 2)
def shotS (e : ES) (s t : DS) (j : Nat) (a : Int32) : Int32 := a + (arow e t j 3 - arow e s j 3)
def itsF (e : ES) (s t : DS) (k : Nat) : Int32 := yrow e t k 6 - yrow e s k 6
def loudS (e : ES) (s t : DS) (k c : Nat) (a : Int32) : Int32 :=
  if arow e t c 3 ≤ arow e s c 3 then a else if 3 ≤ ab (arow e s c 0 - yrow e s k 0) then a else if ¬ yrow e s k 2 = 0 then a else a + Int32.ofInt 1
def loudF (e : ES) (s t : DS) (k : Nat) : Int32 := yi (eNk e) (loudS e s t k) 0
def sumS (e : ES) (s t : DS) (k : Nat) (a : Int32) : Int32 := a + itsF e s t k
def dueS (e : ES) (h : Nat) (s t : DS) (k : Nat) (a : Int32) : Int32 :=
  if enF h = 0 then a else a + ((if ¬ yrow e s k 3 = 1 then 0 else 1 - (yrow e s k 4 + itsF e s t k) / 2) - yrow e s k 5 - loudF e s t k)
theorem rr_eq {e : ES} {h : Nat} {s : DS} (hJ : Jv e h s) (k : Nat) : eRg e k = nI (rrF e k) ∧ rrF e k ≤ 9 := by
  have h1 : 0 ≤ (eRg e k).toInt ∧ (eRg e k).toInt ≤ 9 := hJ.2.1.2.2.1 k
  unfold rrF
  generalize eRg e k = x at h1 ⊢
  have e2 : x.toNatClampNeg = x.toInt.toNat := rfl
  rw [e2]
  refine ⟨?_, by omega⟩
  apply Int32.toInt_inj.mp
  rw [nI_toInt (by omega)]
  omega
