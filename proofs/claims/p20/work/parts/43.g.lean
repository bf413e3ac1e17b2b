-- PURE: what a cannon shoots at, ring by ring
def KR (K : fR) (kp rg1 pw sh : fI) : Prop := ∀ k, K k 0 = kp k ∧ K k 1 = rg1 k ∧ K k 2 = pw k ∧ K k 3 = sh k
def CR (L : fR) (cp dr ha : fI) : Prop := ∀ k, L k 0 = cp k ∧ L k 1 = dr k ∧ L k 2 = ha k ∧ L k 3 = bI (gnF cp k)
def YR (Y : fR) (pl vi : fI) (me ins : fB) (lt su la : fI) : Prop := ∀ k, Y k 0 = pl k ∧ Y k 1 = vi k ∧ Y k 2 = bI (me k) ∧ Y k 3 = bI (ins k) ∧ Y k 4 = lt k ∧ Y k 5 = su k ∧ Y k 6 = la k
theorem bI_0i {b : Bool} : bI b = 0 ↔ b = false := by cases b <;> decide
theorem bI_1i {b : Bool} : bI b = 1 ↔ b = true := by cases b <;> decide
theorem hit_sp {L : fR} {cp dr ha : fI} {p : Int32} (hL : CR L cp dr ha) (hc : ∀ k, rg (cp k) (-5) 34) (hp : rg p 0 29) {f c : Nat} (hf : f ≤ 100) : hitC L p (nI f) c = true ↔ gnF cp c = false ∧ 0 < (ha c).toInt ∧ (ab (cp c - p)).toInt = f := by
  obtain ⟨l0, -, l2, l3⟩ := hL c
  have hab := ab_sym (x := cp c) (y := p) (rg_w (hc c) (by omega) (by omega)) (rg_w hp (by omega) (by omega))
  have h1 := hc c
  unfold rg at h1 hp
  have en := nI_toInt (n := f) (by omega)
  have e1 : (p - nI f).toInt = p.toInt - f := by rw [t_sub (by omega) (by omega), en]
  have e2 : (p + nI f).toInt = p.toInt + f := by rw [t_add (by omega) (by omega), en]
  unfold hitC
  rw [l0, l2, l3]
  by_cases g : bI (gnF cp c) = 0
  · rw [if_pos g]
    have g' := bI_0i.mp g
    by_cases h0 : ha c ≤ 0
    · rw [if_pos h0]
      rw [t_le, t_0] at h0
      exact ⟨fun q => (by cases q), fun q => by have := q.2.1; omega⟩
    · rw [if_neg h0]
      rw [t_le, t_0] at h0
      by_cases c1 : cp c = p - nI f
      · rw [if_pos c1]
        rw [t_eq, e1] at c1
        exact ⟨fun _ => ⟨g', by omega, by omega⟩, fun _ => rfl⟩
      · rw [if_neg c1]
        rw [t_eq, e1] at c1
        by_cases c2 : cp c = p + nI f
        · rw [if_pos c2]
          rw [t_eq, e2] at c2
          exact ⟨fun _ => ⟨g', by omega, by omega⟩, fun _ => rfl⟩
        · rw [if_neg c2]
          rw [t_eq, e2] at c2
          exact ⟨fun q => (by cases q), fun q => by have := q.2.2; omega⟩
  · rw [if_neg g]
    exact ⟨fun q => (by cases q), fun q => absurd (bI_0i.mpr q.1) g⟩
theorem ring_sp {L : fR} {p far : Int32} : ∀ (r c : Nat), (ringF L p far c r = none ∧ ∀ k, c ≤ k → k < c + r → hitC L p far k = false) ∨ ∃ t, c ≤ t ∧ t < c + r ∧ ringF L p far c r = some t ∧ hitC L p far t = true ∧ ∀ k, c ≤ k → k < t → hitC L p far k = false := by
  intro r
  induction r with
  | zero => intro c; exact Or.inl ⟨rfl, fun k h1 h2 => by omega⟩
  | succ r ih =>
    intro c
    unfold ringF
    cases hP : hitC L p far c with
    | true =>
      rw [if_pos rfl]
      exact Or.inr ⟨c, Nat.le_refl c, by omega, rfl, hP, fun k h1 h2 => by omega⟩
    | false =>
      rw [if_neg (by decide)]
      rcases ih (c + 1) with ⟨g1, g2⟩ | ⟨t, g1, g2, g3, g4, g5⟩
      · refine Or.inl ⟨g1, fun k h1 h2 => ?_⟩
        by_cases e : k = c
        · rw [e]; exact hP
        · exact g2 k (by omega) (by omega)
      · refine Or.inr ⟨t, by omega, by omega, g3, g4, fun k h1 h2 => ?_⟩
        by_cases e : k = c
        · rw [e]; exact hP
        · exact g5 k (by omega) h2
theorem aimR_sp {L : fR} {p : Int32} {nc : Nat} : ∀ (r f : Nat), (aimR L p nc f r = -1 ∧ ∀ g, f ≤ g → g < f + r → ∀ k, k < nc → hitC L p (nI g) k = false) ∨ ∃ t g, t < nc ∧ f ≤ g ∧ g < f + r ∧ aimR L p nc f r = nI t ∧ hitC L p (nI g) t = true ∧ (∀ k, k < t → hitC L p (nI g) k = false) ∧ ∀ g', f ≤ g' → g' < g → ∀ k, k < nc → hitC L p (nI g') k = false := by
  intro r
  induction r with
  | zero => intro f; exact Or.inl ⟨rfl, fun g h1 h2 => by omega⟩
  | succ r ih =>
    intro f
    unfold aimR
    rcases ring_sp (L := L) (p := p) (far := nI f) nc 0 with ⟨g1, g2⟩ | ⟨t, g1, g2, g3, g4, g5⟩
    · rw [g1]
      have hf : ∀ k, k < nc → hitC L p (nI f) k = false := fun k hk => g2 k (by omega) (by omega)
      rcases ih (f + 1) with ⟨i1, i2⟩ | ⟨t, g, i1, i2, i3, i4, i5, i6, i7⟩
      · refine Or.inl ⟨i1, fun g h1 h2 => ?_⟩
        by_cases e : g = f
        · rw [e]; exact hf
        · exact i2 g (by omega) (by omega)
      · refine Or.inr ⟨t, g, i1, by omega, by omega, i4, i5, i6, fun g' h1 h2 => ?_⟩
        by_cases e : g' = f
        · rw [e]; exact hf
        · exact i7 g' (by omega) h2
    · rw [g3]
      exact Or.inr ⟨t, f, by omega, Nat.le_refl f, by omega, rfl, g4, fun k hk => g5 k (by omega) hk, fun g' h1 h2 => by omega⟩
theorem aims_core {L : fR} {cp dr ha kp rg1 pw : fI} {nc j r : Nat} (hL : CR L cp dr ha) (hc : ∀ k, rg (cp k) (-5) 34) (hp : rg (kp j) 0 29) (hr : rg1 j = nI r) (hr9 : r ≤ 9) : aimsF L (kp j) (pw j) r nc = targF kp rg1 pw cp ha nc j := by
  have hrt : (rg1 j).toInt = r := by rw [hr, nI_toInt (by omega)]
  have hrr : rg (rg1 j) 0 9 := by unfold rg; omega
  have hab0 : ∀ k, 0 ≤ (ab (cp k - kp j)).toInt := fun k => by
    have := ab_sym (x := cp k) (y := kp j) (rg_w (hc k) (by omega) (by omega)) (rg_w hp (by omega) (by omega))
    omega
  unfold aimsF
  by_cases hq : pw j ≤ 0
  · rw [if_pos hq]
    unfold targF
    rw [if_pos hq]
  · rw [if_neg hq]
    rw [t_le, t_0] at hq
    rcases targ_sp (kp := kp) (pw := pw) (cp := cp) (ha := ha) (nc := nc) (j := j) hrr with ⟨e, q⟩ | ⟨t, ht, e, q1, q2, q3⟩
    · rw [e]
      rcases aimR_sp (L := L) (p := kp j) (nc := nc) (r + 1) 0 with ⟨g, -⟩ | ⟨t, g, g1, g2, g3, g4, g5, -⟩
      · exact g
      · have h := (hit_sp hL hc hp (by omega)).mp g5
        rcases q with q | q
        · omega
        · exact absurd ⟨h.1, h.2.1, by have := h.2.2; omega⟩ (q t g1)
    · rw [e]
      have a := hab0 t
      obtain ⟨G, hG⟩ : ∃ G : Nat, (ab (cp t - kp j)).toInt = G := ⟨(ab (cp t - kp j)).toInt.toNat, by omega⟩
      have q4 := q2.2.2
      have hh : hitC L (kp j) (nI G) t = true := (hit_sp hL hc hp (by omega)).mpr ⟨q2.1, q2.2.1, hG⟩
      rcases aimR_sp (L := L) (p := kp j) (nc := nc) (r + 1) 0 with ⟨-, g⟩ | ⟨u, g, g1, g2, g3, g4, g5, g6, g7⟩
      · have := g G (by omega) (by omega) t ht
        rw [hh] at this
        cases this
      · rw [g4]
        have h := (hit_sp hL hc hp (by omega)).mp g5
        have h2 := h.2.2
        have z := q3 u g1 ⟨h.1, h.2.1, by omega⟩
        have z1 := z.1
        by_cases c1 : G < g
        · have := g7 G (by omega) c1 t ht
          rw [hh] at this
          cases this
        · have eG : G = g := by omega
          have h3 := z.2 (by omega)
          by_cases c2 : t < u
          · have := g6 t c2
            rw [← eG, hh] at this
            cases this
          · have : t = u := by omega
            rw [this]
/-- ring by ring is the nearest -/
theorem aims_eq {e : ES} {h : Nat} {s : DS} (hJ : Jv e h s) (k : Nat) : aimsF (crow e s) (krow e s k 0) (krow e s k 2) (rrF e k) (eNc e) = arow e s k 4 := by
  obtain ⟨r1, r2⟩ := rr_eq hJ k
  exact aims_core (L := crow e s) (cp := sCp s) (dr := eDr e) (ha := sHa s) (kp := eKp e) (rg1 := eRg e) (pw := sPw s) (nc := eNc e) (j := k) (r := rrF e k) (fun k => ⟨rfl, rfl, rfl, rfl⟩) hJ.2.2.1.2.2.2.2.2.2.1 (hJ.2.1.2.1 k) r1 r2
