-- PURE: without hail no vine is lost any more
theorem have_none {cp ha : fI} {n : Nat} (h : haveF cp ha n = false) : ∀ k, k < n → hvP cp ha k = false := by
  induction n with
  | zero => intro k hk; omega
  | succ n ih =>
    have h2 : (haveF cp ha n || hvP cp ha n) = false := h
    rw [Bool.or_eq_false_iff] at h2
    intro k hk
    by_cases e : k = n
    · rw [e]; exact h2.2
    · exact ih h2.1 k (by omega)
theorem hvP_f {cp ha : fI} {k : Nat} : hvP cp ha k = false ↔ gn (cp k) = true ∨ ha k ≤ 0 := by
  unfold hvP gnF
  cases gn (cp k) with
  | true => simp
  | false =>
    rw [cond_false]
    by_cases h : ha k ≤ 0
    · simp [h]
    · simp [h]
theorem drive_at (dr : fI) (w : Int32) (cp : fI) : ∀ n k, driveF dr w n cp k = if k < n then (cond (gn (cp k)) (cp k) (cp k + (dr k + w))) else cp k := by
  intro n
  induction n with
  | zero => intro k; rw [if_neg (Nat.not_lt_zero k)]; rfl
  | succ n ih =>
    intro k
    show driveS dr w n (driveF dr w n cp) k = _
    have e : driveF dr w n cp n = cp n := by rw [ih, if_neg (Nat.lt_irrefl n)]
    unfold driveS gnF
    rw [e]
    by_cases hk : k = n
    · rw [hk, if_pos (Nat.lt_succ_self n)]
      cases gn (cp n) with
      | true => rw [cond_true, cond_true]; exact e
      | false => rw [cond_false, cond_false]; exact pk_us
    · have e2 : (if k < n + 1 then (cond (gn (cp k)) (cp k) (cp k + (dr k + w))) else cp k) = if k < n then (cond (gn (cp k)) (cp k) (cp k + (dr k + w))) else cp k := by
        by_cases h1 : k < n
        · rw [if_pos h1, if_pos (by omega)]
        · rw [if_neg h1, if_neg (by omega)]
      rw [e2, ← ih k]
      cases gn (cp n) with
      | true => rw [cond_true]
      | false => rw [cond_false, pk_un hk]
theorem near_none {cp ha : fI} {p r : Int32} {n : Nat} (h : ∀ k, k < n → hvP cp ha k = false) : yi n (nearS cp ha p) (-1, r + 1) = (-1, r + 1) := by
  induction n with
  | zero => rfl
  | succ n ih =>
    show nearS cp ha p n (yi n (nearS cp ha p) (-1, r + 1)) = _
    rw [ih (fun k hk => h k (by omega))]
    unfold nearS gnF
    rcases hvP_f.mp (h n (by omega)) with q | q
    · rw [q, cond_true]
    · cases gn (cp n) with
      | true => rw [cond_true]
      | false => rw [cond_false, if_pos q]
theorem targ_none {kp rg pw cp ha : fI} {nc j : Nat} (h : ∀ k, k < nc → hvP cp ha k = false) : targF kp rg pw cp ha nc j = -1 := by
  unfold targF nearF
  rw [near_none h]
  split <;> rfl
theorem shoot_none {kp rg cp pl : fI} {me : fB} {nc ny nk : Nat} {w : fI × fI × fI × fI} (h : ∀ k, k < nc → hvP cp w.2.2.1 k = false) : shootF kp rg cp pl me nc ny nk w = w := by
  unfold shootF
  induction nk with
  | zero => rfl
  | succ n ih =>
    show shootS kp rg cp pl me nc ny n (yi n (shootS kp rg cp pl me nc ny) w) = _
    rw [ih]
    unfold shootS
    rw [targ_none h, if_pos (by decide)]
theorem drop_none {cp pl : fI} {ny n nc : Nat} {w : fI × fI × fI × fI} (hn : n ≤ nc) (h : ∀ k, k < nc → hvP cp w.1 k = false) : dropF cp pl ny n w = w := by
  unfold dropF
  induction n with
  | zero => rfl
  | succ n ih =>
    show dropS cp pl ny n (yi n (dropS cp pl ny) w) = _
    rw [ih (by omega)]
    unfold dropS gnF
    rcases hvP_f.mp (h n (by omega)) with q | q
    · rw [q, cond_true]
    · cases gn (cp n) with
      | true => rw [cond_true]
      | false => rw [cond_false, if_pos q]
abbrev sLa (s : DS) : fI := s.2.2.2.1
abbrev sCp (s : DS) : fI := s.2.2.2.2.2.2.1
abbrev sHa (s : DS) : fI := s.2.2.2.2.2.2.2.1
abbrev eNc (e : ES) : Nat := e.2.2.2.2.2.2.2.2.1
theorem hour_none {e : ES} {h : Nat} {s : DS} (hn : ∀ k, k < eNc e → hvP (sCp s) (sHa s) k = false) : sLa (hourF e h s) = sLa s ∧ ∀ k, k < eNc e → hvP (sCp (hourF e h s)) (sHa (hourF e h s)) k = false := by
  have hd : ∀ k, k < eNc e → hvP (driveF e.2.2.2.2.2.2.2.1 (e.2.2.2.2.2.2.2.2.2 (h % 6)) e.2.2.2.2.2.2.2.2.1 s.2.2.2.2.2.2.1) (sHa s) k = false := by
    intro k hk
    rcases hvP_f.mp (hn k hk) with q | q
    · refine hvP_f.mpr (Or.inl ?_)
      rw [drive_at, if_pos hk, show gn (s.2.2.2.2.2.2.1 k) = true from q, cond_true]
      exact q
    · exact hvP_f.mpr (Or.inr q)
  have e1 : shootF e.2.2.2.2.1 e.2.2.2.2.2.1 (driveF e.2.2.2.2.2.2.2.1 (e.2.2.2.2.2.2.2.2.2 (h % 6)) e.2.2.2.2.2.2.2.2.1 s.2.2.2.2.2.2.1) e.1 e.2.1 e.2.2.2.2.2.2.2.2.1 e.2.2.2.1 e.2.2.2.2.2.2.1 (s.2.2.2.2.1, s.2.2.2.2.2.1, s.2.2.2.2.2.2.2.1, s.2.2.1) = (s.2.2.2.2.1, s.2.2.2.2.2.1, s.2.2.2.2.2.2.2.1, s.2.2.1) := shoot_none hd
  have e2 : dropF (driveF e.2.2.2.2.2.2.2.1 (e.2.2.2.2.2.2.2.2.2 (h % 6)) e.2.2.2.2.2.2.2.2.1 s.2.2.2.2.2.2.1) e.1 e.2.2.2.1 e.2.2.2.2.2.2.2.2.1 (s.2.2.2.2.2.2.2.1, s.1, s.2.1, s.2.2.2.1) = (s.2.2.2.2.2.2.2.1, s.1, s.2.1, s.2.2.2.1) := drop_none (Nat.le_refl _) hd
  unfold hourF
  dsimp only
  rw [e1]
  dsimp only
  rw [e2]
  split
  · exact ⟨rfl, hd⟩
  · exact ⟨rfl, hd⟩
theorem hours_still {e : ES} {h : Nat} {s : DS} {i : Nat} (h0 : ∀ k, k < eNc e → hvP (sCp (hoursF e h i s)) (sHa (hoursF e h i s)) k = false) : ∀ r, sLa (hoursF e h (i + r) s) = sLa (hoursF e h i s) ∧ ∀ k, k < eNc e → hvP (sCp (hoursF e h (i + r) s)) (sHa (hoursF e h (i + r) s)) k = false := by
  intro r
  induction r with
  | zero => exact ⟨rfl, h0⟩
  | succ r ih =>
    have := hour_none (e := e) (h := h + (i + r)) (s := hoursF e h (i + r) s) ih.2
    exact ⟨this.1.trans ih.1, this.2⟩
theorem lost_still {e : ES} {h : Nat} {s : DS} {i m n : Nat} (hi : i ≤ m) (h0 : haveF (sCp (hoursF e h i s)) (sHa (hoursF e h i s)) (eNc e) = false) : sumF (sLa (hoursF e h i s)) n = sumF (sLa (hoursF e h m s)) n := by
  have := (hours_still (have_none h0) (m - i)).1
  rw [show i + (m - i) = m by omega] at this
  rw [this]
-- the first of some hours
def firstF (P : Nat → Bool) : Nat → Nat → Int32
  | _, 0 => -1
  | i, r + 1 => cond (P i) (nI i) (firstF P (i + 1) r)
theorem first_hit {P : Nat → Bool} {i r : Nat} (hr : 0 < r) (h : P i = true) : firstF P i r = nI i := by
  obtain ⟨q, rfl⟩ : ∃ q, r = q + 1 := ⟨r - 1, by omega⟩
  show cond (P i) (nI i) _ = _
  rw [h, cond_true]
theorem first_miss {P : Nat → Bool} {i r q : Nat} (hr : r = q + 1) (h : P i = false) : firstF P i r = firstF P (i + 1) q := by
  subst hr
  show cond (P i) (nI i) _ = _
  rw [h, cond_false]
theorem first_none {P : Nat → Bool} : ∀ (r i : Nat), (∀ k, i ≤ k → P k = false) → firstF P i r = -1 := by
  intro r
  induction r with
  | zero => intro i _; rfl
  | succ r ih =>
    intro i h
    rw [first_miss rfl (h i (Nat.le_refl i))]
    exact ih (i + 1) (fun k hk => h k (by omega))
def hitP (e : ES) (h : Nat) (s : DS) (v i : Nat) : Bool := if sLa (hoursF e h i s) v ≤ sLa s v then false else true
def hitF (e : ES) (h : Nat) (s : DS) (v : Nat) : Int32 := firstF (hitP e h s v) 1 60
theorem hit_still {e : ES} {h : Nat} {s : DS} {v j : Nat} (hle : sLa (hoursF e h j s) v ≤ sLa s v) (h0 : haveF (sCp (hoursF e h j s)) (sHa (hoursF e h j s)) (eNc e) = false) (r : Nat) : firstF (hitP e h s v) (j + 1) r = -1 := by
  refine first_none r (j + 1) (fun k hk => ?_)
  have := (hours_still (have_none h0) (k - j)).1
  rw [show j + (k - j) = k by omega] at this
  unfold hitP
  rw [this, if_pos hle]
