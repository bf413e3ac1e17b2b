-- PURE: what the reference computes is what the class computes
theorem t_lt {x y : Int32} : x < y ↔ x.toInt < y.toInt := Int32.lt_iff_toInt_lt
theorem t_le {x y : Int32} : x ≤ y ↔ x.toInt ≤ y.toInt := Int32.le_iff_toInt_le
theorem t_0 : (0 : Int32).toInt = 0 := rfl
theorem t_bm {x : Int} (h1 : -2147483648 ≤ x) (h2 : x < 2147483648) : x.bmod (2 ^ 32) = x := by
  rw [Int.bmod_def]
  split <;> omega
theorem t_sub {x y : Int32} (h1 : -2147483648 ≤ x.toInt - y.toInt) (h2 : x.toInt - y.toInt < 2147483648) : (x - y).toInt = x.toInt - y.toInt := by
  rw [Int32.toInt_sub]; exact t_bm h1 h2
theorem t_add {x y : Int32} (h1 : -2147483648 ≤ x.toInt + y.toInt) (h2 : x.toInt + y.toInt < 2147483648) : (x + y).toInt = x.toInt + y.toInt := by
  rw [Int32.toInt_add]; exact t_bm h1 h2
theorem t_mul {x y : Int32} (h1 : -2147483648 ≤ x.toInt * y.toInt) (h2 : x.toInt * y.toInt < 2147483648) : (x * y).toInt = x.toInt * y.toInt := by
  rw [Int32.toInt_mul]; exact t_bm h1 h2
theorem t_rng (x : Int32) : -2147483648 ≤ x.toInt ∧ x.toInt < 2147483648 := by
  have h1 := Int32.le_toInt x
  have h2 := Int32.toInt_lt x
  omega
theorem mn_comm (x y : Int32) : mn x y = mn y x := by
  unfold mn
  by_cases h1 : y < x
  · rw [if_pos h1, if_neg (by rw [t_lt] at *; omega)]
  · rw [if_neg h1]
    by_cases h2 : x < y
    · rw [if_pos h2]
    · rw [if_neg h2]
      exact Int32.toInt_inj.mp (by rw [t_lt] at *; omega)
theorem mx_comm (x y : Int32) : mx x y = mx y x := by
  unfold mx
  by_cases h1 : x < y
  · rw [if_pos h1, if_neg (by rw [t_lt] at *; omega)]
  · rw [if_neg h1]
    by_cases h2 : y < x
    · rw [if_pos h2]
    · rw [if_neg h2]
      exact Int32.toInt_inj.mp (by rw [t_lt] at *; omega)
theorem ab_neg (z : Int32) : ab (0 - z) = ab z := by
  have hr := t_rng z
  by_cases hm : z.toInt = -2147483648
  · have : z = -2147483648 := Int32.toInt_inj.mp (by rw [hm]; rfl)
    rw [this]
    decide
  · have hs : (0 - z).toInt = 0 - z.toInt := t_sub (by rw [t_0]; omega) (by rw [t_0]; omega)
    unfold ab
    by_cases h : 0 ≤ z
    · rw [if_pos h]
      rw [t_le, t_0] at h
      by_cases h0 : 0 ≤ 0 - z
      · rw [if_pos h0]
        rw [t_le, t_0, hs] at h0
        exact Int32.toInt_inj.mp (by rw [hs]; omega)
      · rw [if_neg h0]
        exact Int32.toInt_inj.mp (by rw [t_sub (by rw [t_0, hs]; omega) (by rw [t_0, hs]; omega), hs, t_0]; omega)
    · rw [if_neg h]
      rw [t_le, t_0] at h
      rw [if_pos (by rw [t_le, t_0, hs]; omega)]
theorem ab_sym (x y : Int32) : ab (x - y) = ab (y - x) := by
  have : y - x = 0 - (x - y) := by rw [Int32.zero_sub, Int32.neg_sub]
  rw [this, ab_neg]
theorem t_le1 {r d : Int32} (hr : r.toInt ≤ 9) : r + 1 ≤ d ↔ r < d := by
  have hr2 := t_rng r
  have h1 : (1 : Int32).toInt = 1 := rfl
  rw [t_le, t_lt, t_add (by omega) (by omega), h1]
  omega
theorem aim_inv {kp rg pw cp ha : fI} {j : Nat} (hha : ∀ k, 0 ≤ ha k) (hr : (rg j).toInt ≤ 9) (hp : ¬ pw j ≤ 0) : ∀ n, n ≤ 1000 →
    yi n (aimS kp rg pw cp ha j) (-1) = (yi n (nearS cp ha (kp j)) (-1, rg j + 1)).1 ∧
    (((yi n (nearS cp ha (kp j)) (-1, rg j + 1)).1 = -1 ∧ (yi n (nearS cp ha (kp j)) (-1, rg j + 1)).2 = rg j + 1) ∨
     ∃ i, i < n ∧ (yi n (nearS cp ha (kp j)) (-1, rg j + 1)).1 = nI i ∧ (yi n (nearS cp ha (kp j)) (-1, rg j + 1)).2 = ab (cp i - kp j) ∧ ab (cp i - kp j) ≤ rg j) := by
  intro n
  induction n with
  | zero => intro _; exact ⟨rfl, Or.inl ⟨rfl, rfl⟩⟩
  | succ n ih =>
    intro hn
    obtain ⟨e, h⟩ := ih (by omega)
    show aimS kp rg pw cp ha j n (yi n (aimS kp rg pw cp ha j) (-1)) = (nearS cp ha (kp j) n (yi n (nearS cp ha (kp j)) (-1, rg j + 1))).1 ∧
      (((nearS cp ha (kp j) n (yi n (nearS cp ha (kp j)) (-1, rg j + 1))).1 = -1 ∧ (nearS cp ha (kp j) n (yi n (nearS cp ha (kp j)) (-1, rg j + 1))).2 = rg j + 1) ∨
       ∃ i, i < n + 1 ∧ (nearS cp ha (kp j) n (yi n (nearS cp ha (kp j)) (-1, rg j + 1))).1 = nI i ∧ (nearS cp ha (kp j) n (yi n (nearS cp ha (kp j)) (-1, rg j + 1))).2 = ab (cp i - kp j) ∧ ab (cp i - kp j) ≤ rg j)
    rw [e]
    generalize yi n (nearS cp ha (kp j)) (-1, rg j + 1) = w at h ⊢
    obtain ⟨t, b⟩ := w
    simp only at h ⊢
    have keep : ((t = -1 ∧ b = rg j + 1) ∨ ∃ i, i < n + 1 ∧ t = nI i ∧ b = ab (cp i - kp j) ∧ ab (cp i - kp j) ≤ rg j) := by
      rcases h with h | ⟨i, h1, h2⟩
      · exact Or.inl h
      · exact Or.inr ⟨i, by omega, h2⟩
    unfold aimS nearS
    rw [if_neg hp]
    cases hg : gnF cp n with
    | true => simp only [cond_true]; exact ⟨trivial, keep⟩
    | false =>
      simp only [cond_false]
      have hh := hha n
      by_cases h0 : ha n ≤ 0
      · have hz : ha n = 0 := Int32.toInt_inj.mp (by rw [t_le, t_0] at *; omega)
        rw [if_pos h0, if_pos hz]
        exact ⟨rfl, keep⟩
      · have hz : ¬ ha n = 0 := fun q => h0 (by rw [q]; decide)
        rw [if_neg h0, if_neg hz, ab_sym (kp j) (cp n)]
        have hle : ∀ {x y : Int32}, ¬ x < y → y ≤ x := fun {x y} q => by rw [t_lt] at q; rw [t_le]; omega
        rcases h with ⟨rfl, rfl⟩ | ⟨i, hi, rfl, rfl, hb⟩
        · by_cases hd : rg j < ab (cp n - kp j)
          · rw [if_pos hd, if_pos ((t_le1 hr).mpr hd)]
            exact ⟨rfl, Or.inl ⟨rfl, rfl⟩⟩
          · rw [if_neg hd, if_pos rfl, if_neg (fun q => hd ((t_le1 hr).mp q))]
            exact ⟨rfl, Or.inr ⟨n, by omega, rfl, rfl, hle hd⟩⟩
        · have hne : ¬ nI i = -1 := fun q => by
            have := nI_toInt (n := i) (by omega)
            rw [q] at this
            have h1 : (-1 : Int32).toInt = -1 := rfl
            omega
          rw [if_neg hne, nI_clamp (by omega), ab_sym (kp j) (cp i)]
          by_cases hd : rg j < ab (cp n - kp j)
          · rw [if_pos hd, if_pos (by rw [t_lt] at hd; rw [t_le] at *; omega)]
            exact ⟨rfl, keep⟩
          · rw [if_neg hd]
            by_cases hb2 : ab (cp i - kp j) ≤ ab (cp n - kp j)
            · rw [if_pos hb2, if_neg (by rw [t_le] at hb2; rw [t_lt]; omega)]
              exact ⟨rfl, keep⟩
            · rw [if_neg hb2, if_pos (by rw [t_le] at hb2; rw [t_lt]; omega)]
              exact ⟨rfl, Or.inr ⟨n, by omega, rfl, rfl, hle hd⟩⟩
theorem aim_eq {kp rg pw cp ha : fI} {nc j : Nat} (hha : ∀ k, 0 ≤ ha k) (hr : (rg j).toInt ≤ 9) (hc : nc ≤ 1000) : aimF kp rg pw cp ha nc j = targF kp rg pw cp ha nc j := by
  unfold targF
  by_cases hp : pw j ≤ 0
  · rw [if_pos hp]
    unfold aimF
    have : ∀ n, yi n (aimS kp rg pw cp ha j) (-1) = -1 := by
      intro n
      induction n with
      | zero => rfl
      | succ n ih =>
        show aimS kp rg pw cp ha j n (yi n (aimS kp rg pw cp ha j) (-1)) = -1
        rw [ih]
        exact if_pos hp
    exact this nc
  · rw [if_neg hp]
    exact (aim_inv hha hr hp nc hc).1
theorem targ_m1 {kp rg pw cp ha : fI} {nc j : Nat} (hc : nc ≤ 1000) : targF kp rg pw cp ha nc j < 0 ↔ targF kp rg pw cp ha nc j = -1 := by
  constructor
  · intro h
    unfold targF at h ⊢
    by_cases e : pw j ≤ 0
    · rw [if_pos e]
    · rw [if_neg e] at h ⊢
      rcases near_ix cp ha (kp j) (rg j) nc with q | ⟨k, hk, q⟩
      · exact q
      · have q' : nearF cp ha (kp j) (rg j) nc = nI k := q
        rw [q'] at h
        exact absurd h (nI_pos (by omega))
  · intro h; rw [h]; decide
theorem yi_0 {α : Type} (s : Nat → α → α) (x : α) : yi 0 s x = x := rfl
theorem yi_s {α : Type} (n : Nat) (s : Nat → α → α) (x : α) : yi (n + 1) s x = s n (yi n s x) := rfl
theorem upd_nn {f : fI} {j : Nat} {x : Int32} (hf : ∀ k, 0 ≤ f k) (hx : 0 ≤ x) : ∀ k, 0 ≤ upd f j x k := by
  intro k
  show 0 ≤ (if k = j then x else f k)
  split
  · exact hx
  · exact hf k
theorem upd_self (f : fI) (j : Nat) : upd f j (f j) = f := by
  funext k
  show (if k = j then f j else f k) = f k
  split
  · rename_i h; rw [h]
  · rfl
theorem mx_nn (x : Int32) : 0 ≤ mx x 0 := by
  unfold mx
  split
  · decide
  · rename_i h; rw [t_lt] at h; rw [t_le]; omega
theorem rshoot_s (kp rg cp pl : fI) (me : fB) (nc ny n : Nat) (w : fI × fI × fI × fI) : rshootF kp rg cp pl me nc ny (n + 1) w = rshootS kp rg cp pl me nc ny n (rshootF kp rg cp pl me nc ny n w) := by
  unfold rshootF
  exact yi_s n _ w
theorem shoot_s (kp rg cp pl : fI) (me : fB) (nc ny n : Nat) (w : fI × fI × fI × fI) : shootF kp rg cp pl me nc ny (n + 1) w = shootS kp rg cp pl me nc ny n (shootF kp rg cp pl me nc ny n w) := by
  unfold shootF
  exact yi_s n _ w
theorem shootS_eq {kp rg cp pl : fI} {me : fB} {nc ny : Nat} (hr : ∀ k, 0 ≤ (rg k).toInt ∧ (rg k).toInt ≤ 9) (hc : nc ≤ 1000) (n : Nat) (v : fI × fI × fI × fI) (h : ∀ k, 0 ≤ v.2.2.1 k) :
    rshootS kp rg cp pl me nc ny n v = shootS kp rg cp pl me nc ny n v ∧ ∀ k, 0 ≤ (shootS kp rg cp pl me nc ny n v).2.2.1 k := by
  unfold rshootS shootS
  rw [aim_eq h (hr n).2 hc]
  by_cases ht : targF kp rg v.1 cp v.2.2.1 nc n < 0
  · rw [if_pos ht, if_pos ((targ_m1 hc).mp ht)]
    exact ⟨rfl, h⟩
  · rw [if_neg ht, if_neg (fun q => ht ((targ_m1 hc).mpr q))]
    unfold shotF
    generalize (targF kp rg v.1 cp v.2.2.1 nc n).toNatClampNeg = t
    rw [mx_comm 0, ab_sym (kp n)]
    exact ⟨rfl, upd_nn h (mx_nn _)⟩
theorem shoot_eq {kp rg cp pl : fI} {me : fB} {nc ny : Nat} (hr : ∀ k, 0 ≤ (rg k).toInt ∧ (rg k).toInt ≤ 9) (hc : nc ≤ 1000) (w : fI × fI × fI × fI) (hw : ∀ k, 0 ≤ w.2.2.1 k) : ∀ n,
    rshootF kp rg cp pl me nc ny n w = shootF kp rg cp pl me nc ny n w ∧ ∀ k, 0 ≤ (shootF kp rg cp pl me nc ny n w).2.2.1 k := by
  intro n
  induction n with
  | zero =>
    have e1 : rshootF kp rg cp pl me nc ny 0 w = w := by unfold rshootF; exact yi_0 _ w
    have e2 : shootF kp rg cp pl me nc ny 0 w = w := by unfold shootF; exact yi_0 _ w
    rw [e1, e2]
    exact ⟨rfl, hw⟩
  | succ n ih =>
    obtain ⟨e, h⟩ := ih
    rw [rshoot_s, shoot_s, e]
    exact shootS_eq hr hc n _ h
theorem rtake_eq (pl : fI) (hp dn : Int32) (n : Nat) (w : fI × fI × fI) : rtakeF pl hp dn n w = takeF pl hp dn n w := by
  have : rtakeS pl hp dn = takeS pl hp dn := by
    funext j w
    unfold rtakeS takeS
    rw [mn_comm (w.1 j)]
  unfold rtakeF takeF
  rw [this]
theorem t_2 {x : Int32} (h0 : 0 ≤ x.toInt) (h4 : x.toInt ≤ 4) : 0 ≤ 2 * x := by
  have h2 : (2 : Int32).toInt = 2 := rfl
  rw [t_le, t_mul (by rw [h2]; omega) (by rw [h2]; omega), h2, t_0]
  omega
theorem t_m4 {x : Int32} (h : 0 ≤ x) : 0 ≤ (mn x 4).toInt ∧ (mn x 4).toInt ≤ 4 := by
  have h4 : (4 : Int32).toInt = 4 := rfl
  rw [t_le, t_0] at h
  unfold mn
  split
  · omega
  · rename_i q; rw [t_lt] at q; omega
theorem t_subm {a x : Int32} (ha : 0 ≤ a) (hx : 0 ≤ x) : 0 ≤ x - mn a x := by
  have hr := t_rng x
  rw [t_le, t_0] at *
  unfold mn
  split
  · rw [t_sub (by omega) (by omega)]; omega
  · rename_i q
    rw [t_lt] at q
    rw [t_sub (by omega) (by omega)]; omega
theorem take_nn {pl : fI} {hp hl : Int32} (hl0 : 0 ≤ 2 * hl) (w : fI × fI × fI) (hw : ∀ k, 0 ≤ w.1 k) : ∀ n k, 0 ≤ (takeF pl hp hl n w).1 k := by
  intro n
  induction n with
  | zero => exact hw
  | succ n ih =>
    show ∀ k, 0 ≤ (takeS pl hp hl n (takeF pl hp hl n w)).1 k
    generalize takeF pl hp hl n w = v at ih ⊢
    unfold takeS
    split
    · exact upd_nn ih (t_subm hl0 (ih n))
    · exact ih
theorem take_0 {pl : fI} {hp : Int32} (w : fI × fI × fI) (hw : ∀ k, 0 ≤ w.1 k) : ∀ n, takeF pl hp 0 n w = w := by
  intro n
  induction n with
  | zero => rfl
  | succ n ih =>
    show takeS pl hp 0 n (takeF pl hp 0 n w) = w
    rw [ih]
    unfold takeS
    split
    · have h := hw n
      have e : mn (2 * 0) (w.1 n) = 0 := by
        show mn 0 (w.1 n) = 0
        unfold mn
        rw [if_neg (by rw [t_le] at h; rw [t_lt]; omega)]
      rw [e, Int32.sub_zero, Int32.add_zero, Int32.add_zero, upd_self, upd_self, upd_self]
    · rfl
theorem drop_eq {cp pl : fI} {ny : Nat} (w : fI × fI × fI × fI) (hw : ∀ k, 0 ≤ w.1 k) (hv : ∀ k, 0 ≤ w.2.1 k) : ∀ n,
    rdropF cp pl ny n w = dropF cp pl ny n w ∧ (∀ k, 0 ≤ (dropF cp pl ny n w).1 k) ∧ ∀ k, 0 ≤ (dropF cp pl ny n w).2.1 k := by
  intro n
  induction n with
  | zero => exact ⟨rfl, hw, hv⟩
  | succ n ih =>
    obtain ⟨e, h1, h2⟩ := ih
    show rdropS cp pl ny n (rdropF cp pl ny n w) = dropS cp pl ny n (dropF cp pl ny n w) ∧ (∀ k, 0 ≤ (dropS cp pl ny n (dropF cp pl ny n w)).1 k) ∧ ∀ k, 0 ≤ (dropS cp pl ny n (dropF cp pl ny n w)).2.1 k
    rw [e]
    generalize dropF cp pl ny n w = v at h1 h2 ⊢
    unfold rdropS dropS
    cases hg : gnF cp n with
    | true => simp only [cond_true]; exact ⟨trivial, h1, h2⟩
    | false =>
      simp only [cond_false]
      rw [mn_comm 4, rtake_eq]
      by_cases h0 : v.1 n ≤ 0
      · have hh := h1 n
        have hz : v.1 n = 0 := Int32.toInt_inj.mp (by rw [t_le, t_0] at *; omega)
        have hm : mn (v.1 n) 4 = 0 := by rw [hz]; decide
        rw [if_pos h0, hm, take_0 _ h2, Int32.sub_zero, upd_self]
        exact ⟨rfl, h1, h2⟩
      · rw [if_neg h0]
        have h4 := t_m4 (h1 n)
        refine ⟨rfl, upd_nn h1 ?_, take_nn (t_2 h4.1 h4.2) _ h2 ny⟩
        show 0 ≤ v.1 n - mn (v.1 n) 4
        rw [mn_comm]
        exact t_subm (by decide) (h1 n)
theorem set_eq {ins : fB} (co : Int32) (a b c : fI) : ∀ n, rsetF ins n (co, a, b, c) = (co + (closeF ins n (0, a, b, c)).1, (closeF ins n (0, a, b, c)).2) := by
  intro n
  induction n with
  | zero =>
    show (co, a, b, c) = (co + 0, a, b, c)
    rw [Int32.add_zero]
  | succ n ih =>
    show rsetS ins n (rsetF ins n (co, a, b, c)) = (co + (closeS ins n (closeF ins n (0, a, b, c))).1, (closeS ins n (closeF ins n (0, a, b, c))).2)
    rw [ih]
    generalize closeF ins n (0, a, b, c) = v
    obtain ⟨g, x, y, z⟩ := v
    unfold rsetS closeS
    simp only
    refine Prod.ext ?_ (Prod.ext ?_ rfl)
    · show cond (ins n) (co + g + (1 - y n / 2)) (co + g) - z n = co + (cond (ins n) (g + (1 - y n / 2)) g - z n)
      cases ins n with
      | true => rw [cond_true, cond_true, Int32.sub_eq_add_neg, Int32.sub_eq_add_neg (b := z n), Int32.add_assoc, Int32.add_assoc, Int32.add_assoc]
      | false => rw [cond_false, cond_false, Int32.sub_eq_add_neg, Int32.sub_eq_add_neg (b := z n), Int32.add_assoc]
    · show cond (inR (x n) 1 98) (upd x n (x n + 1)) x = if x n < 1 then x else if 99 ≤ x n then x else upd x n (x n + 1)
      unfold inR
      by_cases h1 : x n < 1
      · rw [if_pos h1, if_pos h1]; rfl
      · rw [if_neg h1, if_neg h1]
        have e8 : (98 : Int32).toInt = 98 := rfl
        have e9 : (99 : Int32).toInt = 99 := rfl
        by_cases h2 : 98 < x n
        · rw [if_pos h2, if_pos (by rw [t_lt] at h2; rw [t_le]; omega)]; rfl
        · rw [if_neg h2, if_neg (by rw [t_lt] at h2; rw [t_le]; omega)]; rfl
theorem close_nn {ins : fB} (w : Int32 × fI × fI × fI) (hw : ∀ k, 0 ≤ w.2.1 k) : ∀ n k, 0 ≤ (closeF ins n w).2.1 k := by
  intro n
  induction n with
  | zero => exact hw
  | succ n ih =>
    show ∀ k, 0 ≤ (closeS ins n (closeF ins n w)).2.1 k
    generalize closeF ins n w = v at ih ⊢
    unfold closeS
    show ∀ k, 0 ≤ (if v.2.1 n < 1 then v.2.1 else if 99 ≤ v.2.1 n then v.2.1 else upd v.2.1 n (v.2.1 n + 1)) k
    split
    · exact ih
    · split
      · exact ih
      · rename_i h1 h2
        refine upd_nn ih ?_
        have e1 : (1 : Int32).toInt = 1 := rfl
        have e9 : (99 : Int32).toInt = 99 := rfl
        rw [t_lt] at h1
        rw [t_le] at h2
        rw [t_le, t_add (by omega) (by omega), t_0]
        omega
theorem drive_0 {dr : fI} {w : Int32} {nc : Nat} {cp : fI} (h : ∀ k, nc ≤ k → cp k = 0) : ∀ k, nc ≤ k → driveF dr w nc cp k = 0 := by
  intro k hk
  rw [drive_at, if_neg (by omega)]
  exact h k hk
/-- what every state keeps -/
def Iv (e : ES) (s : DS) : Prop := (∀ k, 0 ≤ s.1 k) ∧ (∀ k, 0 ≤ s.2.2.2.2.2.2.2.1 k) ∧ (∀ k, 0 ≤ (e.2.2.2.2.2.1 k).toInt ∧ (e.2.2.2.2.2.1 k).toInt ≤ 9) ∧ e.2.2.2.2.2.2.2.2.1 ≤ 20 ∧ ∀ k, e.2.2.2.2.2.2.2.2.1 ≤ k → s.2.2.2.2.2.2.1 k = 0
theorem hour_eq {e : ES} {s : DS} (h : Nat) (hI : Iv e s) : rhourF e h s = hourF e h s ∧ Iv e (hourF e h s) := by
  obtain ⟨pl, me, ins, n, kp, rg, nk, dr, nc, wd⟩ := e
  obtain ⟨vi, lt, su, la, pw, sh, cp, ha, co⟩ := s
  obtain ⟨h1, h2, h3, h4, h5⟩ := hI
  simp only at h1 h2 h3 h4 h5
  have hd := drive_0 (dr := dr) (w := wd (h % 6)) h5
  unfold rhourF hourF
  simp only
  generalize driveF dr (wd (h % 6)) nc cp = cq at hd ⊢
  obtain ⟨s1, s2⟩ := shoot_eq (kp := kp) (rg := rg) (cp := cq) (pl := pl) (me := me) (nc := nc) (ny := n) h3 (by omega) (pw, sh, ha, su) h2 nk
  rw [s1]
  generalize shootF kp rg cq pl me nc n nk (pw, sh, ha, su) = w1 at s2 ⊢
  obtain ⟨d1, d2, d3⟩ := drop_eq (cp := cq) (pl := pl) (ny := n) (w1.2.2.1, vi, lt, la) s2 h1 nc
  rw [d1]
  generalize dropF cq pl n nc (w1.2.2.1, vi, lt, la) = w2 at d2 d3 ⊢
  rw [set_eq]
  have c1 := close_nn (ins := ins) (0, w2.2.1, w2.2.2.1, w1.2.2.2) d3 n
  generalize closeF ins n (0, w2.2.1, w2.2.2.1, w1.2.2.2) = w3 at c1 ⊢
  by_cases hq : nI (h % 24) = 23
  · rw [if_pos hq]
    exact ⟨rfl, c1, d2, h3, h4, hd⟩
  · rw [if_neg hq]
    exact ⟨rfl, d3, d2, h3, h4, hd⟩
theorem hoursS_h (e : ES) (h k : Nat) (s : DS) : hoursS e h k s = hourF e (h + k) s := by
  obtain ⟨vi, lt, su, la, pw, sh, cp, ha, co⟩ := s
  unfold hoursS
  simp only
theorem rhoursS_h (e : ES) (h k : Nat) (s : DS) : rhoursS e h k s = rhourF e (h + k) s := by
  obtain ⟨vi, lt, su, la, pw, sh, cp, ha, co⟩ := s
  unfold rhoursS
  simp only
theorem hours_s (e : ES) (h m : Nat) (s : DS) : hoursF e h (m + 1) s = hourF e (h + m) (hoursF e h m s) := by
  unfold hoursF
  rw [yi_s, hoursS_h]
theorem rhours_s (e : ES) (h m : Nat) (s : DS) : rhoursF e h (m + 1) s = rhourF e (h + m) (rhoursF e h m s) := by
  unfold rhoursF
  rw [yi_s, rhoursS_h]
theorem hours_eq {e : ES} {s : DS} (h : Nat) (hI : Iv e s) : ∀ m, rhoursF e h m s = hoursF e h m s ∧ Iv e (hoursF e h m s) := by
  intro m
  induction m with
  | zero =>
    have e1 : rhoursF e h 0 s = s := by unfold rhoursF; exact yi_0 _ s
    have e2 : hoursF e h 0 s = s := by unfold hoursF; exact yi_0 _ s
    rw [e1, e2]
    exact ⟨rfl, hI⟩
  | succ m ih =>
    obtain ⟨e1, i1⟩ := ih
    rw [hours_s, rhours_s, e1]
    exact hour_eq (h + m) i1
theorem Iv.kp {e : ES} {s : DS} (hI : Iv e s) (j : Nat) (p : Int32) : Iv (setKp e j p) s := hI
theorem lost_eq {e : ES} {s : DS} (h j m : Nat) (p : Int32) (hI : Iv e s) : rlostW e h s j m p = lostW e h s j m p := by
  unfold rlostW lostW
  rw [(hours_eq h (hI.kp j p) m).1]
theorem adv_eq {e : ES} {s : DS} (h j m : Nat) (hI : Iv e s) : radvF e h s j m = advF e h s j m := by
  unfold radvF advF
  have : radvS e h s j m = advS e h s j m := by
    funext p w
    unfold radvS advS
    rw [lost_eq h j m _ hI]
    by_cases q : w.1 ≤ lostW e h s j m (nI p)
    · rw [if_pos q, if_neg (by rw [t_le] at q; rw [t_lt]; omega)]
    · rw [if_neg q, if_pos (by rw [t_le] at q; rw [t_lt]; omega)]
  rw [this, lost_eq h j m _ hI]
theorem hit_eq {e : ES} {s : DS} (h v : Nat) (hI : Iv e s) : rhitF e h s v = hitF e h s v := by
  unfold rhitF hitF
  have : rhitP e h s v = hitP e h s v := by
    funext i
    unfold rhitP hitP
    rw [(hours_eq h hI i).1]
  rw [this]
theorem many_eq (f : fB) (n : Nat) : sumF (biF f) n = manyF f n := by
  unfold sumF manyF
  congr 1
  funext k a
  show a + bI (f k) = cond (f k) (a + Int32.ofInt 1) a
  cases f k with
  | true => rfl
  | false => exact Int32.add_zero a
theorem there_eq (cp : fI) (n : Nat) : rthereF cp n = thereF cp n := by
  unfold rthereF thereF
  congr 1
  funext k a
  cases gnF cp k with
  | true => exact Int32.add_zero a
  | false => rfl
theorem tot_eq (e : ES) (h : Nat) (s : DS) (w : Nat) : rtotF e h s w = totF e h s w := by
  unfold rtotF totF
  rw [many_eq, many_eq, there_eq]
theorem kfact_eq {e : ES} {s : DS} (hI : Iv e s) (pw sh : fI) (j w : Nat) : rkfact e.2.2.2.2.1 e.2.2.2.2.2.1 pw sh s.2.2.2.2.2.2.1 s.2.2.2.2.2.2.2.1 e.2.2.2.2.2.2.2.2.1 j w = kfact e.2.2.2.2.1 e.2.2.2.2.2.1 pw sh s.2.2.2.2.2.2.1 s.2.2.2.2.2.2.2.1 e.2.2.2.2.2.2.2.2.1 j w := by
  unfold rkfact kfact
  rw [aim_eq hI.2.1 (hI.2.2.1 j).2 (Nat.le_trans hI.2.2.2.1 (by decide))]
