-- PURE: numbers
theorem t_lt {x y : Int32} : x < y ↔ x.toInt < y.toInt := Int32.lt_iff_toInt_lt
theorem t_le {x y : Int32} : x ≤ y ↔ x.toInt ≤ y.toInt := Int32.le_iff_toInt_le
theorem t_eq {x y : Int32} : x = y ↔ x.toInt = y.toInt := Int32.toInt_inj.symm
theorem t_0 : (0 : Int32).toInt = 0 := rfl
theorem t_1 : (1 : Int32).toInt = 1 := rfl
theorem t_2c : (2 : Int32).toInt = 2 := rfl
theorem t_3c : (3 : Int32).toInt = 3 := rfl
theorem t_4c : (4 : Int32).toInt = 4 := rfl
theorem t_29 : (29 : Int32).toInt = 29 := rfl
theorem t_30 : (30 : Int32).toInt = 30 := rfl
theorem t_60 : (60 : Int32).toInt = 60 := rfl
theorem t_99 : (99 : Int32).toInt = 99 := rfl
theorem t_m1 : (-1 : Int32).toInt = -1 := rfl
theorem t_bm {x : Int} (h1 : -2147483648 ≤ x) (h2 : x < 2147483648) : x.bmod (2 ^ 32) = x := by
  rw [Int.bmod_def]
  split <;> omega
theorem t_sub {x y : Int32} (h1 : -2147483648 ≤ x.toInt - y.toInt) (h2 : x.toInt - y.toInt < 2147483648) : (x - y).toInt = x.toInt - y.toInt := by
  rw [Int32.toInt_sub]; exact t_bm h1 h2
theorem t_add {x y : Int32} (h1 : -2147483648 ≤ x.toInt + y.toInt) (h2 : x.toInt + y.toInt < 2147483648) : (x + y).toInt = x.toInt + y.toInt := by
  rw [Int32.toInt_add]; exact t_bm h1 h2
theorem t_mul {x y : Int32} (h1 : -2147483648 ≤ x.toInt * y.toInt) (h2 : x.toInt * y.toInt < 2147483648) : (x * y).toInt = x.toInt * y.toInt := by
  rw [Int32.toInt_mul]; exact t_bm h1 h2
theorem t_rng (x : Int32) : -2147483648 ≤ x.toInt ∧ x.toInt < 2147483648 := by
  have h1 := Int32.le_toInt x
  have h2 := Int32.toInt_lt x
  omega
theorem g_1 (a b : Int32) : a - b + 1 = a + 1 - b := by grind
theorem g_2 (a b c : Int32) : a + (b + c) = a + (c + b) := by grind
theorem g_3 (A B x y : Int32) : A + x - (B + y) = (A - B) + (x - y) := by grind
theorem g_4 (co g su lt : Int32) : co + g - su + 1 - lt = co + ((g + (1 - lt)) - su) := by grind
theorem g_5 (a b c : Int32) : a + b + c = a + (b + c) := by grind
theorem yi_0 {α : Type} (s : Nat → α → α) (x : α) : yi 0 s x = x := rfl
theorem yi_s {α : Type} (n : Nat) (s : Nat → α → α) (x : α) : yi (n + 1) s x = s n (yi n s x) := rfl
theorem mn_t {x y : Int32} : (mn x y).toInt = min x.toInt y.toInt := by
  unfold mn
  split
  · rename_i h; rw [t_lt] at h; omega
  · rename_i h; rw [t_lt] at h; omega
theorem mx_t {x y : Int32} : (mx x y).toInt = max x.toInt y.toInt := by
  unfold mx
  split
  · rename_i h; rw [t_lt] at h; omega
  · rename_i h; rw [t_lt] at h; omega
theorem mn_comm (x y : Int32) : mn x y = mn y x := by
  rw [t_eq, mn_t, mn_t]; omega
theorem ab_t {x : Int32} (h : -1000000 ≤ x.toInt) (h2 : x.toInt ≤ 1000000) : (ab x).toInt = max x.toInt (-x.toInt) := by
  unfold ab
  split
  · rename_i q; rw [t_le, t_0] at q; omega
  · rename_i q; rw [t_le, t_0] at q; rw [t_sub (by rw [t_0]; omega) (by rw [t_0]; omega), t_0]; omega
theorem upd_at (f : fI) (j : Nat) (x : Int32) (k : Nat) : upd f j x k = if k = j then x else f k := rfl
theorem up2_at (F : fR) (r j : Nat) (x : Int32) (k w : Nat) : up2 F r j x k w = if k = r then (if w = j then x else F k w) else F k w := by
  unfold up2
  by_cases h : k = r
  · rw [if_pos h, if_pos h, upd_at, h]
  · rw [if_neg h, if_neg h]
theorem isPl_t {x : Int32} : isPl x = true ↔ 0 ≤ x.toInt ∧ x.toInt ≤ 29 := by
  unfold isPl
  by_cases h : x < 0
  · rw [if_pos h]; rw [t_lt, t_0] at h; simp; omega
  · rw [if_neg h]
    by_cases h2 : 30 ≤ x
    · rw [if_pos h2]; rw [t_le, t_30] at h2; simp; omega
    · rw [if_neg h2]; rw [t_lt, t_0] at h; rw [t_le, t_30] at h2; simp; omega
theorem gn_t {x : Int32} : gn x = true ↔ x.toInt < 0 ∨ 29 < x.toInt := by
  unfold gn
  rw [Bool.not_eq_true', ← Bool.not_eq_true, isPl_t]
  omega
theorem gn_f {x : Int32} : gn x = false ↔ 0 ≤ x.toInt ∧ x.toInt ≤ 29 := by
  rw [← Bool.not_eq_true, gn_t]
  omega
