-- PURE: what is done to both keeps the state's bounds
theorem rg_upd {f : fI} {a b : Int} (h : ∀ k, rg (f k) a b) {j : Nat} {x : Int32} (hx : rg x a b) : ∀ k, rg (upd f j x k) a b := by
  intro k
  rw [upd_at]
  split
  · exact hx
  · exact h k
theorem rg_w {x : Int32} {a b a' b' : Int} (h : rg x a b) (h1 : a' ≤ a) (h2 : b ≤ b') : rg x a' b' := ⟨by have := h.1; omega, by have := h.2; omega⟩
theorem rg_0 {a b : Int} (h1 : a ≤ 0) (h2 : 0 ≤ b) : rg 0 a b := ⟨by rw [t_0]; exact h1, by rw [t_0]; exact h2⟩
theorem Jv_00 : Jv e00 0 s00 := by
  have z : ∀ {a b : Int}, a ≤ 0 → 0 ≤ b → ∀ (_ : Nat), rg 0 a b := fun h1 h2 _ => rg_0 h1 h2
  exact ⟨⟨Nat.zero_le _, Nat.zero_le _, Nat.zero_le _⟩, ⟨z (by omega) (by omega), z (by omega) (by omega), z (by omega) (by omega), z (by omega) (by omega), z (by omega) (by omega)⟩,
    ⟨z (by omega) (by omega), z (by omega) (by omega), z (by omega) (by omega), z (by omega) (by omega), z (by omega) (by omega), z (by omega) (by omega), z (by omega) (by omega), z (by omega) (by omega)⟩, ⟨fun _ _ => ⟨rfl, rfl, rfl⟩, fun _ _ => rfl, fun _ _ => rfl⟩⟩
theorem Jv_pl {e : ES} {h : Nat} {s : DS} (hJ : Jv e h s) {x y : Int32} {p q : Bool} (hn : eN e < 10) (hx : rg x 0 29) (hy : rg y 0 99) : Jv (plE e x p q) h (plS e s y) := by
  obtain ⟨⟨h1, h2, h3⟩, ⟨p1, p2, p3, p4, p5⟩, ⟨v1, v2, v3, v4, v5, v6, v7, v8⟩, ⟨z1, z2, z3⟩⟩ := hJ
  exact ⟨⟨hn, h2, h3⟩, ⟨rg_upd p1 hx, p2, p3, p4, p5⟩, ⟨rg_upd v1 hy, v2, v3, v4, v5, v6, v7, v8⟩, ⟨fun k hk => z1 k (by have : eN e + 1 ≤ k := hk; omega), z2, z3⟩⟩
theorem Jv_sg {e : ES} {h : Nat} {s : DS} (hJ : Jv e h s) {j : Nat} {p q : Bool} : Jv (sgE e j p q) h s := hJ
theorem Jv_ca {e : ES} {h : Nat} {s : DS} (hJ : Jv e h s) {x y z : Int32} (hn : eNk e < 6) (hx : rg x 0 29) (hy : rg y 1 9) (hz : rg z 0 60) : Jv (caE e x y) h (caS e s z) := by
  obtain ⟨⟨h1, h2, h3⟩, ⟨p1, p2, p3, p4, p5⟩, ⟨v1, v2, v3, v4, v5, v6, v7, v8⟩, ⟨z1, z2, z3⟩⟩ := hJ
  exact ⟨⟨h1, hn, h3⟩, ⟨p1, rg_upd p2 hx, rg_upd p3 (rg_w hy (by omega) (by omega)), p4, p5⟩, ⟨v1, v2, v3, v4, rg_upd v5 hz, v6, v7, v8⟩, ⟨z1, fun k hk => z2 k (by have : eNk e + 1 ≤ k := hk; omega), z3⟩⟩
theorem Jv_lo {e : ES} {h : Nat} {s : DS} (hJ : Jv e h s) {j : Nat} {x : Int32} (hx : rg x 1 60) : Jv e h (loS s j x) := by
  obtain ⟨h1, h2, ⟨v1, v2, v3, v4, v5, v6, v7, v8⟩, h4⟩ := hJ
  refine ⟨h1, h2, ⟨v1, v2, v3, v4, rg_upd v5 ?_, v6, v7, v8⟩, h4⟩
  have a := v5 j
  unfold rg at a hx ⊢
  rw [mn_t, t_60, t_add (by omega) (by omega)]
  omega
theorem Jv_ga {e : ES} {h : Nat} {s : DS} (hJ : Jv e h s) {x y z : Int32} (hn : eNc e < 20) (hx : rg x 0 29) (hy : rg y (-3) 3) (hz : rg z 0 60) : Jv (gaE e y) h (gaS e s x z) := by
  obtain ⟨⟨h1, h2, h3⟩, ⟨p1, p2, p3, p4, p5⟩, ⟨v1, v2, v3, v4, v5, v6, v7, v8⟩, ⟨z1, z2, z3⟩⟩ := hJ
  refine ⟨⟨h1, h2, hn⟩, ⟨p1, p2, p3, rg_upd p4 hy, p5⟩, ⟨v1, v2, v3, v4, v5, v6, rg_upd v7 (rg_w hx (by omega) (by omega)), rg_upd v8 hz⟩, ⟨z1, z2, fun k hk => ?_⟩⟩
  have hk' : eNc e + 1 ≤ k := hk
  show upd (sCp s) (eNc e) x k = 0
  rw [upd_at, if_neg (by omega)]
  exact z3 k (by omega)
theorem Jv_wi {e : ES} {h : Nat} {s : DS} (hJ : Jv e h s) {j : Nat} {x : Int32} (hx : rg x (-2) 2) : Jv (wiE e j x) h s := by
  obtain ⟨h1, ⟨p1, p2, p3, p4, p5⟩, h3, h4⟩ := hJ
  exact ⟨h1, ⟨p1, p2, p3, p4, rg_upd p5 hx⟩, h3, h4⟩
theorem Jv_mo {e : ES} {h : Nat} {s : DS} (hJ : Jv e h s) {j : Nat} {x : Int32} (hx : rg x 0 29) : Jv (moE e j x) h (moS s) := by
  obtain ⟨h1, ⟨p1, p2, p3, p4, p5⟩, h3, h4⟩ := hJ
  exact ⟨h1, ⟨p1, rg_upd p2 hx, p3, p4, p5⟩, h3, h4⟩
theorem arow_k {e : ES} {s : DS} {k w : Nat} (hw : w < 4) : arow e s k w = krow e s k w := by
  rcases (show w = 0 ∨ w = 1 ∨ w = 2 ∨ w = 3 by omega) with rfl | rfl | rfl | rfl <;> rfl
theorem mean_eq (e : ES) (s : DS) : sumR (yrow e s) 1 (eN e) = sumF (sVi s) (eN e) := rfl
theorem many_sum (f : fB) (n : Nat) : yi n (fun k a => a + bI (f k)) 0 = manyF f n := by
  unfold manyF
  congr 1
  funext k a
  cases f k with
  | true => rfl
  | false => exact Int32.add_zero a
theorem nI_ps (n : Nat) : nI (n + 1) = nI n + 1 := nI_succ n
theorem there_sum (cp : fI) (n : Nat) : nI n - yi n (fun k a => a + bI (gnF cp k)) 0 = thereF cp n := by
  unfold thereF
  induction n with
  | zero =>
    show nI 0 - (0 : Int32) = 0
    decide
  | succ n ih =>
    rw [yi_s, yi_s, ← ih, nI_ps]
    cases gnF cp n with
    | true => show nI n + 1 - (yi n _ 0 + 1) = _; rw [cond_true]; grind
    | false => show nI n + 1 - (yi n _ 0 + 0) = _; rw [cond_false]; show _ = _ + (1 : Int32); grind
theorem cnt_eq {e : ES} {h : Nat} {s : DS} {w : Nat} (hw : w < 10) : cntR h (sCo s) (eN e) (eNk e) (eNc e) (yrow e s) (krow e s) (crow e s) w = totF e h s w := by
  rcases (show w = 0 ∨ w = 1 ∨ w = 2 ∨ w = 3 ∨ w = 4 ∨ w = 5 ∨ w = 6 ∨ w = 7 ∨ w = 8 ∨ w = 9 by omega) with rfl | rfl | rfl | rfl | rfl | rfl | rfl | rfl | rfl | rfl
  · rfl
  · rfl
  · rfl
  · rfl
  · rfl
  · rfl
  · exact many_sum (eMe e) (eN e)
  · exact many_sum (eIn e) (eN e)
  · exact there_sum (sCp s) (eNc e)
  · rfl
theorem adv_rg (e : ES) (h : Nat) (s : DS) (j m : Nat) : ∀ n, n ≤ 30 → ∀ w : Int32 × Int32, rg w.2 (-1) 29 → rg (yi n (advS e h s j m) w).2 (-1) 29 := by
  intro n
  induction n with
  | zero => intro _ w hw; exact hw
  | succ n ih =>
    intro hn w hw
    rw [yi_s]
    have := ih (by omega) w hw
    generalize yi n (advS e h s j m) w = v at this ⊢
    unfold advS
    split
    · exact this
    · show rg (nI n) (-1) 29
      unfold rg
      rw [nI_toInt (by omega)]
      omega
theorem q_best (e : ES) (h : Nat) (s : DS) (j : Nat) : ¬ advF e h s j 6 < -1 ∧ advF e h s j 6 ≤ 29 := by
  have h1 : rg (advF e h s j 6) (-1) 29 := adv_rg e h s j 6 30 (Nat.le_refl _) _ ⟨by show (-1 : Int) ≤ (-1 : Int32).toInt; decide, by show (-1 : Int32).toInt ≤ 29; decide⟩
  unfold rg at h1
  rw [t_lt, t_le, t_m1, t_29]
  omega
