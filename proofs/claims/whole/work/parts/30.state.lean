-- THE REFERENCE'S STATE
def biF (f : fB) : fI := fun k => bI (f k)
theorem bi_upd (f : fB) (j : Nat) (b : Bool) : upd (biF f) j (bI b) = biF (updB f j b) := by
  funext k
  unfold upd biF updB
  by_cases h : k = j
  · rw [if_pos h, if_pos h]
  · rw [if_neg h, if_neg h]
theorem bI_e1 {b : Bool} (h : bI b = 1) : b = true := by cases b <;> first | rfl | exact absurd h (by decide)
theorem bI_n1 {b : Bool} (h : ¬ bI b = 1) : b = false := by cases b <;> first | rfl | exact absurd rfl h
section YZ
variable {d : yyD} {G : yyG} {cc : ByteArray} {own : String} {R : Room} {nL : Nat} {ret : Option FieldType} {k n : Nat} {Q : State → Prop} {ws : va_W} {lv : List (Nat × Value)} {pc : Nat} {st : List Value}
theorem y_b1ne (hC : yyC d G cc own R nL ret) {b : Bool} {off : Int} (hdg : decode cc pc = .ok (.if_icmp .ne off, 3)) (tgt : Nat) (ht : (pc : Int) + off = (tgt : Int)) (kt : b = false → yyW d G k n Q ws lv tgt st) (kf : b = true → yyW d G k n Q ws lv (pc + 3) st) : yyW d G k n Q ws lv pc (.int 1 :: .int (bI b) :: st) :=
  y_cmp_ne hC hdg tgt ht (fun c => kt (bI_n1 c)) (fun c => kf (bI_e1 c))
end YZ
theorem i29 : (29 : Int32).toInt = 29 := by decide
theorem i30 : (30 : Int32).toInt = 30 := by decide
theorem lt29 {x : Int32} : 29 < x ↔ 30 ≤ x := by
  rw [Int32.lt_iff_toInt_lt, Int32.le_iff_toInt_le, i29, i30]
  omega
theorem isPl_in (x : Int32) : inR x 0 29 = isPl x := by
  unfold inR isPl
  by_cases h : x < 0
  · rw [if_pos h, if_pos h]
  · rw [if_neg h, if_neg h]
    by_cases h2 : 29 < x
    · rw [if_pos h2, if_pos (lt29.mp h2)]
    · rw [if_neg h2, if_neg (fun q => h2 (lt29.mpr q))]
/-- one cloud looked at by a cannon -/
def aimS (kp rg pw cp ha : fI) (j c : Nat) (w : Int32) : Int32 :=
  if pw j ≤ 0 then w else cond (gnF cp c) w (if ha c = 0 then w else if rg j < ab (kp j - cp c) then w else if w = -1 then nI c else if ab (kp j - cp c) < ab (kp j - cp w.toNatClampNeg) then nI c else w)
def aimF (kp rg pw cp ha : fI) (nc j : Nat) : Int32 := yi nc (aimS kp rg pw cp ha j) (-1)
theorem aim_ix0 (kp rg pw cp ha : fI) (j : Nat) : ∀ n, yi n (aimS kp rg pw cp ha j) (-1) = -1 ∨ ∃ t, t < n ∧ yi n (aimS kp rg pw cp ha j) (-1) = nI t := by
  intro n
  induction n with
  | zero => exact Or.inl rfl
  | succ n ih =>
    have keep : yi n (aimS kp rg pw cp ha j) (-1) = -1 ∨ ∃ t, t < n + 1 ∧ yi n (aimS kp rg pw cp ha j) (-1) = nI t := by
      rcases ih with h | ⟨k, h1, h2⟩
      · exact Or.inl h
      · exact Or.inr ⟨k, by omega, h2⟩
    have new : (nI n = -1) ∨ ∃ t, t < n + 1 ∧ nI n = nI t := Or.inr ⟨n, by omega, rfl⟩
    show aimS kp rg pw cp ha j n (yi n (aimS kp rg pw cp ha j) (-1)) = -1 ∨ ∃ t, t < n + 1 ∧ aimS kp rg pw cp ha j n (yi n (aimS kp rg pw cp ha j) (-1)) = nI t
    generalize yi n (aimS kp rg pw cp ha j) (-1) = w at keep ⊢
    unfold aimS
    split
    · exact keep
    · cases gnF cp n with
      | true => exact keep
      | false =>
        rw [cond_false]
        split
        · exact keep
        · split
          · exact keep
          · split
            · exact new
            · split
              · exact new
              · exact keep
theorem aim_ix {kp rg pw cp ha : fI} {j n : Nat} (h : ¬ yi n (aimS kp rg pw cp ha j) (-1) = -1) : ∃ t, t < n ∧ yi n (aimS kp rg pw cp ha j) (-1) = nI t := (aim_ix0 kp rg pw cp ha j n).resolve_left h
theorem aim_dry {kp rg pw cp ha : fI} {j : Nat} (h : pw j ≤ 0) : ∀ n, yi n (aimS kp rg pw cp ha j) (-1) = -1 := by
  intro n
  induction n with
  | zero => rfl
  | succ n ih =>
    show aimS kp rg pw cp ha j n (yi n (aimS kp rg pw cp ha j) (-1)) = -1
    rw [ih]
    unfold aimS
    rw [if_pos h]
def rshootS (kp rg cp pl : fI) (me : fB) (nc ny j : Nat) (w : fI × fI × fI × fI) : fI × fI × fI × fI :=
  if aimF kp rg w.1 cp w.2.2.1 nc j = -1 then w else
    (upd w.1 j (w.1 j - 1), upd w.2.1 j (w.2.1 j + 1), upd w.2.2.1 (aimF kp rg w.1 cp w.2.2.1 nc j).toNatClampNeg (mx 0 (w.2.2.1 (aimF kp rg w.1 cp w.2.2.1 nc j).toNatClampNeg - (rg j + 1 - ab (kp j - cp (aimF kp rg w.1 cp w.2.2.1 nc j).toNatClampNeg)))), hearF pl me (kp j) ny w.2.2.2)
def rshootF (kp rg cp pl : fI) (me : fB) (nc ny nk : Nat) (w : fI × fI × fI × fI) : fI × fI × fI × fI := yi nk (rshootS kp rg cp pl me nc ny) w
def rtakeS (pl : fI) (hp dn : Int32) (j : Nat) (w : fI × fI × fI) : fI × fI × fI :=
  if pl j = hp then (upd w.1 j (w.1 j - mn (w.1 j) (2 * dn)), upd w.2.1 j (w.2.1 j + mn (w.1 j) (2 * dn)), upd w.2.2 j (w.2.2 j + mn (w.1 j) (2 * dn))) else w
def rtakeF (pl : fI) (hp dn : Int32) (n : Nat) (w : fI × fI × fI) : fI × fI × fI := yi n (rtakeS pl hp dn) w
def rdropS (cp pl : fI) (ny : Nat) (j : Nat) (w : fI × fI × fI × fI) : fI × fI × fI × fI :=
  cond (gnF cp j) w (upd w.1 j (w.1 j - mn 4 (w.1 j)), (rtakeF pl (cp j) (mn 4 (w.1 j)) ny (w.2.1, w.2.2.1, w.2.2.2)).1, (rtakeF pl (cp j) (mn 4 (w.1 j)) ny (w.2.1, w.2.2.1, w.2.2.2)).2.1, (rtakeF pl (cp j) (mn 4 (w.1 j)) ny (w.2.1, w.2.2.1, w.2.2.2)).2.2)
def rdropF (cp pl : fI) (ny n : Nat) (w : fI × fI × fI × fI) : fI × fI × fI × fI := yi n (rdropS cp pl ny) w
def rsetS (ins : fB) (j : Nat) (w : Int32 × fI × fI × fI) : Int32 × fI × fI × fI :=
  ((cond (ins j) (w.1 + (1 - w.2.2.1 j / 2)) w.1) - w.2.2.2 j, cond (inR (w.2.1 j) 1 98) (upd w.2.1 j (w.2.1 j + 1)) w.2.1, upd w.2.2.1 j 0, upd w.2.2.2 j 0)
def rsetF (ins : fB) (n : Nat) (w : Int32 × fI × fI × fI) : Int32 × fI × fI × fI := yi n (rsetS ins) w
/-- an hour, as the reference has it -/
def rhourF (e : ES) (h : Nat) (s : DS) : DS :=
  let cp := driveF e.2.2.2.2.2.2.2.1 (e.2.2.2.2.2.2.2.2.2 (h % 6)) e.2.2.2.2.2.2.2.2.1 s.2.2.2.2.2.2.1
  let w1 := rshootF e.2.2.2.2.1 e.2.2.2.2.2.1 cp e.1 e.2.1 e.2.2.2.2.2.2.2.2.1 e.2.2.2.1 e.2.2.2.2.2.2.1 (s.2.2.2.2.1, s.2.2.2.2.2.1, s.2.2.2.2.2.2.2.1, s.2.2.1)
  let w2 := rdropF cp e.1 e.2.2.2.1 e.2.2.2.2.2.2.2.2.1 (w1.2.2.1, s.1, s.2.1, s.2.2.2.1)
  let w3 := rsetF e.2.2.1 e.2.2.2.1 (s.2.2.2.2.2.2.2.2, w2.2.1, w2.2.2.1, w1.2.2.2)
  if nI (h % 24) = 23 then (w3.2.1, w3.2.2.1, w3.2.2.2, w2.2.2.2, w1.1, w1.2.1, cp, w2.1, w3.1)
  else (w2.2.1, w2.2.2.1, w1.2.2.2, w2.2.2.2, w1.1, w1.2.1, cp, w2.1, s.2.2.2.2.2.2.2.2)
def rhoursS (e : ES) (h : Nat) (k : Nat) (s : DS) : DS := rhourF e (h + k) (s.1, s.2.1, s.2.2.1, s.2.2.2.1, s.2.2.2.2.1, s.2.2.2.2.2.1, s.2.2.2.2.2.2.1, s.2.2.2.2.2.2.2.1, s.2.2.2.2.2.2.2.2)
def rhoursF (e : ES) (h m : Nat) (s : DS) : DS := yi m (rhoursS e h) s
def rthereF (cp : fI) (n : Nat) : Int32 := yi n (fun k a => a + cond (gnF cp k) 0 1) 0
theorem upd10 (a0 a1 a2 a3 a4 a5 a6 a7 a8 a9 : Int32) {w : Nat} (hw : w ≤ 9) : upd (upd (upd (upd (upd (upd (upd (upd (upd (upd (fun _ => 0) 0 a0) 1 a1) 2 a2) 3 a3) 4 a4) 5 a5) 6 a6) 7 a7) 8 a8) 9 a9 w =
    if w = 0 then a0 else if w = 1 then a1 else if w = 2 then a2 else if w = 3 then a3 else if w = 4 then a4 else if w = 5 then a5 else if w = 6 then a6 else if w = 7 then a7 else if w = 8 then a8 else a9 := by
  have h : w = 0 ∨ w = 1 ∨ w = 2 ∨ w = 3 ∨ w = 4 ∨ w = 5 ∨ w = 6 ∨ w = 7 ∨ w = 8 ∨ w = 9 := by omega
  rcases h with rfl | rfl | rfl | rfl | rfl | rfl | rfl | rfl | rfl | rfl <;> rfl
def rtotF (e : ES) (h : Nat) (s : DS) (w : Nat) : Int32 :=
  if w = 0 then nI h else if w = 1 then nI (h % 24) else if w = 2 then s.2.2.2.2.2.2.2.2 else if w = 3 then sumF s.1 e.2.2.2.1 else if w = 4 then sumF s.2.2.2.1 e.2.2.2.1 else if w = 5 then sumF s.2.2.1 e.2.2.2.1
  else if w = 6 then sumF (biF e.2.1) e.2.2.2.1 else if w = 7 then sumF (biF e.2.2.1) e.2.2.2.1 else if w = 8 then rthereF s.2.2.2.2.2.2.1 e.2.2.2.2.2.2.2.2.1 else sumF s.2.2.2.2.2.1 e.2.2.2.2.2.2.1
set_option maxHeartbeats 4000000 in
set_option maxRecDepth 100000 in
theorem c_X6_isIn (l : Launch) (d : yyD) (x : Int32) (lo : Int32) (hi : Int32)  : yyI l yX6_isIn cX6_isIn 3 (some .boolean) { frames := 0, cells := 0, slots := 0, locals := 0 } d [.int x, .int lo, .int hi] [] [] (bI (inR x lo hi)) := by
  refine yyI_of (own := RX6) [(0, .int x), (1, .int lo), (2, .int hi)] (by decide +kernel) rfl (Nat.le_of_ble_eq_true rfl) rfl ?_
  intro G Q hQ hGL hC hGA
  refine y_iload_n (pc := 0) hC 0 dX6_isIn_0 rfl ?_
  refine y_iload_n (pc := 1) hC 1 dX6_isIn_1 rfl ?_
  refine y_cmp_lt (pc := 2) hC dX6_isIn_2 14 (by decide) (fun c_1 => ?_) (fun c_1 => ?_)
  · refine y_iconst (pc := 14) hC dX6_isIn_14 0 (by decide) ?_
    exact y_iret hC hQ rfl rfl (by simp [bI, inR, c_1]) (nb rfl) (nb rfl) dX6_isIn_15
  · refine y_iload_n (pc := 5) hC 0 dX6_isIn_5 rfl ?_
    refine y_iload_n (pc := 6) hC 2 dX6_isIn_6 rfl ?_
    refine y_cmp_gt (pc := 7) hC dX6_isIn_7 14 (by decide) (fun c_2 => ?_) (fun c_2 => ?_)
    · refine y_iconst (pc := 14) hC dX6_isIn_14 0 (by decide) ?_
      exact y_iret hC hQ rfl rfl (by simp [bI, inR, c_1, c_2]) (nb rfl) (nb rfl) dX6_isIn_15
    · refine y_iconst (pc := 10) hC dX6_isIn_10 1 (by decide) ?_
      refine y_goto (pc := 11) hC dX6_isIn_11 15 (by decide) ?_
      exact y_iret hC hQ rfl rfl (by simp [bI, inR, c_1, c_2]) (nb rfl) (nb rfl) dX6_isIn_15
theorem n_X6_isIn : yyN yX6_isIn RX6 3 := by refine ⟨rfl, ?_, ?_, ?_⟩ <;> decide +kernel
set_option maxHeartbeats 4000000 in
set_option maxRecDepth 100000 in
theorem c_X6_isPlace (l : Launch) (d : yyD) (x : Int32)  : yyI l yX6_isPlace cX6_isPlace 1 (some .boolean) { frames := 1, cells := 0, slots := 0, locals := 22 } d [.int x] [] [] (bI (isPl x)) := by
  refine yyI_of (own := RX6) [(0, .int x)] (by decide +kernel) rfl (Nat.le_of_ble_eq_true rfl) rfl ?_
  intro G Q hQ hGL hC hGA
  refine y_iload_n (pc := 0) hC 0 dX6_isPlace_0 rfl ?_
  refine y_iconst (pc := 1) hC dX6_isPlace_1 0 (by decide) ?_
  refine y_bipush (pc := 2) hC dX6_isPlace_2 29 (by decide) ?_
  refine y_sI (pc := 4) (As := [.int x, .int 0, .int 29]) (st := []) hC (c_X6_isIn (gL G) d x 0 29) kw_3_184 kw_3_182 kw_3_183 kw_1_6 n_X6_isIn ⟨⟨nb rfl, nb rfl⟩, ⟨nb rfl, nb rfl⟩, nb rfl⟩ [] [] [] [] [] ⟨rfl, by decide, rfl, by decide, by decide⟩ ⟨rfl, by decide⟩ rfl dX6_isPlace_4 ?_
  exact y_iret hC hQ (nar_bI _) rfl (by rw [isPl_in]) (nb rfl) (nb rfl) dX6_isPlace_7
theorem n_X6_isPlace : yyN yX6_isPlace RX6 1 := by refine ⟨rfl, ?_, ?_, ?_⟩ <;> decide +kernel
set_option maxHeartbeats 4000000 in
set_option maxRecDepth 100000 in
theorem c_X5_isGone (l : Launch) (d : yyD) (s0 : Nat) (s1 : Nat) (s2 : Nat) (s3 : Nat) (s4 : Nat) (s5 : Nat) (s6 : Nat) (s7 : Nat) (s8 : Nat) (s9 : Nat) (cp : fI) (h : Nat) (co : Int32) (m0 : Nat) (j : Nat) (hj : j < 20) : yyI l yX5_isGone cX5_isGone 2 (some .boolean) { frames := 2, cells := 0, slots := 0, locals := 42 } d [.ref s0, .int (nI j)] [(s0, .inr (5, [.int (nI h), .int co, .ref s1, .ref s2, .ref s3, .ref s4, .ref s5, .ref s6, .ref s7, .ref s8, .ref s9, .ref m0])), (s8, aI d 20 cp)] [(s0, .inr (5, [.int (nI h), .int co, .ref s1, .ref s2, .ref s3, .ref s4, .ref s5, .ref s6, .ref s7, .ref s8, .ref s9, .ref m0])), (s8, aI d 20 cp)] (bI (gnF cp j)) := by
  refine yyI_of (own := RX5) [(0, .ref s0), (1, .int (nI j))] (by decide +kernel) rfl (Nat.le_of_ble_eq_true rfl) rfl ?_
  intro G Q hQ hGL hC hGA
  refine y_aload_n (pc := 0) hC 0 dX5_isGone_0 rfl ?_
  refine y_get (pc := 1) hC 0 9 dX5_isGone_1 rfl rfl inX5 (by decide) kw_3_95 rfl rfl ?_
  refine y_iload_n (pc := 4) hC 1 dX5_isGone_4 rfl ?_
  refine y_iald (pc := 5) hC 1 (j := j) dX5_isGone_5 (cp j) rfl (by omega) rfl rfl ?_
  refine y_snI (pc := 6) (As := [.int (cp j)]) (st := []) hC (c_X6_isPlace (gL G) d (cp j)) kw_3_181 kn_21 kw_3_180 kw_1_6 n_X6_isPlace ⟨⟨nb rfl, nb rfl⟩, ⟨nb rfl, nb rfl⟩, nb rfl⟩ [] [0, 1] [0, 1] [(s0, .inr (5, [.int (nI h), .int co, .ref s1, .ref s2, .ref s3, .ref s4, .ref s5, .ref s6, .ref s7, .ref s8, .ref s9, .ref m0])), (s8, aI d 20 cp)] [(s0, .inr (5, [.int (nI h), .int co, .ref s1, .ref s2, .ref s3, .ref s4, .ref s5, .ref s6, .ref s7, .ref s8, .ref s9, .ref m0])), (s8, aI d 20 cp)] ⟨rfl, by decide, rfl, by decide, by decide⟩ ⟨rfl, by decide⟩ rfl dX5_isGone_6 ?_
  refine y_bne (pc := 9) hC dX5_isGone_9 16 (by decide) (fun c_1 => ?_) (fun c_1 => ?_)
  · refine y_iconst (pc := 16) hC dX5_isGone_16 0 (by decide) ?_
    exact y_iret hC hQ rfl rfl (by simp [gnF, gn, bI, c_1]) (nb rfl) (nb rfl) dX5_isGone_17
  · refine y_iconst (pc := 12) hC dX5_isGone_12 1 (by decide) ?_
    refine y_goto (pc := 13) hC dX5_isGone_13 17 (by decide) ?_
    exact y_iret hC hQ rfl rfl (by simp [gnF, gn, bI, c_1]) (nb rfl) (nb rfl) dX5_isGone_17
theorem n_X5_isGone : yyN yX5_isGone RX5 1 := by refine ⟨rfl, ?_, ?_, ?_⟩ <;> decide +kernel
set_option maxHeartbeats 4000000 in
set_option maxRecDepth 100000 in
theorem c_X5_far (l : Launch) (d : yyD) (s0 : Nat) (s1 : Nat) (s2 : Nat) (s3 : Nat) (s4 : Nat) (s5 : Nat) (s6 : Nat) (s7 : Nat) (s8 : Nat) (s9 : Nat) (kp : fI) (cp : fI) (h : Nat) (co : Int32) (m0 : Nat) (j : Nat) (c : Nat) (hj : j < 6) (hc : c < 20) : yyI l yX5_far cX5_far 3 (some .int) { frames := 1, cells := 0, slots := 0, locals := 13 } d [.ref s0, .int (nI j), .int (nI c)] [(s0, .inr (5, [.int (nI h), .int co, .ref s1, .ref s2, .ref s3, .ref s4, .ref s5, .ref s6, .ref s7, .ref s8, .ref s9, .ref m0])), (s5, aI d 6 kp), (s8, aI d 20 cp)] [(s0, .inr (5, [.int (nI h), .int co, .ref s1, .ref s2, .ref s3, .ref s4, .ref s5, .ref s6, .ref s7, .ref s8, .ref s9, .ref m0])), (s5, aI d 6 kp), (s8, aI d 20 cp)] (ab (kp j - cp c)) := by
  refine yyI_of (own := RX5) [(0, .ref s0), (1, .int (nI j)), (2, .int (nI c))] (by decide +kernel) rfl (Nat.le_of_ble_eq_true rfl) rfl ?_
  intro G Q hQ hGL hC hGA
  refine y_aload_n (pc := 0) hC 0 dX5_far_0 rfl ?_
  refine y_get (pc := 1) hC 0 6 dX5_far_1 rfl rfl inX5 (by decide) kw_3_89 rfl rfl ?_
  refine y_iload_n (pc := 4) hC 1 dX5_far_4 rfl ?_
  refine y_iald (pc := 5) hC 1 (j := j) dX5_far_5 (kp j) rfl (by omega) rfl rfl ?_
  refine y_aload_n (pc := 6) hC 0 dX5_far_6 rfl ?_
  refine y_get (pc := 7) hC 0 9 dX5_far_7 rfl rfl inX5 (by decide) kw_3_95 rfl rfl ?_
  refine y_iload_n (pc := 10) hC 2 dX5_far_10 rfl ?_
  refine y_iald (pc := 11) hC 2 (j := c) dX5_far_11 (cp c) rfl (by omega) rfl rfl ?_
  refine y_isub (pc := 12) hC dX5_far_12 ((kp j) - (cp c)) rfl ?_
  refine y_abs (pc := 13) hC dX5_far_13 kw_4_7 kw_1_219 kw_1_14 kw_1_220 ⟨nb rfl, nb rfl, nb rfl, nb rfl⟩ ?_
  exact y_iret hC hQ rfl rfl rfl (nb rfl) (nb rfl) dX5_far_16
theorem n_X5_far : yyN yX5_far RX5 2 := by refine ⟨rfl, ?_, ?_, ?_⟩ <;> decide +kernel
set_option maxHeartbeats 4000000 in
set_option maxRecDepth 100000 in
theorem c_X5_aims (l : Launch) (d : yyD) (s0 : Nat) (s1 : Nat) (s2 : Nat) (s3 : Nat) (s4 : Nat) (s5 : Nat) (s6 : Nat) (s7 : Nat) (s8 : Nat) (s9 : Nat) (kp : fI) (pw : fI) (cp : fI) (ha : fI) (h : Nat) (co : Int32) (m0 : Nat) (m1 : Nat) (m2 : Nat) (m3 : Nat) (m4 : Nat) (m5 : Nat) (m6 : Nat) (qs : Nat) (qa : Nat) (rg : fI) (th : Int32) (n : Nat) (nk : Nat) (nc : Nat) (j : Nat) (hc : nc ≤ 20) (hj : j < 6) : yyI l yX5_aims cX5_aims 4 (some .int) { frames := 3, cells := 0, slots := 0, locals := 63 } d [.ref s0, .int (nI j)] [(s0, .inr (5, [.int (nI h), .int co, .ref s1, .ref s2, .ref s3, .ref s4, .ref s5, .ref s6, .ref s7, .ref s8, .ref s9, .ref m0])), (s5, aI d 6 kp), (s6, aI d 6 pw), (s8, aI d 20 cp), (s9, aI d 20 ha), (m0, .inr (6, [.int th, .int (nI n), .ref m1, .ref m2, .ref m3, .int (nI nk), .ref m4, .int (nI nc), .ref m5, .ref m6, .ref qs, .ref qa])), (m4, aI d 6 rg)] [(s0, .inr (5, [.int (nI h), .int co, .ref s1, .ref s2, .ref s3, .ref s4, .ref s5, .ref s6, .ref s7, .ref s8, .ref s9, .ref m0])), (s5, aI d 6 kp), (s6, aI d 6 pw), (s8, aI d 20 cp), (s9, aI d 20 ha), (m0, .inr (6, [.int th, .int (nI n), .ref m1, .ref m2, .ref m3, .int (nI nk), .ref m4, .int (nI nc), .ref m5, .ref m6, .ref qs, .ref qa])), (m4, aI d 6 rg)] (aimF kp rg pw cp ha nc j) := by
  refine yyI_of (own := RX5) [(0, .ref s0), (1, .int (nI j))] (by decide +kernel) rfl (Nat.le_of_ble_eq_true rfl) rfl ?_
  intro G Q hQ hGL hC hGA
  refine y_iconst (pc := 0) hC dX5_aims_0 (-1) (by decide) ?_
  refine y_istore_n (pc := 1) hC dX5_aims_1 [(2, .int (-1)), (0, .ref s0), (1, .int (nI j))] rfl (by decide) ?_
  refine y_iconst (pc := 2) hC dX5_aims_2 0 (by decide) ?_
  refine y_istore_n (pc := 3) hC dX5_aims_3 [(3, .int 0), (2, .int (-1)), (0, .ref s0), (1, .int (nI j))] rfl (by decide) ?_
  have lpj1 : ∀ r1 j1 : Nat, j1 + r1 = nc → yyW d G 0 0 Q [(s0, .inr (5, [.int (nI h), .int co, .ref s1, .ref s2, .ref s3, .ref s4, .ref s5, .ref s6, .ref s7, .ref s8, .ref s9, .ref m0])), (s5, aI d 6 kp), (s6, aI d 6 pw), (s8, aI d 20 cp), (s9, aI d 20 ha), (m0, .inr (6, [.int th, .int (nI n), .ref m1, .ref m2, .ref m3, .int (nI nk), .ref m4, .int (nI nc), .ref m5, .ref m6, .ref qs, .ref qa])), (m4, aI d 6 rg)] [(3, .int (nI j1)), (2, .int (yi j1 (aimS kp rg pw cp ha j) (-1))), (0, .ref s0), (1, .int (nI j))] 4 [] := by
    intro r1
    induction r1 with
    | zero =>
      intro j1 hj1
      have ej1 : j1 = nc := by omega
      rw [ej1]
      refine y_iload_n (pc := 4) hC 0 dX5_aims_4 rfl ?_
      refine y_aload_n (pc := 5) hC 2 dX5_aims_5 rfl ?_
      refine y_get (pc := 6) hC 0 11 dX5_aims_6 rfl rfl inX5 (by decide) kw_3_99 rfl rfl ?_
      refine y_getN (pc := 9) hC 5 7 dX5_aims_9 rfl rfl inX6 (by decide) kn_18 rfl rfl ?_
      refine y_ge_t (pc := 12) (a := nc) (b := nc) hC dX5_aims_12 90 (by decide) (by omega) (by omega) ?_
      refine y_iload_n (pc := 90) hC 1 dX5_aims_90 rfl ?_
      exact y_iret hC hQ rfl rfl rfl (nb rfl) (nb rfl) dX5_aims_91
    | succ r1 ihj1 =>
      intro j1 hj1
      have lj1 : j1 < nc := by omega
      refine y_iload_n (pc := 4) hC 0 dX5_aims_4 rfl ?_
      refine y_aload_n (pc := 5) hC 2 dX5_aims_5 rfl ?_
      refine y_get (pc := 6) hC 0 11 dX5_aims_6 rfl rfl inX5 (by decide) kw_3_99 rfl rfl ?_
      refine y_getN (pc := 9) hC 5 7 dX5_aims_9 rfl rfl inX6 (by decide) kn_18 rfl rfl ?_
      refine y_ge_f (pc := 12) (a := j1) (b := nc) hC dX5_aims_12 90 (by decide) (by omega) (by omega) ?_
      refine y_aload_n (pc := 15) hC 2 dX5_aims_15 rfl ?_
      refine y_get (pc := 16) hC 0 7 dX5_aims_16 rfl rfl inX5 (by decide) kw_3_91 rfl rfl ?_
      refine y_iload_n (pc := 19) hC 3 dX5_aims_19 rfl ?_
      refine y_iald (pc := 20) hC 2 (j := j) dX5_aims_20 (pw j) rfl (by omega) rfl rfl ?_
      refine y_if_le (pc := 21) hC dX5_aims_21 90 (by decide) (fun c_2 => ?_) (fun c_2 => ?_)
      · refine y_iload_n (pc := 90) hC 1 dX5_aims_90 rfl ?_
        exact y_iret hC hQ rfl rfl ((aim_dry c_2 _).trans (aim_dry c_2 _).symm) (nb rfl) (nb rfl) dX5_aims_91
      · refine y_aload_n (pc := 24) hC 2 dX5_aims_24 rfl ?_
        refine y_iload_n (pc := 25) hC 0 dX5_aims_25 rfl ?_
        refine y_cI (pc := 26) (As := [.int (nI j1)]) (st := []) hC (c_X5_isGone (gL G) d s0 s1 s2 s3 s4 s5 s6 s7 s8 s9 cp h co m0 j1 (by omega)) kw_4_1 kw_3_238 kw_3_239 kw_4_0 kw_1_7 n_X5_isGone ⟨⟨nb rfl, nb rfl⟩, ⟨nb rfl, nb rfl⟩, nb rfl⟩ [0, 3] [1, 2, 4, 5, 6] [5, 0, 1, 6, 2, 3, 4] 0 [(s5, aI d 6 kp), (s6, aI d 6 pw), (s9, aI d 20 ha), (m0, .inr (6, [.int th, .int (nI n), .ref m1, .ref m2, .ref m3, .int (nI nk), .ref m4, .int (nI nc), .ref m5, .ref m6, .ref qs, .ref qa])), (m4, aI d 6 rg)] [(s0, .inr (5, [.int (nI h), .int co, .ref s1, .ref s2, .ref s3, .ref s4, .ref s5, .ref s6, .ref s7, .ref s8, .ref s9, .ref m0])), (s5, aI d 6 kp), (s6, aI d 6 pw), (s8, aI d 20 cp), (s9, aI d 20 ha), (m0, .inr (6, [.int th, .int (nI n), .ref m1, .ref m2, .ref m3, .int (nI nk), .ref m4, .int (nI nc), .ref m5, .ref m6, .ref qs, .ref qa])), (m4, aI d 6 rg)] rfl rfl ⟨rfl, by decide, rfl, by decide, by decide⟩ ⟨rfl, by decide⟩ rfl dX5_aims_26 ?_
        refine y_bne (pc := 29) hC dX5_aims_29 84 (by decide) (fun c_3 => ?_) (fun c_3 => ?_)
        · refine y_iinc (pc := 84) hC 0 dX5_aims_84 (nI (j1 + 1)) [(3, .int (nI (j1 + 1))), (2, .int (yi j1 (aimS kp rg pw cp ha j) (-1))), (0, .ref s0), (1, .int (nI j))] rfl (nI_inc _) rfl (by decide) ?_
          refine y_goto (pc := 87) hC dX5_aims_87 4 (by decide) ?_
          refine y_ws [(s0, .inr (5, [.int (nI h), .int co, .ref s1, .ref s2, .ref s3, .ref s4, .ref s5, .ref s6, .ref s7, .ref s8, .ref s9, .ref m0])), (s5, aI d 6 kp), (s6, aI d 6 pw), (s8, aI d 20 cp), (s9, aI d 20 ha), (m0, .inr (6, [.int th, .int (nI n), .ref m1, .ref m2, .ref m3, .int (nI nk), .ref m4, .int (nI nc), .ref m5, .ref m6, .ref qs, .ref qa])), (m4, aI d 6 rg)] rfl ?_
          refine y_lve [(3, .int (nI (j1 + 1))), (2, .int (yi (j1 + 1) (aimS kp rg pw cp ha j) (-1))), (0, .ref s0), (1, .int (nI j))] (by simp only [yi, aimS, c_2, c_3, ↓reduceIte, cond_true, cond_false]) ?_
          exact ihj1 (j1 + 1) (by omega)
        · refine y_aload_n (pc := 32) hC 2 dX5_aims_32 rfl ?_
          refine y_get (pc := 33) hC 0 10 dX5_aims_33 rfl rfl inX5 (by decide) kw_3_97 rfl rfl ?_
          refine y_iload_n (pc := 36) hC 0 dX5_aims_36 rfl ?_
          refine y_iald (pc := 37) hC 4 (j := j1) dX5_aims_37 (ha j1) rfl (by omega) rfl rfl ?_
          refine y_if_eq (pc := 38) hC dX5_aims_38 84 (by decide) (fun c_4 => ?_) (fun c_4 => ?_)
          · refine y_iinc (pc := 84) hC 0 dX5_aims_84 (nI (j1 + 1)) [(3, .int (nI (j1 + 1))), (2, .int (yi j1 (aimS kp rg pw cp ha j) (-1))), (0, .ref s0), (1, .int (nI j))] rfl (nI_inc _) rfl (by decide) ?_
            refine y_goto (pc := 87) hC dX5_aims_87 4 (by decide) ?_
            refine y_ws [(s0, .inr (5, [.int (nI h), .int co, .ref s1, .ref s2, .ref s3, .ref s4, .ref s5, .ref s6, .ref s7, .ref s8, .ref s9, .ref m0])), (s5, aI d 6 kp), (s6, aI d 6 pw), (s8, aI d 20 cp), (s9, aI d 20 ha), (m0, .inr (6, [.int th, .int (nI n), .ref m1, .ref m2, .ref m3, .int (nI nk), .ref m4, .int (nI nc), .ref m5, .ref m6, .ref qs, .ref qa])), (m4, aI d 6 rg)] rfl ?_
            refine y_lve [(3, .int (nI (j1 + 1))), (2, .int (yi (j1 + 1) (aimS kp rg pw cp ha j) (-1))), (0, .ref s0), (1, .int (nI j))] (by simp only [yi, aimS, c_2, c_3, c_4, ↓reduceIte, cond_true, cond_false]) ?_
            exact ihj1 (j1 + 1) (by omega)
          · refine y_aload_n (pc := 41) hC 2 dX5_aims_41 rfl ?_
            refine y_iload_n (pc := 42) hC 3 dX5_aims_42 rfl ?_
            refine y_iload_n (pc := 43) hC 0 dX5_aims_43 rfl ?_
            refine y_cI (pc := 44) (As := [.int (nI j), .int (nI j1)]) (st := []) hC (c_X5_far (gL G) d s0 s1 s2 s3 s4 s5 s6 s7 s8 s9 kp cp h co m0 j j1 (by omega) (by omega)) kw_4_6 kw_4_3 kw_4_4 kw_4_5 kw_1_7 n_X5_far ⟨⟨nb rfl, nb rfl⟩, ⟨nb rfl, nb rfl⟩, nb rfl⟩ [0, 1, 3] [2, 4, 5, 6] [4, 5, 0, 6, 1, 2, 3] 0 [(s6, aI d 6 pw), (s9, aI d 20 ha), (m0, .inr (6, [.int th, .int (nI n), .ref m1, .ref m2, .ref m3, .int (nI nk), .ref m4, .int (nI nc), .ref m5, .ref m6, .ref qs, .ref qa])), (m4, aI d 6 rg)] [(s0, .inr (5, [.int (nI h), .int co, .ref s1, .ref s2, .ref s3, .ref s4, .ref s5, .ref s6, .ref s7, .ref s8, .ref s9, .ref m0])), (s5, aI d 6 kp), (s6, aI d 6 pw), (s8, aI d 20 cp), (s9, aI d 20 ha), (m0, .inr (6, [.int th, .int (nI n), .ref m1, .ref m2, .ref m3, .int (nI nk), .ref m4, .int (nI nc), .ref m5, .ref m6, .ref qs, .ref qa])), (m4, aI d 6 rg)] rfl rfl ⟨rfl, by decide, rfl, by decide, by decide⟩ ⟨rfl, by decide⟩ rfl dX5_aims_44 ?_
            refine y_aload_n (pc := 47) hC 2 dX5_aims_47 rfl ?_
            refine y_get (pc := 48) hC 0 11 dX5_aims_48 rfl rfl inX5 (by decide) kw_3_99 rfl rfl ?_
            refine y_getN (pc := 51) hC 5 6 dX5_aims_51 rfl rfl inX6 (by decide) kn_17 rfl rfl ?_
            refine y_iload_n (pc := 54) hC 3 dX5_aims_54 rfl ?_
            refine y_iald (pc := 55) hC 6 (j := j) dX5_aims_55 (rg j) rfl (by omega) rfl rfl ?_
            refine y_cmp_gt (pc := 56) hC dX5_aims_56 84 (by decide) (fun c_5 => ?_) (fun c_5 => ?_)
            · refine y_iinc (pc := 84) hC 0 dX5_aims_84 (nI (j1 + 1)) [(3, .int (nI (j1 + 1))), (2, .int (yi j1 (aimS kp rg pw cp ha j) (-1))), (0, .ref s0), (1, .int (nI j))] rfl (nI_inc _) rfl (by decide) ?_
              refine y_goto (pc := 87) hC dX5_aims_87 4 (by decide) ?_
              refine y_ws [(s0, .inr (5, [.int (nI h), .int co, .ref s1, .ref s2, .ref s3, .ref s4, .ref s5, .ref s6, .ref s7, .ref s8, .ref s9, .ref m0])), (s5, aI d 6 kp), (s6, aI d 6 pw), (s8, aI d 20 cp), (s9, aI d 20 ha), (m0, .inr (6, [.int th, .int (nI n), .ref m1, .ref m2, .ref m3, .int (nI nk), .ref m4, .int (nI nc), .ref m5, .ref m6, .ref qs, .ref qa])), (m4, aI d 6 rg)] rfl ?_
              refine y_lve [(3, .int (nI (j1 + 1))), (2, .int (yi (j1 + 1) (aimS kp rg pw cp ha j) (-1))), (0, .ref s0), (1, .int (nI j))] (by simp only [yi, aimS, c_2, c_3, c_4, c_5, ↓reduceIte, cond_true, cond_false]) ?_
              exact ihj1 (j1 + 1) (by omega)
            · refine y_iload_n (pc := 59) hC 1 dX5_aims_59 rfl ?_
              refine y_iconst (pc := 60) hC dX5_aims_60 (-1) (by decide) ?_
              refine y_cmp_eq (pc := 61) hC dX5_aims_61 82 (by decide) (fun c_6 => ?_) (fun c_6 => ?_)
              · refine y_iload_n (pc := 82) hC 0 dX5_aims_82 rfl ?_
                refine y_istore_n (pc := 83) hC dX5_aims_83 [(2, .int (nI j1)), (3, .int (nI j1)), (0, .ref s0), (1, .int (nI j))] rfl (by decide) ?_
                refine y_iinc (pc := 84) hC 1 dX5_aims_84 (nI (j1 + 1)) [(3, .int (nI (j1 + 1))), (2, .int (nI j1)), (0, .ref s0), (1, .int (nI j))] rfl (nI_inc _) rfl (by decide) ?_
                refine y_goto (pc := 87) hC dX5_aims_87 4 (by decide) ?_
                refine y_ws [(s0, .inr (5, [.int (nI h), .int co, .ref s1, .ref s2, .ref s3, .ref s4, .ref s5, .ref s6, .ref s7, .ref s8, .ref s9, .ref m0])), (s5, aI d 6 kp), (s6, aI d 6 pw), (s8, aI d 20 cp), (s9, aI d 20 ha), (m0, .inr (6, [.int th, .int (nI n), .ref m1, .ref m2, .ref m3, .int (nI nk), .ref m4, .int (nI nc), .ref m5, .ref m6, .ref qs, .ref qa])), (m4, aI d 6 rg)] rfl ?_
                refine y_lve [(3, .int (nI (j1 + 1))), (2, .int (yi (j1 + 1) (aimS kp rg pw cp ha j) (-1))), (0, .ref s0), (1, .int (nI j))] (by simp only [yi, aimS, c_2, c_3, c_4, c_5, c_6, ↓reduceIte, cond_true, cond_false]) ?_
                exact ihj1 (j1 + 1) (by omega)
              · obtain ⟨t9, ht9, et9⟩ := aim_ix c_6
                have et8 : (nI t9).toNatClampNeg = t9 := nI_clamp (by omega)
                have et7 : ¬ nI t9 = -1 := et9 ▸ c_6
                rw [et9]
                refine y_aload_n (pc := 64) hC 2 dX5_aims_64 rfl ?_
                refine y_iload_n (pc := 65) hC 3 dX5_aims_65 rfl ?_
                refine y_iload_n (pc := 66) hC 0 dX5_aims_66 rfl ?_
                refine y_cI (pc := 67) (As := [.int (nI j), .int (nI j1)]) (st := []) hC (c_X5_far (gL G) d s0 s1 s2 s3 s4 s5 s6 s7 s8 s9 kp cp h co m0 j j1 (by omega) (by omega)) kw_4_6 kw_4_3 kw_4_4 kw_4_5 kw_1_7 n_X5_far ⟨⟨nb rfl, nb rfl⟩, ⟨nb rfl, nb rfl⟩, nb rfl⟩ [0, 1, 3] [2, 4, 5, 6] [4, 5, 0, 6, 1, 2, 3] 0 [(s6, aI d 6 pw), (s9, aI d 20 ha), (m0, .inr (6, [.int th, .int (nI n), .ref m1, .ref m2, .ref m3, .int (nI nk), .ref m4, .int (nI nc), .ref m5, .ref m6, .ref qs, .ref qa])), (m4, aI d 6 rg)] [(s0, .inr (5, [.int (nI h), .int co, .ref s1, .ref s2, .ref s3, .ref s4, .ref s5, .ref s6, .ref s7, .ref s8, .ref s9, .ref m0])), (s5, aI d 6 kp), (s6, aI d 6 pw), (s8, aI d 20 cp), (s9, aI d 20 ha), (m0, .inr (6, [.int th, .int (nI n), .ref m1, .ref m2, .ref m3, .int (nI nk), .ref m4, .int (nI nc), .ref m5, .ref m6, .ref qs, .ref qa])), (m4, aI d 6 rg)] rfl rfl ⟨rfl, by decide, rfl, by decide, by decide⟩ ⟨rfl, by decide⟩ rfl dX5_aims_67 ?_
                refine y_aload_n (pc := 70) hC 2 dX5_aims_70 rfl ?_
                refine y_iload_n (pc := 71) hC 3 dX5_aims_71 rfl ?_
                refine y_iload_n (pc := 72) hC 1 dX5_aims_72 rfl ?_
                refine y_cI (pc := 73) (As := [.int (nI j), .int (nI t9)]) (st := [.int (ab (kp j - cp j1))]) hC (c_X5_far (gL G) d s0 s1 s2 s3 s4 s5 s6 s7 s8 s9 kp cp h co m0 j t9 (by omega) (by omega)) kw_4_6 kw_4_3 kw_4_4 kw_4_5 kw_1_7 n_X5_far ⟨⟨nb rfl, nb rfl⟩, ⟨nb rfl, nb rfl⟩, nb rfl⟩ [0, 1, 3] [2, 4, 5, 6] [4, 5, 0, 6, 1, 2, 3] 0 [(s6, aI d 6 pw), (s9, aI d 20 ha), (m0, .inr (6, [.int th, .int (nI n), .ref m1, .ref m2, .ref m3, .int (nI nk), .ref m4, .int (nI nc), .ref m5, .ref m6, .ref qs, .ref qa])), (m4, aI d 6 rg)] [(s0, .inr (5, [.int (nI h), .int co, .ref s1, .ref s2, .ref s3, .ref s4, .ref s5, .ref s6, .ref s7, .ref s8, .ref s9, .ref m0])), (s5, aI d 6 kp), (s6, aI d 6 pw), (s8, aI d 20 cp), (s9, aI d 20 ha), (m0, .inr (6, [.int th, .int (nI n), .ref m1, .ref m2, .ref m3, .int (nI nk), .ref m4, .int (nI nc), .ref m5, .ref m6, .ref qs, .ref qa])), (m4, aI d 6 rg)] rfl rfl ⟨rfl, by decide, rfl, by decide, by decide⟩ ⟨rfl, by decide⟩ rfl dX5_aims_73 ?_
                refine y_cmp_lt (pc := 76) hC dX5_aims_76 82 (by decide) (fun c_7 => ?_) (fun c_7 => ?_)
                · refine y_iload_n (pc := 82) hC 0 dX5_aims_82 rfl ?_
                  refine y_istore_n (pc := 83) hC dX5_aims_83 [(2, .int (nI j1)), (3, .int (nI j1)), (0, .ref s0), (1, .int (nI j))] rfl (by decide) ?_
                  refine y_iinc (pc := 84) hC 1 dX5_aims_84 (nI (j1 + 1)) [(3, .int (nI (j1 + 1))), (2, .int (nI j1)), (0, .ref s0), (1, .int (nI j))] rfl (nI_inc _) rfl (by decide) ?_
                  refine y_goto (pc := 87) hC dX5_aims_87 4 (by decide) ?_
                  refine y_ws [(s0, .inr (5, [.int (nI h), .int co, .ref s1, .ref s2, .ref s3, .ref s4, .ref s5, .ref s6, .ref s7, .ref s8, .ref s9, .ref m0])), (s5, aI d 6 kp), (s6, aI d 6 pw), (s8, aI d 20 cp), (s9, aI d 20 ha), (m0, .inr (6, [.int th, .int (nI n), .ref m1, .ref m2, .ref m3, .int (nI nk), .ref m4, .int (nI nc), .ref m5, .ref m6, .ref qs, .ref qa])), (m4, aI d 6 rg)] rfl ?_
                  refine y_lve [(3, .int (nI (j1 + 1))), (2, .int (yi (j1 + 1) (aimS kp rg pw cp ha j) (-1))), (0, .ref s0), (1, .int (nI j))] (by simp only [yi, aimS, c_2, c_3, c_4, c_5, c_6, et9, et8, et7, c_7, ↓reduceIte, cond_true, cond_false]) ?_
                  exact ihj1 (j1 + 1) (by omega)
                · refine y_goto (pc := 79) hC dX5_aims_79 84 (by decide) ?_
                  refine y_iinc (pc := 84) hC 0 dX5_aims_84 (nI (j1 + 1)) [(3, .int (nI (j1 + 1))), (2, .int (nI t9)), (0, .ref s0), (1, .int (nI j))] rfl (nI_inc _) rfl (by decide) ?_
                  refine y_goto (pc := 87) hC dX5_aims_87 4 (by decide) ?_
                  refine y_ws [(s0, .inr (5, [.int (nI h), .int co, .ref s1, .ref s2, .ref s3, .ref s4, .ref s5, .ref s6, .ref s7, .ref s8, .ref s9, .ref m0])), (s5, aI d 6 kp), (s6, aI d 6 pw), (s8, aI d 20 cp), (s9, aI d 20 ha), (m0, .inr (6, [.int th, .int (nI n), .ref m1, .ref m2, .ref m3, .int (nI nk), .ref m4, .int (nI nc), .ref m5, .ref m6, .ref qs, .ref qa])), (m4, aI d 6 rg)] rfl ?_
                  refine y_lve [(3, .int (nI (j1 + 1))), (2, .int (yi (j1 + 1) (aimS kp rg pw cp ha j) (-1))), (0, .ref s0), (1, .int (nI j))] (by simp only [yi, aimS, c_2, c_3, c_4, c_5, c_6, et9, et8, et7, c_7, ↓reduceIte, cond_true, cond_false]) ?_
                  exact ihj1 (j1 + 1) (by omega)
  refine y_lv [(3, .int 0), (2, .int (-1)), (0, .ref s0), (1, .int (nI j))] [0, 1, 2, 3] rfl ?_
  exact lpj1 nc 0 (by omega)
theorem n_X5_aims : yyN yX5_aims RX5 1 := by refine ⟨rfl, ?_, ?_, ?_⟩ <;> decide +kernel
set_option maxHeartbeats 4000000 in
set_option maxRecDepth 100000 in
theorem c_X5_shoot (l : Launch) (d : yyD) (s0 : Nat) (s1 : Nat) (s2 : Nat) (s3 : Nat) (s4 : Nat) (s5 : Nat) (s6 : Nat) (s7 : Nat) (s8 : Nat) (s9 : Nat) (su : fI) (kp : fI) (pw : fI) (sh : fI) (cp : fI) (ha : fI) (h : Nat) (co : Int32) (m0 : Nat) (m1 : Nat) (m2 : Nat) (m3 : Nat) (m4 : Nat) (m5 : Nat) (m6 : Nat) (qs : Nat) (qa : Nat) (pl : fI) (me : fB) (rg : fI) (th : Int32) (n : Nat) (nk : Nat) (nc : Nat) (j : Nat) (hn : n ≤ 10) (hc : nc ≤ 20) (hj : j < 6) : yyV (S := Unit) l yX5_shoot cX5_shoot 4 { frames := 4, cells := 0, slots := 0, locals := 86 } d [.ref s0, .int (nI j)] [(s0, .inr (5, [.int (nI h), .int co, .ref s1, .ref s2, .ref s3, .ref s4, .ref s5, .ref s6, .ref s7, .ref s8, .ref s9, .ref m0])), (s4, aI d 10 su), (s5, aI d 6 kp), (s6, aI d 6 pw), (s7, aI d 6 sh), (s8, aI d 20 cp), (s9, aI d 20 ha), (m0, .inr (6, [.int th, .int (nI n), .ref m1, .ref m2, .ref m3, .int (nI nk), .ref m4, .int (nI nc), .ref m5, .ref m6, .ref qs, .ref qa])), (m1, aI d 10 pl), (m2, aI d 10 (biF me)), (m4, aI d 6 rg)] (fun _ => True) (fun _ => [(s0, .inr (5, [.int (nI h), .int co, .ref s1, .ref s2, .ref s3, .ref s4, .ref s5, .ref s6, .ref s7, .ref s8, .ref s9, .ref m0])), (s4, aI d 10 ((rshootS kp rg cp pl me nc n j (pw, sh, ha, su)).2.2.2)), (s5, aI d 6 kp), (s6, aI d 6 ((rshootS kp rg cp pl me nc n j (pw, sh, ha, su)).1)), (s7, aI d 6 ((rshootS kp rg cp pl me nc n j (pw, sh, ha, su)).2.1)), (s8, aI d 20 cp), (s9, aI d 20 ((rshootS kp rg cp pl me nc n j (pw, sh, ha, su)).2.2.1)), (m0, .inr (6, [.int th, .int (nI n), .ref m1, .ref m2, .ref m3, .int (nI nk), .ref m4, .int (nI nc), .ref m5, .ref m6, .ref qs, .ref qa])), (m1, aI d 10 pl), (m2, aI d 10 (biF me)), (m4, aI d 6 rg)]) := by
  refine yyV_of (own := RX5) [(0, .ref s0), (1, .int (nI j))] (by decide +kernel) rfl (Nat.le_of_ble_eq_true rfl) rfl ?_
  intro G Q hQ hGL hC hGA hin
  refine y_aload_n (pc := 0) hC 0 dX5_shoot_0 rfl ?_
  refine y_iload_n (pc := 1) hC 1 dX5_shoot_1 rfl ?_
  refine y_cI (pc := 2) (As := [.int (nI j)]) (st := []) hC (c_X5_aims (gL G) d s0 s1 s2 s3 s4 s5 s6 s7 s8 s9 kp pw cp ha h co m0 m1 m2 m3 m4 m5 m6 qs qa rg th n nk nc j (by omega) (by omega)) kw_3_237 kw_4_50 kw_3_235 kw_3_236 kw_1_7 n_X5_aims ⟨⟨nb rfl, nb rfl⟩, ⟨nb rfl, nb rfl⟩, nb rfl⟩ [0, 2, 3, 5, 6, 7, 10] [1, 4, 8, 9] [4, 0, 5, 6, 1, 7, 8, 9, 2, 3, 10] 0 [(s4, aI d 10 su), (s7, aI d 6 sh), (m1, aI d 10 pl), (m2, aI d 10 (biF me))] [(s0, .inr (5, [.int (nI h), .int co, .ref s1, .ref s2, .ref s3, .ref s4, .ref s5, .ref s6, .ref s7, .ref s8, .ref s9, .ref m0])), (s4, aI d 10 su), (s5, aI d 6 kp), (s6, aI d 6 pw), (s7, aI d 6 sh), (s8, aI d 20 cp), (s9, aI d 20 ha), (m0, .inr (6, [.int th, .int (nI n), .ref m1, .ref m2, .ref m3, .int (nI nk), .ref m4, .int (nI nc), .ref m5, .ref m6, .ref qs, .ref qa])), (m1, aI d 10 pl), (m2, aI d 10 (biF me)), (m4, aI d 6 rg)] rfl rfl ⟨rfl, by decide, rfl, by decide, by decide⟩ ⟨rfl, by decide⟩ rfl dX5_shoot_2 ?_
  refine y_istore_n (pc := 5) hC dX5_shoot_5 [(2, .int (aimF kp rg pw cp ha nc j)), (0, .ref s0), (1, .int (nI j))] rfl (by decide) ?_
  refine y_iload_n (pc := 6) hC 0 dX5_shoot_6 rfl ?_
  refine y_iconst (pc := 7) hC dX5_shoot_7 (-1) (by decide) ?_
  refine y_cmp_ne (pc := 8) hC dX5_shoot_8 12 (by decide) (fun c_1 => ?_) (fun c_1 => ?_)
  · obtain ⟨t9, ht9, et9⟩ := aim_ix (kp := kp) (rg := rg) (pw := pw) (cp := cp) (ha := ha) (j := j) (n := nc) c_1
    have et6 : aimF kp rg pw cp ha nc j = nI t9 := et9
    have et8 : (nI t9).toNatClampNeg = t9 := nI_clamp (by omega)
    have et7 : ¬ nI t9 = -1 := et9 ▸ c_1
    rw [et6]
    refine y_aload_n (pc := 12) hC 1 dX5_shoot_12 rfl ?_
    refine y_get (pc := 13) hC 0 7 dX5_shoot_13 rfl rfl inX5 (by decide) kw_3_91 rfl rfl ?_
    refine y_iload_n (pc := 16) hC 2 dX5_shoot_16 rfl ?_
    refine y_dup2 (pc := 17) hC dX5_shoot_17 rfl rfl ?_
    refine y_iald (pc := 18) hC 3 (j := j) dX5_shoot_18 (pw j) rfl (by omega) rfl rfl ?_
    refine y_iconst (pc := 19) hC dX5_shoot_19 1 (by decide) ?_
    refine y_isub (pc := 20) hC dX5_shoot_20 ((pw j) - 1) rfl ?_
    refine y_iast (pc := 21) hC 3 (j := j) dX5_shoot_21 (upd pw j ((pw j) - 1)) [(s0, .inr (5, [.int (nI h), .int co, .ref s1, .ref s2, .ref s3, .ref s4, .ref s5, .ref s6, .ref s7, .ref s8, .ref s9, .ref m0])), (s4, aI d 10 su), (s5, aI d 6 kp), (s6, aI d 6 (upd pw j ((pw j) - 1))), (s7, aI d 6 sh), (s8, aI d 20 cp), (s9, aI d 20 ha), (m0, .inr (6, [.int th, .int (nI n), .ref m1, .ref m2, .ref m3, .int (nI nk), .ref m4, .int (nI nc), .ref m5, .ref m6, .ref qs, .ref qa])), (m1, aI d 10 pl), (m2, aI d 10 (biF me)), (m4, aI d 6 rg)] rfl (by omega) rfl rfl rfl ?_
    refine y_aload_n (pc := 22) hC 1 dX5_shoot_22 rfl ?_
    refine y_get (pc := 23) hC 0 8 dX5_shoot_23 rfl rfl inX5 (by decide) kw_3_93 rfl rfl ?_
    refine y_iload_n (pc := 26) hC 2 dX5_shoot_26 rfl ?_
    refine y_dup2 (pc := 27) hC dX5_shoot_27 rfl rfl ?_
    refine y_iald (pc := 28) hC 4 (j := j) dX5_shoot_28 (sh j) rfl (by omega) rfl rfl ?_
    refine y_iconst (pc := 29) hC dX5_shoot_29 1 (by decide) ?_
    refine y_iadd (pc := 30) hC dX5_shoot_30 ((sh j) + 1) rfl ?_
    refine y_iast (pc := 31) hC 4 (j := j) dX5_shoot_31 (upd sh j ((sh j) + 1)) [(s0, .inr (5, [.int (nI h), .int co, .ref s1, .ref s2, .ref s3, .ref s4, .ref s5, .ref s6, .ref s7, .ref s8, .ref s9, .ref m0])), (s4, aI d 10 su), (s5, aI d 6 kp), (s6, aI d 6 (upd pw j ((pw j) - 1))), (s7, aI d 6 (upd sh j ((sh j) + 1))), (s8, aI d 20 cp), (s9, aI d 20 ha), (m0, .inr (6, [.int th, .int (nI n), .ref m1, .ref m2, .ref m3, .int (nI nk), .ref m4, .int (nI nc), .ref m5, .ref m6, .ref qs, .ref qa])), (m1, aI d 10 pl), (m2, aI d 10 (biF me)), (m4, aI d 6 rg)] rfl (by omega) rfl rfl rfl ?_
    refine y_aload_n (pc := 32) hC 1 dX5_shoot_32 rfl ?_
    refine y_get (pc := 33) hC 0 10 dX5_shoot_33 rfl rfl inX5 (by decide) kw_3_97 rfl rfl ?_
    refine y_iload_n (pc := 36) hC 0 dX5_shoot_36 rfl ?_
    refine y_iconst (pc := 37) hC dX5_shoot_37 0 (by decide) ?_
    refine y_aload_n (pc := 38) hC 1 dX5_shoot_38 rfl ?_
    refine y_get (pc := 39) hC 0 10 dX5_shoot_39 rfl rfl inX5 (by decide) kw_3_97 rfl rfl ?_
    refine y_iload_n (pc := 42) hC 0 dX5_shoot_42 rfl ?_
    refine y_iald (pc := 43) hC 6 (j := t9) dX5_shoot_43 (ha t9) rfl (by omega) rfl rfl ?_
    refine y_aload_n (pc := 44) hC 1 dX5_shoot_44 rfl ?_
    refine y_get (pc := 45) hC 0 11 dX5_shoot_45 rfl rfl inX5 (by decide) kw_3_99 rfl rfl ?_
    refine y_getN (pc := 48) hC 7 6 dX5_shoot_48 rfl rfl inX6 (by decide) kn_17 rfl rfl ?_
    refine y_iload_n (pc := 51) hC 2 dX5_shoot_51 rfl ?_
    refine y_iald (pc := 52) hC 10 (j := j) dX5_shoot_52 (rg j) rfl (by omega) rfl rfl ?_
    refine y_iconst (pc := 53) hC dX5_shoot_53 1 (by decide) ?_
    refine y_iadd (pc := 54) hC dX5_shoot_54 ((rg j) + 1) rfl ?_
    refine y_aload_n (pc := 55) hC 1 dX5_shoot_55 rfl ?_
    refine y_iload_n (pc := 56) hC 2 dX5_shoot_56 rfl ?_
    refine y_iload_n (pc := 57) hC 0 dX5_shoot_57 rfl ?_
    refine y_cI (pc := 58) (As := [.int (nI j), .int (nI t9)]) (st := [.int ((rg j) + 1), .int (ha t9), .int 0, .int (nI t9), .ref s9]) hC (c_X5_far (gL G) d s0 s1 s2 s3 s4 s5 s6 s7 s8 s9 kp cp h co m0 j t9 (by omega) (by omega)) kw_4_6 kw_4_3 kw_4_4 kw_4_5 kw_1_7 n_X5_far ⟨⟨nb rfl, nb rfl⟩, ⟨nb rfl, nb rfl⟩, nb rfl⟩ [0, 2, 5] [1, 3, 4, 6, 7, 8, 9, 10] [8, 0, 9, 1, 2, 10, 3, 4, 5, 6, 7] 0 [(s4, aI d 10 su), (s6, aI d 6 (upd pw j ((pw j) - 1))), (s7, aI d 6 (upd sh j ((sh j) + 1))), (s9, aI d 20 ha), (m0, .inr (6, [.int th, .int (nI n), .ref m1, .ref m2, .ref m3, .int (nI nk), .ref m4, .int (nI nc), .ref m5, .ref m6, .ref qs, .ref qa])), (m1, aI d 10 pl), (m2, aI d 10 (biF me)), (m4, aI d 6 rg)] [(s0, .inr (5, [.int (nI h), .int co, .ref s1, .ref s2, .ref s3, .ref s4, .ref s5, .ref s6, .ref s7, .ref s8, .ref s9, .ref m0])), (s4, aI d 10 su), (s5, aI d 6 kp), (s6, aI d 6 (upd pw j ((pw j) - 1))), (s7, aI d 6 (upd sh j ((sh j) + 1))), (s8, aI d 20 cp), (s9, aI d 20 ha), (m0, .inr (6, [.int th, .int (nI n), .ref m1, .ref m2, .ref m3, .int (nI nk), .ref m4, .int (nI nc), .ref m5, .ref m6, .ref qs, .ref qa])), (m1, aI d 10 pl), (m2, aI d 10 (biF me)), (m4, aI d 6 rg)] rfl rfl ⟨rfl, by decide, rfl, by decide, by decide⟩ ⟨rfl, by decide⟩ rfl dX5_shoot_58 ?_
    refine y_isub (pc := 61) hC dX5_shoot_61 (((rg j) + 1) - (ab (kp j - cp t9))) rfl ?_
    refine y_isub (pc := 62) hC dX5_shoot_62 ((ha t9) - (((rg j) + 1) - (ab (kp j - cp t9)))) rfl ?_
    refine y_max (pc := 63) hC dX5_shoot_63 kw_4_51 kw_2_223 kw_1_14 kw_2_224 ⟨nb rfl, nb rfl, nb rfl, nb rfl⟩ ?_
    refine y_iast (pc := 66) hC 6 (j := t9) dX5_shoot_66 (upd ha t9 (mx 0 ((ha t9) - (((rg j) + 1) - (ab (kp j - cp t9)))))) [(s0, .inr (5, [.int (nI h), .int co, .ref s1, .ref s2, .ref s3, .ref s4, .ref s5, .ref s6, .ref s7, .ref s8, .ref s9, .ref m0])), (s4, aI d 10 su), (s5, aI d 6 kp), (s6, aI d 6 (upd pw j ((pw j) - 1))), (s7, aI d 6 (upd sh j ((sh j) + 1))), (s8, aI d 20 cp), (s9, aI d 20 (upd ha t9 (mx 0 ((ha t9) - (((rg j) + 1) - (ab (kp j - cp t9))))))), (m0, .inr (6, [.int th, .int (nI n), .ref m1, .ref m2, .ref m3, .int (nI nk), .ref m4, .int (nI nc), .ref m5, .ref m6, .ref qs, .ref qa])), (m1, aI d 10 pl), (m2, aI d 10 (biF me)), (m4, aI d 6 rg)] rfl (by omega) rfl rfl rfl ?_
    refine y_iconst (pc := 67) hC dX5_shoot_67 0 (by decide) ?_
    refine y_istore_n (pc := 68) hC dX5_shoot_68 [(3, .int 0), (2, .int (nI t9)), (0, .ref s0), (1, .int (nI j))] rfl (by decide) ?_
    have lpj2 : ∀ r2 j2 : Nat, j2 + r2 = n → yyW d G 0 0 Q [(s0, .inr (5, [.int (nI h), .int co, .ref s1, .ref s2, .ref s3, .ref s4, .ref s5, .ref s6, .ref s7, .ref s8, .ref s9, .ref m0])), (s4, aI d 10 (yi j2 (hearS pl me (kp j)) su)), (s5, aI d 6 kp), (s6, aI d 6 (upd pw j (pw j - 1))), (s7, aI d 6 (upd sh j (sh j + 1))), (s8, aI d 20 cp), (s9, aI d 20 (upd ha t9 (mx 0 (ha t9 - (rg j + 1 - ab (kp j - cp t9)))))), (m0, .inr (6, [.int th, .int (nI n), .ref m1, .ref m2, .ref m3, .int (nI nk), .ref m4, .int (nI nc), .ref m5, .ref m6, .ref qs, .ref qa])), (m1, aI d 10 pl), (m2, aI d 10 (biF me)), (m4, aI d 6 rg)] [(3, .int (nI j2)), (2, .int (nI t9)), (0, .ref s0), (1, .int (nI j))] 69 [] := by
      intro r2
      induction r2 with
      | zero =>
        intro j2 hj2
        have ej2 : j2 = n := by omega
        rw [ej2]
        refine y_iload_n (pc := 69) hC 0 dX5_shoot_69 rfl ?_
        refine y_aload_n (pc := 70) hC 2 dX5_shoot_70 rfl ?_
        refine y_get (pc := 71) hC 0 11 dX5_shoot_71 rfl rfl inX5 (by decide) kw_3_99 rfl rfl ?_
        refine y_getN (pc := 74) hC 7 1 dX5_shoot_74 rfl rfl inX6 (by decide) kn_12 rfl rfl ?_
        refine y_ge_t (pc := 77) (a := n) (b := n) hC dX5_shoot_77 131 (by decide) (by omega) (by omega) ?_
        exact y_vret (()) hC hQ (trivial) (by simp only [rshootS, hearF, et6, et8, et7, ↓reduceIte]) (nb rfl) (nb rfl) dX5_shoot_131
      | succ r2 ihj2 =>
        intro j2 hj2
        have lj2 : j2 < n := by omega
        refine y_iload_n (pc := 69) hC 0 dX5_shoot_69 rfl ?_
        refine y_aload_n (pc := 70) hC 2 dX5_shoot_70 rfl ?_
        refine y_get (pc := 71) hC 0 11 dX5_shoot_71 rfl rfl inX5 (by decide) kw_3_99 rfl rfl ?_
        refine y_getN (pc := 74) hC 7 1 dX5_shoot_74 rfl rfl inX6 (by decide) kn_12 rfl rfl ?_
        refine y_ge_f (pc := 77) (a := j2) (b := n) hC dX5_shoot_77 131 (by decide) (by omega) (by omega) ?_
        refine y_aload_n (pc := 80) hC 2 dX5_shoot_80 rfl ?_
        refine y_get (pc := 81) hC 0 11 dX5_shoot_81 rfl rfl inX5 (by decide) kw_3_99 rfl rfl ?_
        refine y_getN (pc := 84) hC 7 3 dX5_shoot_84 rfl rfl inX6 (by decide) kn_14 rfl rfl ?_
        refine y_iload_n (pc := 87) hC 0 dX5_shoot_87 rfl ?_
        refine y_iald (pc := 88) hC 9 (j := j2) dX5_shoot_88 (bI (me j2)) rfl (by omega) rfl rfl ?_
        refine y_bne (pc := 89) hC dX5_shoot_89 125 (by decide) (fun c_3 => ?_) (fun c_3 => ?_)
        · refine y_iinc (pc := 125) hC 0 dX5_shoot_125 (nI (j2 + 1)) [(3, .int (nI (j2 + 1))), (2, .int (nI t9)), (0, .ref s0), (1, .int (nI j))] rfl (nI_inc _) rfl (by decide) ?_
          refine y_goto (pc := 128) hC dX5_shoot_128 69 (by decide) ?_
          refine y_ws [(s0, .inr (5, [.int (nI h), .int co, .ref s1, .ref s2, .ref s3, .ref s4, .ref s5, .ref s6, .ref s7, .ref s8, .ref s9, .ref m0])), (s4, aI d 10 (yi (j2 + 1) (hearS pl me (kp j)) su)), (s5, aI d 6 kp), (s6, aI d 6 (upd pw j (pw j - 1))), (s7, aI d 6 (upd sh j (sh j + 1))), (s8, aI d 20 cp), (s9, aI d 20 (upd ha t9 (mx 0 (ha t9 - (rg j + 1 - ab (kp j - cp t9)))))), (m0, .inr (6, [.int th, .int (nI n), .ref m1, .ref m2, .ref m3, .int (nI nk), .ref m4, .int (nI nc), .ref m5, .ref m6, .ref qs, .ref qa])), (m1, aI d 10 pl), (m2, aI d 10 (biF me)), (m4, aI d 6 rg)] (by simp only [yi, hearS, et6, et8, et7, c_3, ↓reduceIte, cond_true, cond_false]) ?_
          exact ihj2 (j2 + 1) (by omega)
        · refine y_aload_n (pc := 92) hC 2 dX5_shoot_92 rfl ?_
          refine y_get (pc := 93) hC 0 11 dX5_shoot_93 rfl rfl inX5 (by decide) kw_3_99 rfl rfl ?_
          refine y_getN (pc := 96) hC 7 2 dX5_shoot_96 rfl rfl inX6 (by decide) kn_13 rfl rfl ?_
          refine y_iload_n (pc := 99) hC 0 dX5_shoot_99 rfl ?_
          refine y_iald (pc := 100) hC 8 (j := j2) dX5_shoot_100 (pl j2) rfl (by omega) rfl rfl ?_
          refine y_aload_n (pc := 101) hC 2 dX5_shoot_101 rfl ?_
          refine y_get (pc := 102) hC 0 6 dX5_shoot_102 rfl rfl inX5 (by decide) kw_3_89 rfl rfl ?_
          refine y_iload_n (pc := 105) hC 3 dX5_shoot_105 rfl ?_
          refine y_iald (pc := 106) hC 2 (j := j) dX5_shoot_106 (kp j) rfl (by omega) rfl rfl ?_
          refine y_isub (pc := 107) hC dX5_shoot_107 ((pl j2) - (kp j)) rfl ?_
          refine y_abs (pc := 108) hC dX5_shoot_108 kw_4_7 kw_1_219 kw_1_14 kw_1_220 ⟨nb rfl, nb rfl, nb rfl, nb rfl⟩ ?_
          refine y_iconst (pc := 111) hC dX5_shoot_111 2 (by decide) ?_
          refine y_cmp_gt (pc := 112) hC dX5_shoot_112 125 (by decide) (fun c_4 => ?_) (fun c_4 => ?_)
          · refine y_iinc (pc := 125) hC 0 dX5_shoot_125 (nI (j2 + 1)) [(3, .int (nI (j2 + 1))), (2, .int (nI t9)), (0, .ref s0), (1, .int (nI j))] rfl (nI_inc _) rfl (by decide) ?_
            refine y_goto (pc := 128) hC dX5_shoot_128 69 (by decide) ?_
            refine y_ws [(s0, .inr (5, [.int (nI h), .int co, .ref s1, .ref s2, .ref s3, .ref s4, .ref s5, .ref s6, .ref s7, .ref s8, .ref s9, .ref m0])), (s4, aI d 10 (yi (j2 + 1) (hearS pl me (kp j)) su)), (s5, aI d 6 kp), (s6, aI d 6 (upd pw j (pw j - 1))), (s7, aI d 6 (upd sh j (sh j + 1))), (s8, aI d 20 cp), (s9, aI d 20 (upd ha t9 (mx 0 (ha t9 - (rg j + 1 - ab (kp j - cp t9)))))), (m0, .inr (6, [.int th, .int (nI n), .ref m1, .ref m2, .ref m3, .int (nI nk), .ref m4, .int (nI nc), .ref m5, .ref m6, .ref qs, .ref qa])), (m1, aI d 10 pl), (m2, aI d 10 (biF me)), (m4, aI d 6 rg)] (by simp only [yi, hearS, et6, et8, et7, c_3, c_4, ↓reduceIte, cond_true, cond_false]) ?_
            exact ihj2 (j2 + 1) (by omega)
          · refine y_aload_n (pc := 115) hC 2 dX5_shoot_115 rfl ?_
            refine y_get (pc := 116) hC 0 5 dX5_shoot_116 rfl rfl inX5 (by decide) kw_3_87 rfl rfl ?_
            refine y_iload_n (pc := 119) hC 0 dX5_shoot_119 rfl ?_
            refine y_dup2 (pc := 120) hC dX5_shoot_120 rfl rfl ?_
            refine y_iald (pc := 121) hC 1 (j := j2) dX5_shoot_121 ((yi j2 (hearS pl me (kp j)) su) j2) rfl (by omega) rfl rfl ?_
            refine y_iconst (pc := 122) hC dX5_shoot_122 1 (by decide) ?_
            refine y_iadd (pc := 123) hC dX5_shoot_123 (((yi j2 (hearS pl me (kp j)) su) j2) + 1) rfl ?_
            refine y_iast (pc := 124) hC 1 (j := j2) dX5_shoot_124 (upd (yi j2 (hearS pl me (kp j)) su) j2 (((yi j2 (hearS pl me (kp j)) su) j2) + 1)) [(s0, .inr (5, [.int (nI h), .int co, .ref s1, .ref s2, .ref s3, .ref s4, .ref s5, .ref s6, .ref s7, .ref s8, .ref s9, .ref m0])), (s4, aI d 10 (upd (yi j2 (hearS pl me (kp j)) su) j2 (((yi j2 (hearS pl me (kp j)) su) j2) + 1))), (s5, aI d 6 kp), (s6, aI d 6 (upd pw j (pw j - 1))), (s7, aI d 6 (upd sh j (sh j + 1))), (s8, aI d 20 cp), (s9, aI d 20 (upd ha t9 (mx 0 (ha t9 - (rg j + 1 - ab (kp j - cp t9)))))), (m0, .inr (6, [.int th, .int (nI n), .ref m1, .ref m2, .ref m3, .int (nI nk), .ref m4, .int (nI nc), .ref m5, .ref m6, .ref qs, .ref qa])), (m1, aI d 10 pl), (m2, aI d 10 (biF me)), (m4, aI d 6 rg)] rfl (by omega) rfl rfl rfl ?_
            refine y_iinc (pc := 125) hC 0 dX5_shoot_125 (nI (j2 + 1)) [(3, .int (nI (j2 + 1))), (2, .int (nI t9)), (0, .ref s0), (1, .int (nI j))] rfl (nI_inc _) rfl (by decide) ?_
            refine y_goto (pc := 128) hC dX5_shoot_128 69 (by decide) ?_
            refine y_ws [(s0, .inr (5, [.int (nI h), .int co, .ref s1, .ref s2, .ref s3, .ref s4, .ref s5, .ref s6, .ref s7, .ref s8, .ref s9, .ref m0])), (s4, aI d 10 (yi (j2 + 1) (hearS pl me (kp j)) su)), (s5, aI d 6 kp), (s6, aI d 6 (upd pw j (pw j - 1))), (s7, aI d 6 (upd sh j (sh j + 1))), (s8, aI d 20 cp), (s9, aI d 20 (upd ha t9 (mx 0 (ha t9 - (rg j + 1 - ab (kp j - cp t9)))))), (m0, .inr (6, [.int th, .int (nI n), .ref m1, .ref m2, .ref m3, .int (nI nk), .ref m4, .int (nI nc), .ref m5, .ref m6, .ref qs, .ref qa])), (m1, aI d 10 pl), (m2, aI d 10 (biF me)), (m4, aI d 6 rg)] (by simp only [yi, hearS, et6, et8, et7, c_3, c_4, ↓reduceIte, cond_true, cond_false]) ?_
            exact ihj2 (j2 + 1) (by omega)
    refine y_lv [(3, .int 0), (2, .int (nI t9)), (0, .ref s0), (1, .int (nI j))] [0, 1, 2, 3] rfl ?_
    exact lpj2 n 0 (by omega)
  · exact y_vret (()) hC hQ (trivial) (by simp only [rshootS, hearF, c_1, ↓reduceIte]) (nb rfl) (nb rfl) dX5_shoot_11
theorem n_X5_shoot : yyN yX5_shoot RX5 1 := by refine ⟨rfl, ?_, ?_, ?_⟩ <;> decide +kernel
set_option maxHeartbeats 4000000 in
set_option maxRecDepth 100000 in
theorem c_X5_drop (l : Launch) (d : yyD) (s0 : Nat) (s1 : Nat) (s2 : Nat) (s3 : Nat) (s4 : Nat) (s5 : Nat) (s6 : Nat) (s7 : Nat) (s8 : Nat) (s9 : Nat) (vi : fI) (lt : fI) (la : fI) (cp : fI) (ha : fI) (h : Nat) (co : Int32) (m0 : Nat) (m1 : Nat) (m2 : Nat) (m3 : Nat) (m4 : Nat) (m5 : Nat) (m6 : Nat) (qs : Nat) (qa : Nat) (pl : fI) (th : Int32) (n : Nat) (nk : Nat) (nc : Nat) (j : Nat) (hn : n ≤ 10) (hj : j < 20) : yyV (S := Unit) l yX5_drop cX5_drop 5 { frames := 3, cells := 0, slots := 0, locals := 63 } d [.ref s0, .int (nI j)] [(s0, .inr (5, [.int (nI h), .int co, .ref s1, .ref s2, .ref s3, .ref s4, .ref s5, .ref s6, .ref s7, .ref s8, .ref s9, .ref m0])), (s1, aI d 10 vi), (s2, aI d 10 lt), (s3, aI d 10 la), (s8, aI d 20 cp), (s9, aI d 20 ha), (m0, .inr (6, [.int th, .int (nI n), .ref m1, .ref m2, .ref m3, .int (nI nk), .ref m4, .int (nI nc), .ref m5, .ref m6, .ref qs, .ref qa])), (m1, aI d 10 pl)] (fun _ => True) (fun _ => [(s0, .inr (5, [.int (nI h), .int co, .ref s1, .ref s2, .ref s3, .ref s4, .ref s5, .ref s6, .ref s7, .ref s8, .ref s9, .ref m0])), (s1, aI d 10 ((rdropS cp pl n j (ha, vi, lt, la)).2.1)), (s2, aI d 10 ((rdropS cp pl n j (ha, vi, lt, la)).2.2.1)), (s3, aI d 10 ((rdropS cp pl n j (ha, vi, lt, la)).2.2.2)), (s8, aI d 20 cp), (s9, aI d 20 ((rdropS cp pl n j (ha, vi, lt, la)).1)), (m0, .inr (6, [.int th, .int (nI n), .ref m1, .ref m2, .ref m3, .int (nI nk), .ref m4, .int (nI nc), .ref m5, .ref m6, .ref qs, .ref qa])), (m1, aI d 10 pl)]) := by
  refine yyV_of (own := RX5) [(0, .ref s0), (1, .int (nI j))] (by decide +kernel) rfl (Nat.le_of_ble_eq_true rfl) rfl ?_
  intro G Q hQ hGL hC hGA hin
  refine y_aload_n (pc := 0) hC 0 dX5_drop_0 rfl ?_
  refine y_iload_n (pc := 1) hC 1 dX5_drop_1 rfl ?_
  refine y_cI (pc := 2) (As := [.int (nI j)]) (st := []) hC (c_X5_isGone (gL G) d s0 s1 s2 s3 s4 s5 s6 s7 s8 s9 cp h co m0 j (by omega)) kw_4_1 kw_3_238 kw_3_239 kw_4_0 kw_1_7 n_X5_isGone ⟨⟨nb rfl, nb rfl⟩, ⟨nb rfl, nb rfl⟩, nb rfl⟩ [0, 4] [1, 2, 3, 5, 6, 7] [6, 0, 1, 2, 7, 3, 4, 5] 0 [(s1, aI d 10 vi), (s2, aI d 10 lt), (s3, aI d 10 la), (s9, aI d 20 ha), (m0, .inr (6, [.int th, .int (nI n), .ref m1, .ref m2, .ref m3, .int (nI nk), .ref m4, .int (nI nc), .ref m5, .ref m6, .ref qs, .ref qa])), (m1, aI d 10 pl)] [(s0, .inr (5, [.int (nI h), .int co, .ref s1, .ref s2, .ref s3, .ref s4, .ref s5, .ref s6, .ref s7, .ref s8, .ref s9, .ref m0])), (s1, aI d 10 vi), (s2, aI d 10 lt), (s3, aI d 10 la), (s8, aI d 20 cp), (s9, aI d 20 ha), (m0, .inr (6, [.int th, .int (nI n), .ref m1, .ref m2, .ref m3, .int (nI nk), .ref m4, .int (nI nc), .ref m5, .ref m6, .ref qs, .ref qa])), (m1, aI d 10 pl)] rfl rfl ⟨rfl, by decide, rfl, by decide, by decide⟩ ⟨rfl, by decide⟩ rfl dX5_drop_2 ?_
  refine y_beq (pc := 5) hC dX5_drop_5 9 (by decide) (fun c_1 => ?_) (fun c_1 => ?_)
  · refine y_iconst (pc := 9) hC dX5_drop_9 4 (by decide) ?_
    refine y_aload_n (pc := 10) hC 0 dX5_drop_10 rfl ?_
    refine y_get (pc := 11) hC 0 10 dX5_drop_11 rfl rfl inX5 (by decide) kw_3_97 rfl rfl ?_
    refine y_iload_n (pc := 14) hC 1 dX5_drop_14 rfl ?_
    refine y_iald (pc := 15) hC 5 (j := j) dX5_drop_15 (ha j) rfl (by omega) rfl rfl ?_
    refine y_min (pc := 16) hC dX5_drop_16 kw_4_56 kw_2_142 kw_1_14 kw_2_143 ⟨nb rfl, nb rfl, nb rfl, nb rfl⟩ ?_
    refine y_istore_n (pc := 19) hC dX5_drop_19 [(2, .int (mn 4 (ha j))), (0, .ref s0), (1, .int (nI j))] rfl (by decide) ?_
    refine y_aload_n (pc := 20) hC 1 dX5_drop_20 rfl ?_
    refine y_get (pc := 21) hC 0 10 dX5_drop_21 rfl rfl inX5 (by decide) kw_3_97 rfl rfl ?_
    refine y_iload_n (pc := 24) hC 2 dX5_drop_24 rfl ?_
    refine y_dup2 (pc := 25) hC dX5_drop_25 rfl rfl ?_
    refine y_iald (pc := 26) hC 5 (j := j) dX5_drop_26 (ha j) rfl (by omega) rfl rfl ?_
    refine y_iload_n (pc := 27) hC 0 dX5_drop_27 rfl ?_
    refine y_isub (pc := 28) hC dX5_drop_28 ((ha j) - (mn 4 (ha j))) rfl ?_
    refine y_iast (pc := 29) hC 5 (j := j) dX5_drop_29 (upd ha j ((ha j) - (mn 4 (ha j)))) [(s0, .inr (5, [.int (nI h), .int co, .ref s1, .ref s2, .ref s3, .ref s4, .ref s5, .ref s6, .ref s7, .ref s8, .ref s9, .ref m0])), (s1, aI d 10 vi), (s2, aI d 10 lt), (s3, aI d 10 la), (s8, aI d 20 cp), (s9, aI d 20 (upd ha j ((ha j) - (mn 4 (ha j))))), (m0, .inr (6, [.int th, .int (nI n), .ref m1, .ref m2, .ref m3, .int (nI nk), .ref m4, .int (nI nc), .ref m5, .ref m6, .ref qs, .ref qa])), (m1, aI d 10 pl)] rfl (by omega) rfl rfl rfl ?_
    refine y_iconst (pc := 30) hC dX5_drop_30 0 (by decide) ?_
    refine y_istore_n (pc := 31) hC dX5_drop_31 [(3, .int 0), (2, .int (mn 4 (ha j))), (0, .ref s0), (1, .int (nI j))] rfl (by decide) ?_
    have lpj2 : ∀ r2 j2 : Nat, j2 + r2 = n → yyW d G 0 0 Q [(s0, .inr (5, [.int (nI h), .int co, .ref s1, .ref s2, .ref s3, .ref s4, .ref s5, .ref s6, .ref s7, .ref s8, .ref s9, .ref m0])), (s1, aI d 10 ((yi j2 (rtakeS pl (cp j) (mn 4 (ha j))) (vi, lt, la)).1)), (s2, aI d 10 ((yi j2 (rtakeS pl (cp j) (mn 4 (ha j))) (vi, lt, la)).2.1)), (s3, aI d 10 ((yi j2 (rtakeS pl (cp j) (mn 4 (ha j))) (vi, lt, la)).2.2)), (s8, aI d 20 cp), (s9, aI d 20 (upd ha j (ha j - mn 4 (ha j)))), (m0, .inr (6, [.int th, .int (nI n), .ref m1, .ref m2, .ref m3, .int (nI nk), .ref m4, .int (nI nc), .ref m5, .ref m6, .ref qs, .ref qa])), (m1, aI d 10 pl)] [(3, .int (nI j2)), (2, .int (mn 4 (ha j))), (0, .ref s0), (1, .int (nI j))] 32 [] := by
      intro r2
      induction r2 with
      | zero =>
        intro j2 hj2
        have ej2 : j2 = n := by omega
        rw [ej2]
        refine y_iload_n (pc := 32) hC 0 dX5_drop_32 rfl ?_
        refine y_aload_n (pc := 33) hC 2 dX5_drop_33 rfl ?_
        refine y_get (pc := 34) hC 0 11 dX5_drop_34 rfl rfl inX5 (by decide) kw_3_99 rfl rfl ?_
        refine y_getN (pc := 37) hC 6 1 dX5_drop_37 rfl rfl inX6 (by decide) kn_12 rfl rfl ?_
        refine y_ge_t (pc := 40) (a := n) (b := n) hC dX5_drop_40 117 (by decide) (by omega) (by omega) ?_
        exact y_vret (()) hC hQ (trivial) (by simp only [rdropS, rtakeF, c_1, ↓reduceIte, cond_true, cond_false]) (nb rfl) (nb rfl) dX5_drop_117
      | succ r2 ihj2 =>
        intro j2 hj2
        have lj2 : j2 < n := by omega
        refine y_iload_n (pc := 32) hC 0 dX5_drop_32 rfl ?_
        refine y_aload_n (pc := 33) hC 2 dX5_drop_33 rfl ?_
        refine y_get (pc := 34) hC 0 11 dX5_drop_34 rfl rfl inX5 (by decide) kw_3_99 rfl rfl ?_
        refine y_getN (pc := 37) hC 6 1 dX5_drop_37 rfl rfl inX6 (by decide) kn_12 rfl rfl ?_
        refine y_ge_f (pc := 40) (a := j2) (b := n) hC dX5_drop_40 117 (by decide) (by omega) (by omega) ?_
        refine y_aload_n (pc := 43) hC 2 dX5_drop_43 rfl ?_
        refine y_get (pc := 44) hC 0 11 dX5_drop_44 rfl rfl inX5 (by decide) kw_3_99 rfl rfl ?_
        refine y_getN (pc := 47) hC 6 2 dX5_drop_47 rfl rfl inX6 (by decide) kn_13 rfl rfl ?_
        refine y_iload_n (pc := 50) hC 0 dX5_drop_50 rfl ?_
        refine y_iald (pc := 51) hC 7 (j := j2) dX5_drop_51 (pl j2) rfl (by omega) rfl rfl ?_
        refine y_aload_n (pc := 52) hC 2 dX5_drop_52 rfl ?_
        refine y_get (pc := 53) hC 0 9 dX5_drop_53 rfl rfl inX5 (by decide) kw_3_95 rfl rfl ?_
        refine y_iload_n (pc := 56) hC 3 dX5_drop_56 rfl ?_
        refine y_iald (pc := 57) hC 4 (j := j) dX5_drop_57 (cp j) rfl (by omega) rfl rfl ?_
        refine y_cmp_eq (pc := 58) hC dX5_drop_58 64 (by decide) (fun c_3 => ?_) (fun c_3 => ?_)
        · refine y_aload_n (pc := 64) hC 2 dX5_drop_64 rfl ?_
          refine y_get (pc := 65) hC 0 2 dX5_drop_65 rfl rfl inX5 (by decide) kw_3_81 rfl rfl ?_
          refine y_iload_n (pc := 68) hC 0 dX5_drop_68 rfl ?_
          refine y_iald (pc := 69) hC 1 (j := j2) dX5_drop_69 (((yi j2 (rtakeS pl (cp j) (mn 4 (ha j))) (vi, lt, la)).1) j2) rfl (by omega) rfl rfl ?_
          refine y_iconst (pc := 70) hC dX5_drop_70 2 (by decide) ?_
          refine y_iload_n (pc := 71) hC 1 dX5_drop_71 rfl ?_
          refine y_imul (pc := 72) hC dX5_drop_72 (2 * (mn 4 (ha j))) rfl ?_
          refine y_min (pc := 73) hC dX5_drop_73 kw_4_56 kw_2_142 kw_1_14 kw_2_143 ⟨nb rfl, nb rfl, nb rfl, nb rfl⟩ ?_
          refine y_istore (pc := 76) hC dX5_drop_76 [(4, .int (mn (((yi j2 (rtakeS pl (cp j) (mn 4 (ha j))) (vi, lt, la)).1) j2) (2 * (mn 4 (ha j))))), (3, .int (nI j2)), (2, .int (mn 4 (ha j))), (0, .ref s0), (1, .int (nI j))] rfl (by decide) ?_
          refine y_aload_n (pc := 78) hC 3 dX5_drop_78 rfl ?_
          refine y_get (pc := 79) hC 0 2 dX5_drop_79 rfl rfl inX5 (by decide) kw_3_81 rfl rfl ?_
          refine y_iload_n (pc := 82) hC 1 dX5_drop_82 rfl ?_
          refine y_dup2 (pc := 83) hC dX5_drop_83 rfl rfl ?_
          refine y_iald (pc := 84) hC 1 (j := j2) dX5_drop_84 (((yi j2 (rtakeS pl (cp j) (mn 4 (ha j))) (vi, lt, la)).1) j2) rfl (by omega) rfl rfl ?_
          refine y_iload (pc := 85) hC 0 dX5_drop_85 rfl ?_
          refine y_isub (pc := 87) hC dX5_drop_87 ((((yi j2 (rtakeS pl (cp j) (mn 4 (ha j))) (vi, lt, la)).1) j2) - (mn (((yi j2 (rtakeS pl (cp j) (mn 4 (ha j))) (vi, lt, la)).1) j2) (2 * (mn 4 (ha j))))) rfl ?_
          refine y_iast (pc := 88) hC 1 (j := j2) dX5_drop_88 (upd ((yi j2 (rtakeS pl (cp j) (mn 4 (ha j))) (vi, lt, la)).1) j2 ((((yi j2 (rtakeS pl (cp j) (mn 4 (ha j))) (vi, lt, la)).1) j2) - (mn (((yi j2 (rtakeS pl (cp j) (mn 4 (ha j))) (vi, lt, la)).1) j2) (2 * (mn 4 (ha j)))))) [(s0, .inr (5, [.int (nI h), .int co, .ref s1, .ref s2, .ref s3, .ref s4, .ref s5, .ref s6, .ref s7, .ref s8, .ref s9, .ref m0])), (s1, aI d 10 (upd ((yi j2 (rtakeS pl (cp j) (mn 4 (ha j))) (vi, lt, la)).1) j2 ((((yi j2 (rtakeS pl (cp j) (mn 4 (ha j))) (vi, lt, la)).1) j2) - (mn (((yi j2 (rtakeS pl (cp j) (mn 4 (ha j))) (vi, lt, la)).1) j2) (2 * (mn 4 (ha j))))))), (s2, aI d 10 ((yi j2 (rtakeS pl (cp j) (mn 4 (ha j))) (vi, lt, la)).2.1)), (s3, aI d 10 ((yi j2 (rtakeS pl (cp j) (mn 4 (ha j))) (vi, lt, la)).2.2)), (s8, aI d 20 cp), (s9, aI d 20 (upd ha j (ha j - mn 4 (ha j)))), (m0, .inr (6, [.int th, .int (nI n), .ref m1, .ref m2, .ref m3, .int (nI nk), .ref m4, .int (nI nc), .ref m5, .ref m6, .ref qs, .ref qa])), (m1, aI d 10 pl)] rfl (by omega) rfl rfl rfl ?_
          refine y_aload_n (pc := 89) hC 3 dX5_drop_89 rfl ?_
          refine y_get (pc := 90) hC 0 3 dX5_drop_90 rfl rfl inX5 (by decide) kw_3_83 rfl rfl ?_
          refine y_iload_n (pc := 93) hC 1 dX5_drop_93 rfl ?_
          refine y_dup2 (pc := 94) hC dX5_drop_94 rfl rfl ?_
          refine y_iald (pc := 95) hC 2 (j := j2) dX5_drop_95 (((yi j2 (rtakeS pl (cp j) (mn 4 (ha j))) (vi, lt, la)).2.1) j2) rfl (by omega) rfl rfl ?_
          refine y_iload (pc := 96) hC 0 dX5_drop_96 rfl ?_
          refine y_iadd (pc := 98) hC dX5_drop_98 ((((yi j2 (rtakeS pl (cp j) (mn 4 (ha j))) (vi, lt, la)).2.1) j2) + (mn (((yi j2 (rtakeS pl (cp j) (mn 4 (ha j))) (vi, lt, la)).1) j2) (2 * (mn 4 (ha j))))) rfl ?_
          refine y_iast (pc := 99) hC 2 (j := j2) dX5_drop_99 (upd ((yi j2 (rtakeS pl (cp j) (mn 4 (ha j))) (vi, lt, la)).2.1) j2 ((((yi j2 (rtakeS pl (cp j) (mn 4 (ha j))) (vi, lt, la)).2.1) j2) + (mn (((yi j2 (rtakeS pl (cp j) (mn 4 (ha j))) (vi, lt, la)).1) j2) (2 * (mn 4 (ha j)))))) [(s0, .inr (5, [.int (nI h), .int co, .ref s1, .ref s2, .ref s3, .ref s4, .ref s5, .ref s6, .ref s7, .ref s8, .ref s9, .ref m0])), (s1, aI d 10 (upd ((yi j2 (rtakeS pl (cp j) (mn 4 (ha j))) (vi, lt, la)).1) j2 ((((yi j2 (rtakeS pl (cp j) (mn 4 (ha j))) (vi, lt, la)).1) j2) - (mn (((yi j2 (rtakeS pl (cp j) (mn 4 (ha j))) (vi, lt, la)).1) j2) (2 * (mn 4 (ha j))))))), (s2, aI d 10 (upd ((yi j2 (rtakeS pl (cp j) (mn 4 (ha j))) (vi, lt, la)).2.1) j2 ((((yi j2 (rtakeS pl (cp j) (mn 4 (ha j))) (vi, lt, la)).2.1) j2) + (mn (((yi j2 (rtakeS pl (cp j) (mn 4 (ha j))) (vi, lt, la)).1) j2) (2 * (mn 4 (ha j))))))), (s3, aI d 10 ((yi j2 (rtakeS pl (cp j) (mn 4 (ha j))) (vi, lt, la)).2.2)), (s8, aI d 20 cp), (s9, aI d 20 (upd ha j (ha j - mn 4 (ha j)))), (m0, .inr (6, [.int th, .int (nI n), .ref m1, .ref m2, .ref m3, .int (nI nk), .ref m4, .int (nI nc), .ref m5, .ref m6, .ref qs, .ref qa])), (m1, aI d 10 pl)] rfl (by omega) rfl rfl rfl ?_
          refine y_aload_n (pc := 100) hC 3 dX5_drop_100 rfl ?_
          refine y_get (pc := 101) hC 0 4 dX5_drop_101 rfl rfl inX5 (by decide) kw_3_85 rfl rfl ?_
          refine y_iload_n (pc := 104) hC 1 dX5_drop_104 rfl ?_
          refine y_dup2 (pc := 105) hC dX5_drop_105 rfl rfl ?_
          refine y_iald (pc := 106) hC 3 (j := j2) dX5_drop_106 (((yi j2 (rtakeS pl (cp j) (mn 4 (ha j))) (vi, lt, la)).2.2) j2) rfl (by omega) rfl rfl ?_
          refine y_iload (pc := 107) hC 0 dX5_drop_107 rfl ?_
          refine y_iadd (pc := 109) hC dX5_drop_109 ((((yi j2 (rtakeS pl (cp j) (mn 4 (ha j))) (vi, lt, la)).2.2) j2) + (mn (((yi j2 (rtakeS pl (cp j) (mn 4 (ha j))) (vi, lt, la)).1) j2) (2 * (mn 4 (ha j))))) rfl ?_
          refine y_iast (pc := 110) hC 3 (j := j2) dX5_drop_110 (upd ((yi j2 (rtakeS pl (cp j) (mn 4 (ha j))) (vi, lt, la)).2.2) j2 ((((yi j2 (rtakeS pl (cp j) (mn 4 (ha j))) (vi, lt, la)).2.2) j2) + (mn (((yi j2 (rtakeS pl (cp j) (mn 4 (ha j))) (vi, lt, la)).1) j2) (2 * (mn 4 (ha j)))))) [(s0, .inr (5, [.int (nI h), .int co, .ref s1, .ref s2, .ref s3, .ref s4, .ref s5, .ref s6, .ref s7, .ref s8, .ref s9, .ref m0])), (s1, aI d 10 (upd ((yi j2 (rtakeS pl (cp j) (mn 4 (ha j))) (vi, lt, la)).1) j2 ((((yi j2 (rtakeS pl (cp j) (mn 4 (ha j))) (vi, lt, la)).1) j2) - (mn (((yi j2 (rtakeS pl (cp j) (mn 4 (ha j))) (vi, lt, la)).1) j2) (2 * (mn 4 (ha j))))))), (s2, aI d 10 (upd ((yi j2 (rtakeS pl (cp j) (mn 4 (ha j))) (vi, lt, la)).2.1) j2 ((((yi j2 (rtakeS pl (cp j) (mn 4 (ha j))) (vi, lt, la)).2.1) j2) + (mn (((yi j2 (rtakeS pl (cp j) (mn 4 (ha j))) (vi, lt, la)).1) j2) (2 * (mn 4 (ha j))))))), (s3, aI d 10 (upd ((yi j2 (rtakeS pl (cp j) (mn 4 (ha j))) (vi, lt, la)).2.2) j2 ((((yi j2 (rtakeS pl (cp j) (mn 4 (ha j))) (vi, lt, la)).2.2) j2) + (mn (((yi j2 (rtakeS pl (cp j) (mn 4 (ha j))) (vi, lt, la)).1) j2) (2 * (mn 4 (ha j))))))), (s8, aI d 20 cp), (s9, aI d 20 (upd ha j (ha j - mn 4 (ha j)))), (m0, .inr (6, [.int th, .int (nI n), .ref m1, .ref m2, .ref m3, .int (nI nk), .ref m4, .int (nI nc), .ref m5, .ref m6, .ref qs, .ref qa])), (m1, aI d 10 pl)] rfl (by omega) rfl rfl rfl ?_
          refine y_iinc (pc := 111) hC 1 dX5_drop_111 (nI (j2 + 1)) [(3, .int (nI (j2 + 1))), (4, .int (mn (((yi j2 (rtakeS pl (cp j) (mn 4 (ha j))) (vi, lt, la)).1) j2) (2 * (mn 4 (ha j))))), (2, .int (mn 4 (ha j))), (0, .ref s0), (1, .int (nI j))] rfl (nI_inc _) rfl (by decide) ?_
          refine y_goto (pc := 114) hC dX5_drop_114 32 (by decide) ?_
          refine y_lv [(3, .int (nI (j2 + 1))), (2, .int (mn 4 (ha j))), (0, .ref s0), (1, .int (nI j))] [0, 2, 3, 4] rfl ?_
          refine y_ws [(s0, .inr (5, [.int (nI h), .int co, .ref s1, .ref s2, .ref s3, .ref s4, .ref s5, .ref s6, .ref s7, .ref s8, .ref s9, .ref m0])), (s1, aI d 10 ((yi (j2 + 1) (rtakeS pl (cp j) (mn 4 (ha j))) (vi, lt, la)).1)), (s2, aI d 10 ((yi (j2 + 1) (rtakeS pl (cp j) (mn 4 (ha j))) (vi, lt, la)).2.1)), (s3, aI d 10 ((yi (j2 + 1) (rtakeS pl (cp j) (mn 4 (ha j))) (vi, lt, la)).2.2)), (s8, aI d 20 cp), (s9, aI d 20 (upd ha j (ha j - mn 4 (ha j)))), (m0, .inr (6, [.int th, .int (nI n), .ref m1, .ref m2, .ref m3, .int (nI nk), .ref m4, .int (nI nc), .ref m5, .ref m6, .ref qs, .ref qa])), (m1, aI d 10 pl)] (by simp only [yi, rtakeS, c_1, c_3, ↓reduceIte, cond_true, cond_false]) ?_
          exact ihj2 (j2 + 1) (by omega)
        · refine y_goto (pc := 61) hC dX5_drop_61 111 (by decide) ?_
          refine y_iinc (pc := 111) hC 0 dX5_drop_111 (nI (j2 + 1)) [(3, .int (nI (j2 + 1))), (2, .int (mn 4 (ha j))), (0, .ref s0), (1, .int (nI j))] rfl (nI_inc _) rfl (by decide) ?_
          refine y_goto (pc := 114) hC dX5_drop_114 32 (by decide) ?_
          refine y_ws [(s0, .inr (5, [.int (nI h), .int co, .ref s1, .ref s2, .ref s3, .ref s4, .ref s5, .ref s6, .ref s7, .ref s8, .ref s9, .ref m0])), (s1, aI d 10 ((yi (j2 + 1) (rtakeS pl (cp j) (mn 4 (ha j))) (vi, lt, la)).1)), (s2, aI d 10 ((yi (j2 + 1) (rtakeS pl (cp j) (mn 4 (ha j))) (vi, lt, la)).2.1)), (s3, aI d 10 ((yi (j2 + 1) (rtakeS pl (cp j) (mn 4 (ha j))) (vi, lt, la)).2.2)), (s8, aI d 20 cp), (s9, aI d 20 (upd ha j (ha j - mn 4 (ha j)))), (m0, .inr (6, [.int th, .int (nI n), .ref m1, .ref m2, .ref m3, .int (nI nk), .ref m4, .int (nI nc), .ref m5, .ref m6, .ref qs, .ref qa])), (m1, aI d 10 pl)] (by simp only [yi, rtakeS, c_1, c_3, ↓reduceIte, cond_true, cond_false]) ?_
          exact ihj2 (j2 + 1) (by omega)
    refine y_lv [(3, .int 0), (2, .int (mn 4 (ha j))), (0, .ref s0), (1, .int (nI j))] [0, 1, 2, 3] rfl ?_
    exact lpj2 n 0 (by omega)
  · exact y_vret (()) hC hQ (trivial) (by simp only [rdropS, rtakeF, c_1, ↓reduceIte, cond_true, cond_false]) (nb rfl) (nb rfl) dX5_drop_8
theorem n_X5_drop : yyN yX5_drop RX5 1 := by refine ⟨rfl, ?_, ?_, ?_⟩ <;> decide +kernel
set_option maxHeartbeats 4000000 in
set_option maxRecDepth 100000 in
theorem c_X5_settle (l : Launch) (d : yyD) (s0 : Nat) (s1 : Nat) (s2 : Nat) (s3 : Nat) (s4 : Nat) (s5 : Nat) (s6 : Nat) (s7 : Nat) (s8 : Nat) (s9 : Nat) (vi : fI) (lt : fI) (su : fI) (h : Nat) (co : Int32) (m0 : Nat) (m1 : Nat) (m2 : Nat) (m3 : Nat) (m4 : Nat) (m5 : Nat) (m6 : Nat) (qs : Nat) (qa : Nat) (ins : fB) (th : Int32) (n : Nat) (nk : Nat) (nc : Nat) (j : Nat) (hj : j < 10) : yyV (S := Unit) l yX5_settle cX5_settle 2 { frames := 1, cells := 0, slots := 0, locals := 22 } d [.ref s0, .int (nI j)] [(s0, .inr (5, [.int (nI h), .int co, .ref s1, .ref s2, .ref s3, .ref s4, .ref s5, .ref s6, .ref s7, .ref s8, .ref s9, .ref m0])), (s1, aI d 10 vi), (s2, aI d 10 lt), (s4, aI d 10 su), (m0, .inr (6, [.int th, .int (nI n), .ref m1, .ref m2, .ref m3, .int (nI nk), .ref m4, .int (nI nc), .ref m5, .ref m6, .ref qs, .ref qa])), (m3, aI d 10 (biF ins))] (fun _ => True) (fun _ => [(s0, .inr (5, [.int (nI h), .int ((rsetS ins j (co, vi, lt, su)).1), .ref s1, .ref s2, .ref s3, .ref s4, .ref s5, .ref s6, .ref s7, .ref s8, .ref s9, .ref m0])), (s1, aI d 10 ((rsetS ins j (co, vi, lt, su)).2.1)), (s2, aI d 10 ((rsetS ins j (co, vi, lt, su)).2.2.1)), (s4, aI d 10 ((rsetS ins j (co, vi, lt, su)).2.2.2)), (m0, .inr (6, [.int th, .int (nI n), .ref m1, .ref m2, .ref m3, .int (nI nk), .ref m4, .int (nI nc), .ref m5, .ref m6, .ref qs, .ref qa])), (m3, aI d 10 (biF ins))]) := by
  refine yyV_of (own := RX5) [(0, .ref s0), (1, .int (nI j))] (by decide +kernel) rfl (Nat.le_of_ble_eq_true rfl) rfl ?_
  intro G Q hQ hGL hC hGA hin
  refine y_aload_n (pc := 0) hC 0 dX5_settle_0 rfl ?_
  refine y_get (pc := 1) hC 0 11 dX5_settle_1 rfl rfl inX5 (by decide) kw_3_99 rfl rfl ?_
  refine y_getN (pc := 4) hC 4 4 dX5_settle_4 rfl rfl inX6 (by decide) kn_15 rfl rfl ?_
  refine y_iload_n (pc := 7) hC 1 dX5_settle_7 rfl ?_
  refine y_iald (pc := 8) hC 5 (j := j) dX5_settle_8 (bI (ins j)) rfl (by omega) rfl rfl ?_
  refine y_iconst (pc := 9) hC dX5_settle_9 1 (by decide) ?_
  refine y_b1ne (pc := 10) hC dX5_settle_10 32 (by decide) (fun c_1 => ?_) (fun c_1 => ?_)
  · refine y_aload_n (pc := 32) hC 0 dX5_settle_32 rfl ?_
    refine y_dup (pc := 33) hC dX5_settle_33 rfl ?_
    refine y_get (pc := 34) hC 0 1 dX5_settle_34 rfl rfl inX5 (by decide) kw_3_79 rfl rfl ?_
    refine y_aload_n (pc := 37) hC 0 dX5_settle_37 rfl ?_
    refine y_get (pc := 38) hC 0 5 dX5_settle_38 rfl rfl inX5 (by decide) kw_3_87 rfl rfl ?_
    refine y_iload_n (pc := 41) hC 1 dX5_settle_41 rfl ?_
    refine y_iald (pc := 42) hC 3 (j := j) dX5_settle_42 (su j) rfl (by omega) rfl rfl ?_
    refine y_isub (pc := 43) hC dX5_settle_43 (co - (su j)) rfl ?_
    refine y_put (pc := 44) hC 0 1 .int dX5_settle_44 tyX5 [(s0, .inr (5, [.int (nI h), .int (co - (su j)), .ref s1, .ref s2, .ref s3, .ref s4, .ref s5, .ref s6, .ref s7, .ref s8, .ref s9, .ref m0])), (s1, aI d 10 vi), (s2, aI d 10 lt), (s4, aI d 10 su), (m0, .inr (6, [.int th, .int (nI n), .ref m1, .ref m2, .ref m3, .int (nI nk), .ref m4, .int (nI nc), .ref m5, .ref m6, .ref qs, .ref qa])), (m3, aI d 10 (biF ins))] rfl rfl rfl inX5 tyX5_ok nmX5 (by decide) kw_3_79 rfl rfl (by decide +kernel) rfl rfl (Nat.le_of_ble_eq_true rfl) ?_
    refine y_aload_n (pc := 47) hC 0 dX5_settle_47 rfl ?_
    refine y_get (pc := 48) hC 0 3 dX5_settle_48 rfl rfl inX5 (by decide) kw_3_83 rfl rfl ?_
    refine y_iload_n (pc := 51) hC 1 dX5_settle_51 rfl ?_
    refine y_iconst (pc := 52) hC dX5_settle_52 0 (by decide) ?_
    refine y_iast (pc := 53) hC 2 (j := j) dX5_settle_53 (upd lt j 0) [(s0, .inr (5, [.int (nI h), .int (co - (su j)), .ref s1, .ref s2, .ref s3, .ref s4, .ref s5, .ref s6, .ref s7, .ref s8, .ref s9, .ref m0])), (s1, aI d 10 vi), (s2, aI d 10 (upd lt j 0)), (s4, aI d 10 su), (m0, .inr (6, [.int th, .int (nI n), .ref m1, .ref m2, .ref m3, .int (nI nk), .ref m4, .int (nI nc), .ref m5, .ref m6, .ref qs, .ref qa])), (m3, aI d 10 (biF ins))] rfl (by omega) rfl rfl rfl ?_
    refine y_aload_n (pc := 54) hC 0 dX5_settle_54 rfl ?_
    refine y_get (pc := 55) hC 0 5 dX5_settle_55 rfl rfl inX5 (by decide) kw_3_87 rfl rfl ?_
    refine y_iload_n (pc := 58) hC 1 dX5_settle_58 rfl ?_
    refine y_iconst (pc := 59) hC dX5_settle_59 0 (by decide) ?_
    refine y_iast (pc := 60) hC 3 (j := j) dX5_settle_60 (upd su j 0) [(s0, .inr (5, [.int (nI h), .int (co - (su j)), .ref s1, .ref s2, .ref s3, .ref s4, .ref s5, .ref s6, .ref s7, .ref s8, .ref s9, .ref m0])), (s1, aI d 10 vi), (s2, aI d 10 (upd lt j 0)), (s4, aI d 10 (upd su j 0)), (m0, .inr (6, [.int th, .int (nI n), .ref m1, .ref m2, .ref m3, .int (nI nk), .ref m4, .int (nI nc), .ref m5, .ref m6, .ref qs, .ref qa])), (m3, aI d 10 (biF ins))] rfl (by omega) rfl rfl rfl ?_
    refine y_aload_n (pc := 61) hC 0 dX5_settle_61 rfl ?_
    refine y_get (pc := 62) hC 0 2 dX5_settle_62 rfl rfl inX5 (by decide) kw_3_81 rfl rfl ?_
    refine y_iload_n (pc := 65) hC 1 dX5_settle_65 rfl ?_
    refine y_iald (pc := 66) hC 1 (j := j) dX5_settle_66 (vi j) rfl (by omega) rfl rfl ?_
    refine y_iconst (pc := 67) hC dX5_settle_67 1 (by decide) ?_
    refine y_bipush (pc := 68) hC dX5_settle_68 98 (by decide) ?_
    refine y_snI (pc := 70) (As := [.int (vi j), .int 1, .int 98]) (st := []) hC (c_X6_isIn (gL G) d (vi j) 1 98) kw_3_184 kn_22 kw_3_183 kw_1_6 n_X6_isIn ⟨⟨nb rfl, nb rfl⟩, ⟨nb rfl, nb rfl⟩, nb rfl⟩ [] [0, 1, 2, 3, 4, 5] [0, 1, 2, 3, 4, 5] [(s0, .inr (5, [.int (nI h), .int (co - (su j)), .ref s1, .ref s2, .ref s3, .ref s4, .ref s5, .ref s6, .ref s7, .ref s8, .ref s9, .ref m0])), (s1, aI d 10 vi), (s2, aI d 10 (upd lt j 0)), (s4, aI d 10 (upd su j 0)), (m0, .inr (6, [.int th, .int (nI n), .ref m1, .ref m2, .ref m3, .int (nI nk), .ref m4, .int (nI nc), .ref m5, .ref m6, .ref qs, .ref qa])), (m3, aI d 10 (biF ins))] [(s0, .inr (5, [.int (nI h), .int (co - (su j)), .ref s1, .ref s2, .ref s3, .ref s4, .ref s5, .ref s6, .ref s7, .ref s8, .ref s9, .ref m0])), (s1, aI d 10 vi), (s2, aI d 10 (upd lt j 0)), (s4, aI d 10 (upd su j 0)), (m0, .inr (6, [.int th, .int (nI n), .ref m1, .ref m2, .ref m3, .int (nI nk), .ref m4, .int (nI nc), .ref m5, .ref m6, .ref qs, .ref qa])), (m3, aI d 10 (biF ins))] ⟨rfl, by decide, rfl, by decide, by decide⟩ ⟨rfl, by decide⟩ rfl dX5_settle_70 ?_
    refine y_beq (pc := 73) hC dX5_settle_73 86 (by decide) (fun c_2 => ?_) (fun c_2 => ?_)
    · exact y_vret (()) hC hQ (trivial) (by simp only [rsetS, c_1, c_2, ↓reduceIte, cond_true, cond_false]) (nb rfl) (nb rfl) dX5_settle_86
    · refine y_aload_n (pc := 76) hC 0 dX5_settle_76 rfl ?_
      refine y_get (pc := 77) hC 0 2 dX5_settle_77 rfl rfl inX5 (by decide) kw_3_81 rfl rfl ?_
      refine y_iload_n (pc := 80) hC 1 dX5_settle_80 rfl ?_
      refine y_dup2 (pc := 81) hC dX5_settle_81 rfl rfl ?_
      refine y_iald (pc := 82) hC 1 (j := j) dX5_settle_82 (vi j) rfl (by omega) rfl rfl ?_
      refine y_iconst (pc := 83) hC dX5_settle_83 1 (by decide) ?_
      refine y_iadd (pc := 84) hC dX5_settle_84 ((vi j) + 1) rfl ?_
      refine y_iast (pc := 85) hC 1 (j := j) dX5_settle_85 (upd vi j ((vi j) + 1)) [(s0, .inr (5, [.int (nI h), .int (co - (su j)), .ref s1, .ref s2, .ref s3, .ref s4, .ref s5, .ref s6, .ref s7, .ref s8, .ref s9, .ref m0])), (s1, aI d 10 (upd vi j ((vi j) + 1))), (s2, aI d 10 (upd lt j 0)), (s4, aI d 10 (upd su j 0)), (m0, .inr (6, [.int th, .int (nI n), .ref m1, .ref m2, .ref m3, .int (nI nk), .ref m4, .int (nI nc), .ref m5, .ref m6, .ref qs, .ref qa])), (m3, aI d 10 (biF ins))] rfl (by omega) rfl rfl rfl ?_
      exact y_vret (()) hC hQ (trivial) (by simp only [rsetS, c_1, c_2, ↓reduceIte, cond_true, cond_false]) (nb rfl) (nb rfl) dX5_settle_86
  · refine y_aload_n (pc := 13) hC 0 dX5_settle_13 rfl ?_
    refine y_dup (pc := 14) hC dX5_settle_14 rfl ?_
    refine y_get (pc := 15) hC 0 1 dX5_settle_15 rfl rfl inX5 (by decide) kw_3_79 rfl rfl ?_
    refine y_iconst (pc := 18) hC dX5_settle_18 1 (by decide) ?_
    refine y_aload_n (pc := 19) hC 0 dX5_settle_19 rfl ?_
    refine y_get (pc := 20) hC 0 3 dX5_settle_20 rfl rfl inX5 (by decide) kw_3_83 rfl rfl ?_
    refine y_iload_n (pc := 23) hC 1 dX5_settle_23 rfl ?_
    refine y_iald (pc := 24) hC 2 (j := j) dX5_settle_24 (lt j) rfl (by omega) rfl rfl ?_
    refine y_iconst (pc := 25) hC dX5_settle_25 2 (by decide) ?_
    refine y_idiv (pc := 26) hC dX5_settle_26 ((lt j) / 2) rfl (by decide) ?_
    refine y_isub (pc := 27) hC dX5_settle_27 (1 - ((lt j) / 2)) rfl ?_
    refine y_iadd (pc := 28) hC dX5_settle_28 (co + (1 - ((lt j) / 2))) rfl ?_
    refine y_put (pc := 29) hC 0 1 .int dX5_settle_29 tyX5 [(s0, .inr (5, [.int (nI h), .int (co + (1 - ((lt j) / 2))), .ref s1, .ref s2, .ref s3, .ref s4, .ref s5, .ref s6, .ref s7, .ref s8, .ref s9, .ref m0])), (s1, aI d 10 vi), (s2, aI d 10 lt), (s4, aI d 10 su), (m0, .inr (6, [.int th, .int (nI n), .ref m1, .ref m2, .ref m3, .int (nI nk), .ref m4, .int (nI nc), .ref m5, .ref m6, .ref qs, .ref qa])), (m3, aI d 10 (biF ins))] rfl rfl rfl inX5 tyX5_ok nmX5 (by decide) kw_3_79 rfl rfl (by decide +kernel) rfl rfl (Nat.le_of_ble_eq_true rfl) ?_
    refine y_aload_n (pc := 32) hC 0 dX5_settle_32 rfl ?_
    refine y_dup (pc := 33) hC dX5_settle_33 rfl ?_
    refine y_get (pc := 34) hC 0 1 dX5_settle_34 rfl rfl inX5 (by decide) kw_3_79 rfl rfl ?_
    refine y_aload_n (pc := 37) hC 0 dX5_settle_37 rfl ?_
    refine y_get (pc := 38) hC 0 5 dX5_settle_38 rfl rfl inX5 (by decide) kw_3_87 rfl rfl ?_
    refine y_iload_n (pc := 41) hC 1 dX5_settle_41 rfl ?_
    refine y_iald (pc := 42) hC 3 (j := j) dX5_settle_42 (su j) rfl (by omega) rfl rfl ?_
    refine y_isub (pc := 43) hC dX5_settle_43 ((co + (1 - ((lt j) / 2))) - (su j)) rfl ?_
    refine y_put (pc := 44) hC 0 1 .int dX5_settle_44 tyX5 [(s0, .inr (5, [.int (nI h), .int ((co + (1 - ((lt j) / 2))) - (su j)), .ref s1, .ref s2, .ref s3, .ref s4, .ref s5, .ref s6, .ref s7, .ref s8, .ref s9, .ref m0])), (s1, aI d 10 vi), (s2, aI d 10 lt), (s4, aI d 10 su), (m0, .inr (6, [.int th, .int (nI n), .ref m1, .ref m2, .ref m3, .int (nI nk), .ref m4, .int (nI nc), .ref m5, .ref m6, .ref qs, .ref qa])), (m3, aI d 10 (biF ins))] rfl rfl rfl inX5 tyX5_ok nmX5 (by decide) kw_3_79 rfl rfl (by decide +kernel) rfl rfl (Nat.le_of_ble_eq_true rfl) ?_
    refine y_aload_n (pc := 47) hC 0 dX5_settle_47 rfl ?_
    refine y_get (pc := 48) hC 0 3 dX5_settle_48 rfl rfl inX5 (by decide) kw_3_83 rfl rfl ?_
    refine y_iload_n (pc := 51) hC 1 dX5_settle_51 rfl ?_
    refine y_iconst (pc := 52) hC dX5_settle_52 0 (by decide) ?_
    refine y_iast (pc := 53) hC 2 (j := j) dX5_settle_53 (upd lt j 0) [(s0, .inr (5, [.int (nI h), .int ((co + (1 - ((lt j) / 2))) - (su j)), .ref s1, .ref s2, .ref s3, .ref s4, .ref s5, .ref s6, .ref s7, .ref s8, .ref s9, .ref m0])), (s1, aI d 10 vi), (s2, aI d 10 (upd lt j 0)), (s4, aI d 10 su), (m0, .inr (6, [.int th, .int (nI n), .ref m1, .ref m2, .ref m3, .int (nI nk), .ref m4, .int (nI nc), .ref m5, .ref m6, .ref qs, .ref qa])), (m3, aI d 10 (biF ins))] rfl (by omega) rfl rfl rfl ?_
    refine y_aload_n (pc := 54) hC 0 dX5_settle_54 rfl ?_
    refine y_get (pc := 55) hC 0 5 dX5_settle_55 rfl rfl inX5 (by decide) kw_3_87 rfl rfl ?_
    refine y_iload_n (pc := 58) hC 1 dX5_settle_58 rfl ?_
    refine y_iconst (pc := 59) hC dX5_settle_59 0 (by decide) ?_
    refine y_iast (pc := 60) hC 3 (j := j) dX5_settle_60 (upd su j 0) [(s0, .inr (5, [.int (nI h), .int ((co + (1 - ((lt j) / 2))) - (su j)), .ref s1, .ref s2, .ref s3, .ref s4, .ref s5, .ref s6, .ref s7, .ref s8, .ref s9, .ref m0])), (s1, aI d 10 vi), (s2, aI d 10 (upd lt j 0)), (s4, aI d 10 (upd su j 0)), (m0, .inr (6, [.int th, .int (nI n), .ref m1, .ref m2, .ref m3, .int (nI nk), .ref m4, .int (nI nc), .ref m5, .ref m6, .ref qs, .ref qa])), (m3, aI d 10 (biF ins))] rfl (by omega) rfl rfl rfl ?_
    refine y_aload_n (pc := 61) hC 0 dX5_settle_61 rfl ?_
    refine y_get (pc := 62) hC 0 2 dX5_settle_62 rfl rfl inX5 (by decide) kw_3_81 rfl rfl ?_
    refine y_iload_n (pc := 65) hC 1 dX5_settle_65 rfl ?_
    refine y_iald (pc := 66) hC 1 (j := j) dX5_settle_66 (vi j) rfl (by omega) rfl rfl ?_
    refine y_iconst (pc := 67) hC dX5_settle_67 1 (by decide) ?_
    refine y_bipush (pc := 68) hC dX5_settle_68 98 (by decide) ?_
    refine y_snI (pc := 70) (As := [.int (vi j), .int 1, .int 98]) (st := []) hC (c_X6_isIn (gL G) d (vi j) 1 98) kw_3_184 kn_22 kw_3_183 kw_1_6 n_X6_isIn ⟨⟨nb rfl, nb rfl⟩, ⟨nb rfl, nb rfl⟩, nb rfl⟩ [] [0, 1, 2, 3, 4, 5] [0, 1, 2, 3, 4, 5] [(s0, .inr (5, [.int (nI h), .int ((co + (1 - ((lt j) / 2))) - (su j)), .ref s1, .ref s2, .ref s3, .ref s4, .ref s5, .ref s6, .ref s7, .ref s8, .ref s9, .ref m0])), (s1, aI d 10 vi), (s2, aI d 10 (upd lt j 0)), (s4, aI d 10 (upd su j 0)), (m0, .inr (6, [.int th, .int (nI n), .ref m1, .ref m2, .ref m3, .int (nI nk), .ref m4, .int (nI nc), .ref m5, .ref m6, .ref qs, .ref qa])), (m3, aI d 10 (biF ins))] [(s0, .inr (5, [.int (nI h), .int ((co + (1 - ((lt j) / 2))) - (su j)), .ref s1, .ref s2, .ref s3, .ref s4, .ref s5, .ref s6, .ref s7, .ref s8, .ref s9, .ref m0])), (s1, aI d 10 vi), (s2, aI d 10 (upd lt j 0)), (s4, aI d 10 (upd su j 0)), (m0, .inr (6, [.int th, .int (nI n), .ref m1, .ref m2, .ref m3, .int (nI nk), .ref m4, .int (nI nc), .ref m5, .ref m6, .ref qs, .ref qa])), (m3, aI d 10 (biF ins))] ⟨rfl, by decide, rfl, by decide, by decide⟩ ⟨rfl, by decide⟩ rfl dX5_settle_70 ?_
    refine y_beq (pc := 73) hC dX5_settle_73 86 (by decide) (fun c_3 => ?_) (fun c_3 => ?_)
    · exact y_vret (()) hC hQ (trivial) (by simp only [rsetS, c_1, c_3, ↓reduceIte, cond_true, cond_false]) (nb rfl) (nb rfl) dX5_settle_86
    · refine y_aload_n (pc := 76) hC 0 dX5_settle_76 rfl ?_
      refine y_get (pc := 77) hC 0 2 dX5_settle_77 rfl rfl inX5 (by decide) kw_3_81 rfl rfl ?_
      refine y_iload_n (pc := 80) hC 1 dX5_settle_80 rfl ?_
      refine y_dup2 (pc := 81) hC dX5_settle_81 rfl rfl ?_
      refine y_iald (pc := 82) hC 1 (j := j) dX5_settle_82 (vi j) rfl (by omega) rfl rfl ?_
      refine y_iconst (pc := 83) hC dX5_settle_83 1 (by decide) ?_
      refine y_iadd (pc := 84) hC dX5_settle_84 ((vi j) + 1) rfl ?_
      refine y_iast (pc := 85) hC 1 (j := j) dX5_settle_85 (upd vi j ((vi j) + 1)) [(s0, .inr (5, [.int (nI h), .int ((co + (1 - ((lt j) / 2))) - (su j)), .ref s1, .ref s2, .ref s3, .ref s4, .ref s5, .ref s6, .ref s7, .ref s8, .ref s9, .ref m0])), (s1, aI d 10 (upd vi j ((vi j) + 1))), (s2, aI d 10 (upd lt j 0)), (s4, aI d 10 (upd su j 0)), (m0, .inr (6, [.int th, .int (nI n), .ref m1, .ref m2, .ref m3, .int (nI nk), .ref m4, .int (nI nc), .ref m5, .ref m6, .ref qs, .ref qa])), (m3, aI d 10 (biF ins))] rfl (by omega) rfl rfl rfl ?_
      exact y_vret (()) hC hQ (trivial) (by simp only [rsetS, c_1, c_3, ↓reduceIte, cond_true, cond_false]) (nb rfl) (nb rfl) dX5_settle_86
theorem n_X5_settle : yyN yX5_settle RX5 1 := by refine ⟨rfl, ?_, ?_, ?_⟩ <;> decide +kernel
set_option maxHeartbeats 4000000 in
set_option maxRecDepth 100000 in
theorem c_X5_sum10 (l : Launch) (d : yyD) (s0 : Nat) (s1 : Nat) (s2 : Nat) (s3 : Nat) (s4 : Nat) (s5 : Nat) (s6 : Nat) (s7 : Nat) (s8 : Nat) (s9 : Nat) (h : Nat) (co : Int32) (m0 : Nat) (b : Nat) (f : fI) (m : Nat) (hm : m ≤ 10) : yyI l yX5_sum cX5_sum 5 (some .int) { frames := 0, cells := 0, slots := 0, locals := 0 } d [.ref s0, .ref b, .int (nI m)] [(s0, .inr (5, [.int (nI h), .int co, .ref s1, .ref s2, .ref s3, .ref s4, .ref s5, .ref s6, .ref s7, .ref s8, .ref s9, .ref m0])), (b, aI d 10 f)] [(s0, .inr (5, [.int (nI h), .int co, .ref s1, .ref s2, .ref s3, .ref s4, .ref s5, .ref s6, .ref s7, .ref s8, .ref s9, .ref m0])), (b, aI d 10 f)] (sumF f m) := by
  refine yyI_of (own := RX5) [(0, .ref s0), (1, .ref b), (2, .int (nI m))] (by decide +kernel) rfl (Nat.le_of_ble_eq_true rfl) rfl ?_
  intro G Q hQ hGL hC hGA
  refine y_iconst (pc := 0) hC dX5_sum_0 0 (by decide) ?_
  refine y_istore_n (pc := 1) hC dX5_sum_1 [(3, .int 0), (0, .ref s0), (1, .ref b), (2, .int (nI m))] rfl (by decide) ?_
  refine y_iconst (pc := 2) hC dX5_sum_2 0 (by decide) ?_
  refine y_istore (pc := 3) hC dX5_sum_3 [(4, .int 0), (3, .int 0), (0, .ref s0), (1, .ref b), (2, .int (nI m))] rfl (by decide) ?_
  have lpj1 : ∀ r1 j1 : Nat, j1 + r1 = m → yyW d G 0 0 Q [(s0, .inr (5, [.int (nI h), .int co, .ref s1, .ref s2, .ref s3, .ref s4, .ref s5, .ref s6, .ref s7, .ref s8, .ref s9, .ref m0])), (b, aI d 10 f)] [(4, .int (nI j1)), (3, .int (yi j1 (fun k a => a + f k) 0)), (0, .ref s0), (1, .ref b), (2, .int (nI m))] 5 [] := by
    intro r1
    induction r1 with
    | zero =>
      intro j1 hj1
      have ej1 : j1 = m := by omega
      rw [ej1]
      refine y_iload (pc := 5) hC 0 dX5_sum_5 rfl ?_
      refine y_iload_n (pc := 7) hC 4 dX5_sum_7 rfl ?_
      refine y_ge_t (pc := 8) (a := m) (b := m) hC dX5_sum_8 24 (by decide) (by omega) (by omega) ?_
      refine y_iload_n (pc := 24) hC 1 dX5_sum_24 rfl ?_
      exact y_iret hC hQ rfl rfl rfl (nb rfl) (nb rfl) dX5_sum_25
    | succ r1 ihj1 =>
      intro j1 hj1
      have lj1 : j1 < m := by omega
      refine y_iload (pc := 5) hC 0 dX5_sum_5 rfl ?_
      refine y_iload_n (pc := 7) hC 4 dX5_sum_7 rfl ?_
      refine y_ge_f (pc := 8) (a := j1) (b := m) hC dX5_sum_8 24 (by decide) (by omega) (by omega) ?_
      refine y_iload_n (pc := 11) hC 1 dX5_sum_11 rfl ?_
      refine y_aload_n (pc := 12) hC 3 dX5_sum_12 rfl ?_
      refine y_iload (pc := 13) hC 0 dX5_sum_13 rfl ?_
      refine y_iald (pc := 15) hC 1 (j := j1) dX5_sum_15 (f j1) rfl (by omega) rfl rfl ?_
      refine y_iadd (pc := 16) hC dX5_sum_16 ((yi j1 (fun k a => a + f k) 0) + (f j1)) rfl ?_
      refine y_istore_n (pc := 17) hC dX5_sum_17 [(3, .int ((yi j1 (fun k a => a + f k) 0) + (f j1))), (4, .int (nI j1)), (0, .ref s0), (1, .ref b), (2, .int (nI m))] rfl (by decide) ?_
      refine y_iinc (pc := 18) hC 1 dX5_sum_18 (nI (j1 + 1)) [(4, .int (nI (j1 + 1))), (3, .int ((yi j1 (fun k a => a + f k) 0) + (f j1))), (0, .ref s0), (1, .ref b), (2, .int (nI m))] rfl (nI_inc _) rfl (by decide) ?_
      refine y_goto (pc := 21) hC dX5_sum_21 5 (by decide) ?_
      refine y_ws [(s0, .inr (5, [.int (nI h), .int co, .ref s1, .ref s2, .ref s3, .ref s4, .ref s5, .ref s6, .ref s7, .ref s8, .ref s9, .ref m0])), (b, aI d 10 f)] rfl ?_
      exact ihj1 (j1 + 1) (by omega)
  refine y_lv [(4, .int 0), (3, .int 0), (0, .ref s0), (1, .ref b), (2, .int (nI m))] [0, 1, 2, 3, 4] rfl ?_
  exact lpj1 m 0 (by omega)
theorem n_X5_sum10 : yyN yX5_sum RX5 2 := by refine ⟨rfl, ?_, ?_, ?_⟩ <;> decide +kernel
set_option maxHeartbeats 4000000 in
set_option maxRecDepth 100000 in
theorem c_X5_sum6 (l : Launch) (d : yyD) (s0 : Nat) (s1 : Nat) (s2 : Nat) (s3 : Nat) (s4 : Nat) (s5 : Nat) (s6 : Nat) (s7 : Nat) (s8 : Nat) (s9 : Nat) (h : Nat) (co : Int32) (m0 : Nat) (b : Nat) (f : fI) (m : Nat) (hm : m ≤ 6) : yyI l yX5_sum cX5_sum 5 (some .int) { frames := 0, cells := 0, slots := 0, locals := 0 } d [.ref s0, .ref b, .int (nI m)] [(s0, .inr (5, [.int (nI h), .int co, .ref s1, .ref s2, .ref s3, .ref s4, .ref s5, .ref s6, .ref s7, .ref s8, .ref s9, .ref m0])), (b, aI d 6 f)] [(s0, .inr (5, [.int (nI h), .int co, .ref s1, .ref s2, .ref s3, .ref s4, .ref s5, .ref s6, .ref s7, .ref s8, .ref s9, .ref m0])), (b, aI d 6 f)] (sumF f m) := by
  refine yyI_of (own := RX5) [(0, .ref s0), (1, .ref b), (2, .int (nI m))] (by decide +kernel) rfl (Nat.le_of_ble_eq_true rfl) rfl ?_
  intro G Q hQ hGL hC hGA
  refine y_iconst (pc := 0) hC dX5_sum_0 0 (by decide) ?_
  refine y_istore_n (pc := 1) hC dX5_sum_1 [(3, .int 0), (0, .ref s0), (1, .ref b), (2, .int (nI m))] rfl (by decide) ?_
  refine y_iconst (pc := 2) hC dX5_sum_2 0 (by decide) ?_
  refine y_istore (pc := 3) hC dX5_sum_3 [(4, .int 0), (3, .int 0), (0, .ref s0), (1, .ref b), (2, .int (nI m))] rfl (by decide) ?_
  have lpj1 : ∀ r1 j1 : Nat, j1 + r1 = m → yyW d G 0 0 Q [(s0, .inr (5, [.int (nI h), .int co, .ref s1, .ref s2, .ref s3, .ref s4, .ref s5, .ref s6, .ref s7, .ref s8, .ref s9, .ref m0])), (b, aI d 6 f)] [(4, .int (nI j1)), (3, .int (yi j1 (fun k a => a + f k) 0)), (0, .ref s0), (1, .ref b), (2, .int (nI m))] 5 [] := by
    intro r1
    induction r1 with
    | zero =>
      intro j1 hj1
      have ej1 : j1 = m := by omega
      rw [ej1]
      refine y_iload (pc := 5) hC 0 dX5_sum_5 rfl ?_
      refine y_iload_n (pc := 7) hC 4 dX5_sum_7 rfl ?_
      refine y_ge_t (pc := 8) (a := m) (b := m) hC dX5_sum_8 24 (by decide) (by omega) (by omega) ?_
      refine y_iload_n (pc := 24) hC 1 dX5_sum_24 rfl ?_
      exact y_iret hC hQ rfl rfl rfl (nb rfl) (nb rfl) dX5_sum_25
    | succ r1 ihj1 =>
      intro j1 hj1
      have lj1 : j1 < m := by omega
      refine y_iload (pc := 5) hC 0 dX5_sum_5 rfl ?_
      refine y_iload_n (pc := 7) hC 4 dX5_sum_7 rfl ?_
      refine y_ge_f (pc := 8) (a := j1) (b := m) hC dX5_sum_8 24 (by decide) (by omega) (by omega) ?_
      refine y_iload_n (pc := 11) hC 1 dX5_sum_11 rfl ?_
      refine y_aload_n (pc := 12) hC 3 dX5_sum_12 rfl ?_
      refine y_iload (pc := 13) hC 0 dX5_sum_13 rfl ?_
      refine y_iald (pc := 15) hC 1 (j := j1) dX5_sum_15 (f j1) rfl (by omega) rfl rfl ?_
      refine y_iadd (pc := 16) hC dX5_sum_16 ((yi j1 (fun k a => a + f k) 0) + (f j1)) rfl ?_
      refine y_istore_n (pc := 17) hC dX5_sum_17 [(3, .int ((yi j1 (fun k a => a + f k) 0) + (f j1))), (4, .int (nI j1)), (0, .ref s0), (1, .ref b), (2, .int (nI m))] rfl (by decide) ?_
      refine y_iinc (pc := 18) hC 1 dX5_sum_18 (nI (j1 + 1)) [(4, .int (nI (j1 + 1))), (3, .int ((yi j1 (fun k a => a + f k) 0) + (f j1))), (0, .ref s0), (1, .ref b), (2, .int (nI m))] rfl (nI_inc _) rfl (by decide) ?_
      refine y_goto (pc := 21) hC dX5_sum_21 5 (by decide) ?_
      refine y_ws [(s0, .inr (5, [.int (nI h), .int co, .ref s1, .ref s2, .ref s3, .ref s4, .ref s5, .ref s6, .ref s7, .ref s8, .ref s9, .ref m0])), (b, aI d 6 f)] rfl ?_
      exact ihj1 (j1 + 1) (by omega)
  refine y_lv [(4, .int 0), (3, .int 0), (0, .ref s0), (1, .ref b), (2, .int (nI m))] [0, 1, 2, 3, 4] rfl ?_
  exact lpj1 m 0 (by omega)
set_option maxHeartbeats 4000000 in
set_option maxRecDepth 100000 in
theorem c_X5_copy10 (l : Launch) (d : yyD) (s0 : Nat) (s1 : Nat) (s2 : Nat) (s3 : Nat) (s4 : Nat) (s5 : Nat) (s6 : Nat) (s7 : Nat) (s8 : Nat) (s9 : Nat) (h : Nat) (co : Int32) (m0 : Nat) (b : Nat) (c : Nat) (f : fI) (g : fI)  : yyV (S := Unit) l yX5_copy cX5_copy 3 { frames := 1, cells := 0, slots := 0, locals := 18 } d [.ref s0, .ref b, .ref c] [(s0, .inr (5, [.int (nI h), .int co, .ref s1, .ref s2, .ref s3, .ref s4, .ref s5, .ref s6, .ref s7, .ref s8, .ref s9, .ref m0])), (b, aI d 10 f), (c, aI d 10 g)] (fun _ => True) (fun _ => [(s0, .inr (5, [.int (nI h), .int co, .ref s1, .ref s2, .ref s3, .ref s4, .ref s5, .ref s6, .ref s7, .ref s8, .ref s9, .ref m0])), (b, aI d 10 f), (c, aI d 10 f)]) := by
  refine yyV_of (own := RX5) [(0, .ref s0), (1, .ref b), (2, .ref c)] (by decide +kernel) rfl (Nat.le_of_ble_eq_true rfl) rfl ?_
  intro G Q hQ hGL hC hGA hin
  refine y_aload_n (pc := 0) hC 1 dX5_copy_0 rfl ?_
  refine y_iconst (pc := 1) hC dX5_copy_1 0 (by decide) ?_
  refine y_aload_n (pc := 2) hC 2 dX5_copy_2 rfl ?_
  refine y_iconst (pc := 3) hC dX5_copy_3 0 (by decide) ?_
  refine y_aload_n (pc := 4) hC 1 dX5_copy_4 rfl ?_
  refine y_alen (pc := 5) hC 1 dX5_copy_5 rfl ?_
  refine y_copyI (pc := 6) hC dX5_copy_6 1 2 [(s0, .inr (5, [.int (nI h), .int co, .ref s1, .ref s2, .ref s3, .ref s4, .ref s5, .ref s6, .ref s7, .ref s8, .ref s9, .ref m0])), (b, aI d 10 f), (c, aI d 10 f)] rfl rfl rfl rfl rfl rfl rfl kw_4_74 kw_3_21 kw_3_20 kw_1_15 ⟨nb rfl, nb rfl⟩ ?_
  exact y_vret (()) hC hQ (trivial) rfl (nb rfl) (nb rfl) dX5_copy_9
theorem n_X5_copy10 : yyN yX5_copy RX5 2 := by refine ⟨rfl, ?_, ?_, ?_⟩ <;> decide +kernel
set_option maxHeartbeats 4000000 in
set_option maxRecDepth 100000 in
theorem c_X5_copy6 (l : Launch) (d : yyD) (s0 : Nat) (s1 : Nat) (s2 : Nat) (s3 : Nat) (s4 : Nat) (s5 : Nat) (s6 : Nat) (s7 : Nat) (s8 : Nat) (s9 : Nat) (h : Nat) (co : Int32) (m0 : Nat) (b : Nat) (c : Nat) (f : fI) (g : fI)  : yyV (S := Unit) l yX5_copy cX5_copy 3 { frames := 1, cells := 0, slots := 0, locals := 18 } d [.ref s0, .ref b, .ref c] [(s0, .inr (5, [.int (nI h), .int co, .ref s1, .ref s2, .ref s3, .ref s4, .ref s5, .ref s6, .ref s7, .ref s8, .ref s9, .ref m0])), (b, aI d 6 f), (c, aI d 6 g)] (fun _ => True) (fun _ => [(s0, .inr (5, [.int (nI h), .int co, .ref s1, .ref s2, .ref s3, .ref s4, .ref s5, .ref s6, .ref s7, .ref s8, .ref s9, .ref m0])), (b, aI d 6 f), (c, aI d 6 f)]) := by
  refine yyV_of (own := RX5) [(0, .ref s0), (1, .ref b), (2, .ref c)] (by decide +kernel) rfl (Nat.le_of_ble_eq_true rfl) rfl ?_
  intro G Q hQ hGL hC hGA hin
  refine y_aload_n (pc := 0) hC 1 dX5_copy_0 rfl ?_
  refine y_iconst (pc := 1) hC dX5_copy_1 0 (by decide) ?_
  refine y_aload_n (pc := 2) hC 2 dX5_copy_2 rfl ?_
  refine y_iconst (pc := 3) hC dX5_copy_3 0 (by decide) ?_
  refine y_aload_n (pc := 4) hC 1 dX5_copy_4 rfl ?_
  refine y_alen (pc := 5) hC 1 dX5_copy_5 rfl ?_
  refine y_copyI (pc := 6) hC dX5_copy_6 1 2 [(s0, .inr (5, [.int (nI h), .int co, .ref s1, .ref s2, .ref s3, .ref s4, .ref s5, .ref s6, .ref s7, .ref s8, .ref s9, .ref m0])), (b, aI d 6 f), (c, aI d 6 f)] rfl rfl rfl rfl rfl rfl rfl kw_4_74 kw_3_21 kw_3_20 kw_1_15 ⟨nb rfl, nb rfl⟩ ?_
  exact y_vret (()) hC hQ (trivial) rfl (nb rfl) (nb rfl) dX5_copy_9
set_option maxHeartbeats 4000000 in
set_option maxRecDepth 100000 in
theorem c_X5_copy20 (l : Launch) (d : yyD) (s0 : Nat) (s1 : Nat) (s2 : Nat) (s3 : Nat) (s4 : Nat) (s5 : Nat) (s6 : Nat) (s7 : Nat) (s8 : Nat) (s9 : Nat) (h : Nat) (co : Int32) (m0 : Nat) (b : Nat) (c : Nat) (f : fI) (g : fI)  : yyV (S := Unit) l yX5_copy cX5_copy 3 { frames := 1, cells := 0, slots := 0, locals := 18 } d [.ref s0, .ref b, .ref c] [(s0, .inr (5, [.int (nI h), .int co, .ref s1, .ref s2, .ref s3, .ref s4, .ref s5, .ref s6, .ref s7, .ref s8, .ref s9, .ref m0])), (b, aI d 20 f), (c, aI d 20 g)] (fun _ => True) (fun _ => [(s0, .inr (5, [.int (nI h), .int co, .ref s1, .ref s2, .ref s3, .ref s4, .ref s5, .ref s6, .ref s7, .ref s8, .ref s9, .ref m0])), (b, aI d 20 f), (c, aI d 20 f)]) := by
  refine yyV_of (own := RX5) [(0, .ref s0), (1, .ref b), (2, .ref c)] (by decide +kernel) rfl (Nat.le_of_ble_eq_true rfl) rfl ?_
  intro G Q hQ hGL hC hGA hin
  refine y_aload_n (pc := 0) hC 1 dX5_copy_0 rfl ?_
  refine y_iconst (pc := 1) hC dX5_copy_1 0 (by decide) ?_
  refine y_aload_n (pc := 2) hC 2 dX5_copy_2 rfl ?_
  refine y_iconst (pc := 3) hC dX5_copy_3 0 (by decide) ?_
  refine y_aload_n (pc := 4) hC 1 dX5_copy_4 rfl ?_
  refine y_alen (pc := 5) hC 1 dX5_copy_5 rfl ?_
  refine y_copyI (pc := 6) hC dX5_copy_6 1 2 [(s0, .inr (5, [.int (nI h), .int co, .ref s1, .ref s2, .ref s3, .ref s4, .ref s5, .ref s6, .ref s7, .ref s8, .ref s9, .ref m0])), (b, aI d 20 f), (c, aI d 20 f)] rfl rfl rfl rfl rfl rfl rfl kw_4_74 kw_3_21 kw_3_20 kw_1_15 ⟨nb rfl, nb rfl⟩ ?_
  exact y_vret (()) hC hQ (trivial) rfl (nb rfl) (nb rfl) dX5_copy_9
set_option maxHeartbeats 4000000 in
set_option maxRecDepth 100000 in
theorem c_X5_become (l : Launch) (d : yyD) (s0 : Nat) (s1 : Nat) (s2 : Nat) (s3 : Nat) (s4 : Nat) (s5 : Nat) (s6 : Nat) (s7 : Nat) (s8 : Nat) (s9 : Nat) (zs0 : Nat) (zs1 : Nat) (zs2 : Nat) (zs3 : Nat) (zs4 : Nat) (zs5 : Nat) (zs6 : Nat) (zs7 : Nat) (zs8 : Nat) (zs9 : Nat) (vi : fI) (lt : fI) (la : fI) (su : fI) (kp : fI) (pw : fI) (sh : fI) (cp : fI) (ha : fI) (h : Nat) (co : Int32) (zvi : fI) (zlt : fI) (zla : fI) (zsu : fI) (zkp : fI) (zpw : fI) (zsh : fI) (zcp : fI) (zha : fI) (zh : Nat) (zco : Int32) (m0 : Nat)  : yyV (S := Unit) l yX5_become cX5_become 2 { frames := 2, cells := 0, slots := 0, locals := 40 } d [.ref s0, .ref zs0] [(s0, .inr (5, [.int (nI h), .int co, .ref s1, .ref s2, .ref s3, .ref s4, .ref s5, .ref s6, .ref s7, .ref s8, .ref s9, .ref m0])), (s1, aI d 10 vi), (s2, aI d 10 lt), (s3, aI d 10 la), (s4, aI d 10 su), (s5, aI d 6 kp), (s6, aI d 6 pw), (s7, aI d 6 sh), (s8, aI d 20 cp), (s9, aI d 20 ha), (zs0, .inr (5, [.int (nI zh), .int zco, .ref zs1, .ref zs2, .ref zs3, .ref zs4, .ref zs5, .ref zs6, .ref zs7, .ref zs8, .ref zs9, .ref m0])), (zs1, aI d 10 zvi), (zs2, aI d 10 zlt), (zs3, aI d 10 zla), (zs4, aI d 10 zsu), (zs5, aI d 6 zkp), (zs6, aI d 6 zpw), (zs7, aI d 6 zsh), (zs8, aI d 20 zcp), (zs9, aI d 20 zha)] (fun _ => True) (fun _ => [(s0, .inr (5, [.int (nI zh), .int zco, .ref s1, .ref s2, .ref s3, .ref s4, .ref s5, .ref s6, .ref s7, .ref s8, .ref s9, .ref m0])), (s1, aI d 10 zvi), (s2, aI d 10 zlt), (s3, aI d 10 zla), (s4, aI d 10 zsu), (s5, aI d 6 zkp), (s6, aI d 6 zpw), (s7, aI d 6 zsh), (s8, aI d 20 zcp), (s9, aI d 20 zha), (zs0, .inr (5, [.int (nI zh), .int zco, .ref zs1, .ref zs2, .ref zs3, .ref zs4, .ref zs5, .ref zs6, .ref zs7, .ref zs8, .ref zs9, .ref m0])), (zs1, aI d 10 zvi), (zs2, aI d 10 zlt), (zs3, aI d 10 zla), (zs4, aI d 10 zsu), (zs5, aI d 6 zkp), (zs6, aI d 6 zpw), (zs7, aI d 6 zsh), (zs8, aI d 20 zcp), (zs9, aI d 20 zha)]) := by
  refine yyV_of (own := RX5) [(0, .ref s0), (1, .ref zs0)] (by decide +kernel) rfl (Nat.le_of_ble_eq_true rfl) rfl ?_
  intro G Q hQ hGL hC hGA hin
  refine y_aload_n (pc := 0) hC 0 dX5_become_0 rfl ?_
  refine y_aload_n (pc := 1) hC 1 dX5_become_1 rfl ?_
  refine y_get (pc := 2) hC 10 0 dX5_become_2 rfl rfl inX5 (by decide) kw_3_78 rfl rfl ?_
  refine y_put (pc := 5) hC 0 0 .int dX5_become_5 tyX5 [(s0, .inr (5, [.int (nI zh), .int co, .ref s1, .ref s2, .ref s3, .ref s4, .ref s5, .ref s6, .ref s7, .ref s8, .ref s9, .ref m0])), (s1, aI d 10 vi), (s2, aI d 10 lt), (s3, aI d 10 la), (s4, aI d 10 su), (s5, aI d 6 kp), (s6, aI d 6 pw), (s7, aI d 6 sh), (s8, aI d 20 cp), (s9, aI d 20 ha), (zs0, .inr (5, [.int (nI zh), .int zco, .ref zs1, .ref zs2, .ref zs3, .ref zs4, .ref zs5, .ref zs6, .ref zs7, .ref zs8, .ref zs9, .ref m0])), (zs1, aI d 10 zvi), (zs2, aI d 10 zlt), (zs3, aI d 10 zla), (zs4, aI d 10 zsu), (zs5, aI d 6 zkp), (zs6, aI d 6 zpw), (zs7, aI d 6 zsh), (zs8, aI d 20 zcp), (zs9, aI d 20 zha)] rfl rfl rfl inX5 tyX5_ok nmX5 (by decide) kw_3_78 rfl rfl (by decide +kernel) rfl rfl (Nat.le_of_ble_eq_true rfl) ?_
  refine y_aload_n (pc := 8) hC 0 dX5_become_8 rfl ?_
  refine y_aload_n (pc := 9) hC 1 dX5_become_9 rfl ?_
  refine y_get (pc := 10) hC 10 1 dX5_become_10 rfl rfl inX5 (by decide) kw_3_79 rfl rfl ?_
  refine y_put (pc := 13) hC 0 1 .int dX5_become_13 tyX5 [(s0, .inr (5, [.int (nI zh), .int zco, .ref s1, .ref s2, .ref s3, .ref s4, .ref s5, .ref s6, .ref s7, .ref s8, .ref s9, .ref m0])), (s1, aI d 10 vi), (s2, aI d 10 lt), (s3, aI d 10 la), (s4, aI d 10 su), (s5, aI d 6 kp), (s6, aI d 6 pw), (s7, aI d 6 sh), (s8, aI d 20 cp), (s9, aI d 20 ha), (zs0, .inr (5, [.int (nI zh), .int zco, .ref zs1, .ref zs2, .ref zs3, .ref zs4, .ref zs5, .ref zs6, .ref zs7, .ref zs8, .ref zs9, .ref m0])), (zs1, aI d 10 zvi), (zs2, aI d 10 zlt), (zs3, aI d 10 zla), (zs4, aI d 10 zsu), (zs5, aI d 6 zkp), (zs6, aI d 6 zpw), (zs7, aI d 6 zsh), (zs8, aI d 20 zcp), (zs9, aI d 20 zha)] rfl rfl rfl inX5 tyX5_ok nmX5 (by decide) kw_3_79 rfl rfl (by decide +kernel) rfl rfl (Nat.le_of_ble_eq_true rfl) ?_
  refine y_aload_n (pc := 16) hC 0 dX5_become_16 rfl ?_
  refine y_aload_n (pc := 17) hC 1 dX5_become_17 rfl ?_
  refine y_get (pc := 18) hC 10 2 dX5_become_18 rfl rfl inX5 (by decide) kw_3_81 rfl rfl ?_
  refine y_aload_n (pc := 21) hC 0 dX5_become_21 rfl ?_
  refine y_get (pc := 22) hC 0 2 dX5_become_22 rfl rfl inX5 (by decide) kw_3_81 rfl rfl ?_
  refine y_cV (pc := 25) (As := [.ref zs1, .ref s1]) (st := []) hC (c_X5_copy10 (gL G) d s0 s1 s2 s3 s4 s5 s6 s7 s8 s9 zh zco m0 zs1 s1 zvi vi) kw_4_73 kw_4_70 kw_4_72 kw_s18 kw_1_7 n_X5_copy10 ⟨⟨nb rfl, nb rfl⟩, ⟨nb rfl, nb rfl⟩, nb rfl⟩ [0, 11, 1] [2, 3, 4, 5, 6, 7, 8, 9, 10, 12, 13, 14, 15, 16, 17, 18, 19] [17, 19, 0, 1, 2, 3, 4, 5, 6, 7, 8, 18, 9, 10, 11, 12, 13, 14, 15, 16] 0 [(s2, aI d 10 lt), (s3, aI d 10 la), (s4, aI d 10 su), (s5, aI d 6 kp), (s6, aI d 6 pw), (s7, aI d 6 sh), (s8, aI d 20 cp), (s9, aI d 20 ha), (zs0, .inr (5, [.int (nI zh), .int zco, .ref zs1, .ref zs2, .ref zs3, .ref zs4, .ref zs5, .ref zs6, .ref zs7, .ref zs8, .ref zs9, .ref m0])), (zs2, aI d 10 zlt), (zs3, aI d 10 zla), (zs4, aI d 10 zsu), (zs5, aI d 6 zkp), (zs6, aI d 6 zpw), (zs7, aI d 6 zsh), (zs8, aI d 20 zcp), (zs9, aI d 20 zha)] (fun _ => [(s0, .inr (5, [.int (nI zh), .int zco, .ref s1, .ref s2, .ref s3, .ref s4, .ref s5, .ref s6, .ref s7, .ref s8, .ref s9, .ref m0])), (s1, aI d 10 zvi), (s2, aI d 10 lt), (s3, aI d 10 la), (s4, aI d 10 su), (s5, aI d 6 kp), (s6, aI d 6 pw), (s7, aI d 6 sh), (s8, aI d 20 cp), (s9, aI d 20 ha), (zs0, .inr (5, [.int (nI zh), .int zco, .ref zs1, .ref zs2, .ref zs3, .ref zs4, .ref zs5, .ref zs6, .ref zs7, .ref zs8, .ref zs9, .ref m0])), (zs1, aI d 10 zvi), (zs2, aI d 10 zlt), (zs3, aI d 10 zla), (zs4, aI d 10 zsu), (zs5, aI d 6 zkp), (zs6, aI d 6 zpw), (zs7, aI d 6 zsh), (zs8, aI d 20 zcp), (zs9, aI d 20 zha)]) rfl rfl ⟨rfl, by decide, rfl, by decide, by decide⟩ (fun _ => ⟨rfl, by decide⟩) rfl dX5_become_25 ?_
  intro _ _
  refine y_aload_n (pc := 28) hC 0 dX5_become_28 rfl ?_
  refine y_aload_n (pc := 29) hC 1 dX5_become_29 rfl ?_
  refine y_get (pc := 30) hC 10 3 dX5_become_30 rfl rfl inX5 (by decide) kw_3_83 rfl rfl ?_
  refine y_aload_n (pc := 33) hC 0 dX5_become_33 rfl ?_
  refine y_get (pc := 34) hC 0 3 dX5_become_34 rfl rfl inX5 (by decide) kw_3_83 rfl rfl ?_
  refine y_cV (pc := 37) (As := [.ref zs2, .ref s2]) (st := []) hC (c_X5_copy10 (gL G) d s0 s1 s2 s3 s4 s5 s6 s7 s8 s9 zh zco m0 zs2 s2 zlt lt) kw_4_73 kw_4_70 kw_4_72 kw_s18 kw_1_7 n_X5_copy10 ⟨⟨nb rfl, nb rfl⟩, ⟨nb rfl, nb rfl⟩, nb rfl⟩ [0, 12, 2] [1, 3, 4, 5, 6, 7, 8, 9, 10, 11, 13, 14, 15, 16, 17, 18, 19] [17, 0, 19, 1, 2, 3, 4, 5, 6, 7, 8, 9, 18, 10, 11, 12, 13, 14, 15, 16] 0 [(s1, aI d 10 zvi), (s3, aI d 10 la), (s4, aI d 10 su), (s5, aI d 6 kp), (s6, aI d 6 pw), (s7, aI d 6 sh), (s8, aI d 20 cp), (s9, aI d 20 ha), (zs0, .inr (5, [.int (nI zh), .int zco, .ref zs1, .ref zs2, .ref zs3, .ref zs4, .ref zs5, .ref zs6, .ref zs7, .ref zs8, .ref zs9, .ref m0])), (zs1, aI d 10 zvi), (zs3, aI d 10 zla), (zs4, aI d 10 zsu), (zs5, aI d 6 zkp), (zs6, aI d 6 zpw), (zs7, aI d 6 zsh), (zs8, aI d 20 zcp), (zs9, aI d 20 zha)] (fun _ => [(s0, .inr (5, [.int (nI zh), .int zco, .ref s1, .ref s2, .ref s3, .ref s4, .ref s5, .ref s6, .ref s7, .ref s8, .ref s9, .ref m0])), (s1, aI d 10 zvi), (s2, aI d 10 zlt), (s3, aI d 10 la), (s4, aI d 10 su), (s5, aI d 6 kp), (s6, aI d 6 pw), (s7, aI d 6 sh), (s8, aI d 20 cp), (s9, aI d 20 ha), (zs0, .inr (5, [.int (nI zh), .int zco, .ref zs1, .ref zs2, .ref zs3, .ref zs4, .ref zs5, .ref zs6, .ref zs7, .ref zs8, .ref zs9, .ref m0])), (zs1, aI d 10 zvi), (zs2, aI d 10 zlt), (zs3, aI d 10 zla), (zs4, aI d 10 zsu), (zs5, aI d 6 zkp), (zs6, aI d 6 zpw), (zs7, aI d 6 zsh), (zs8, aI d 20 zcp), (zs9, aI d 20 zha)]) rfl rfl ⟨rfl, by decide, rfl, by decide, by decide⟩ (fun _ => ⟨rfl, by decide⟩) rfl dX5_become_37 ?_
  intro _ _
  refine y_aload_n (pc := 40) hC 0 dX5_become_40 rfl ?_
  refine y_aload_n (pc := 41) hC 1 dX5_become_41 rfl ?_
  refine y_get (pc := 42) hC 10 4 dX5_become_42 rfl rfl inX5 (by decide) kw_3_85 rfl rfl ?_
  refine y_aload_n (pc := 45) hC 0 dX5_become_45 rfl ?_
  refine y_get (pc := 46) hC 0 4 dX5_become_46 rfl rfl inX5 (by decide) kw_3_85 rfl rfl ?_
  refine y_cV (pc := 49) (As := [.ref zs3, .ref s3]) (st := []) hC (c_X5_copy10 (gL G) d s0 s1 s2 s3 s4 s5 s6 s7 s8 s9 zh zco m0 zs3 s3 zla la) kw_4_73 kw_4_70 kw_4_72 kw_s18 kw_1_7 n_X5_copy10 ⟨⟨nb rfl, nb rfl⟩, ⟨nb rfl, nb rfl⟩, nb rfl⟩ [0, 13, 3] [1, 2, 4, 5, 6, 7, 8, 9, 10, 11, 12, 14, 15, 16, 17, 18, 19] [17, 0, 1, 19, 2, 3, 4, 5, 6, 7, 8, 9, 10, 18, 11, 12, 13, 14, 15, 16] 0 [(s1, aI d 10 zvi), (s2, aI d 10 zlt), (s4, aI d 10 su), (s5, aI d 6 kp), (s6, aI d 6 pw), (s7, aI d 6 sh), (s8, aI d 20 cp), (s9, aI d 20 ha), (zs0, .inr (5, [.int (nI zh), .int zco, .ref zs1, .ref zs2, .ref zs3, .ref zs4, .ref zs5, .ref zs6, .ref zs7, .ref zs8, .ref zs9, .ref m0])), (zs1, aI d 10 zvi), (zs2, aI d 10 zlt), (zs4, aI d 10 zsu), (zs5, aI d 6 zkp), (zs6, aI d 6 zpw), (zs7, aI d 6 zsh), (zs8, aI d 20 zcp), (zs9, aI d 20 zha)] (fun _ => [(s0, .inr (5, [.int (nI zh), .int zco, .ref s1, .ref s2, .ref s3, .ref s4, .ref s5, .ref s6, .ref s7, .ref s8, .ref s9, .ref m0])), (s1, aI d 10 zvi), (s2, aI d 10 zlt), (s3, aI d 10 zla), (s4, aI d 10 su), (s5, aI d 6 kp), (s6, aI d 6 pw), (s7, aI d 6 sh), (s8, aI d 20 cp), (s9, aI d 20 ha), (zs0, .inr (5, [.int (nI zh), .int zco, .ref zs1, .ref zs2, .ref zs3, .ref zs4, .ref zs5, .ref zs6, .ref zs7, .ref zs8, .ref zs9, .ref m0])), (zs1, aI d 10 zvi), (zs2, aI d 10 zlt), (zs3, aI d 10 zla), (zs4, aI d 10 zsu), (zs5, aI d 6 zkp), (zs6, aI d 6 zpw), (zs7, aI d 6 zsh), (zs8, aI d 20 zcp), (zs9, aI d 20 zha)]) rfl rfl ⟨rfl, by decide, rfl, by decide, by decide⟩ (fun _ => ⟨rfl, by decide⟩) rfl dX5_become_49 ?_
  intro _ _
  refine y_aload_n (pc := 52) hC 0 dX5_become_52 rfl ?_
  refine y_aload_n (pc := 53) hC 1 dX5_become_53 rfl ?_
  refine y_get (pc := 54) hC 10 5 dX5_become_54 rfl rfl inX5 (by decide) kw_3_87 rfl rfl ?_
  refine y_aload_n (pc := 57) hC 0 dX5_become_57 rfl ?_
  refine y_get (pc := 58) hC 0 5 dX5_become_58 rfl rfl inX5 (by decide) kw_3_87 rfl rfl ?_
  refine y_cV (pc := 61) (As := [.ref zs4, .ref s4]) (st := []) hC (c_X5_copy10 (gL G) d s0 s1 s2 s3 s4 s5 s6 s7 s8 s9 zh zco m0 zs4 s4 zsu su) kw_4_73 kw_4_70 kw_4_72 kw_s18 kw_1_7 n_X5_copy10 ⟨⟨nb rfl, nb rfl⟩, ⟨nb rfl, nb rfl⟩, nb rfl⟩ [0, 14, 4] [1, 2, 3, 5, 6, 7, 8, 9, 10, 11, 12, 13, 15, 16, 17, 18, 19] [17, 0, 1, 2, 19, 3, 4, 5, 6, 7, 8, 9, 10, 11, 18, 12, 13, 14, 15, 16] 0 [(s1, aI d 10 zvi), (s2, aI d 10 zlt), (s3, aI d 10 zla), (s5, aI d 6 kp), (s6, aI d 6 pw), (s7, aI d 6 sh), (s8, aI d 20 cp), (s9, aI d 20 ha), (zs0, .inr (5, [.int (nI zh), .int zco, .ref zs1, .ref zs2, .ref zs3, .ref zs4, .ref zs5, .ref zs6, .ref zs7, .ref zs8, .ref zs9, .ref m0])), (zs1, aI d 10 zvi), (zs2, aI d 10 zlt), (zs3, aI d 10 zla), (zs5, aI d 6 zkp), (zs6, aI d 6 zpw), (zs7, aI d 6 zsh), (zs8, aI d 20 zcp), (zs9, aI d 20 zha)] (fun _ => [(s0, .inr (5, [.int (nI zh), .int zco, .ref s1, .ref s2, .ref s3, .ref s4, .ref s5, .ref s6, .ref s7, .ref s8, .ref s9, .ref m0])), (s1, aI d 10 zvi), (s2, aI d 10 zlt), (s3, aI d 10 zla), (s4, aI d 10 zsu), (s5, aI d 6 kp), (s6, aI d 6 pw), (s7, aI d 6 sh), (s8, aI d 20 cp), (s9, aI d 20 ha), (zs0, .inr (5, [.int (nI zh), .int zco, .ref zs1, .ref zs2, .ref zs3, .ref zs4, .ref zs5, .ref zs6, .ref zs7, .ref zs8, .ref zs9, .ref m0])), (zs1, aI d 10 zvi), (zs2, aI d 10 zlt), (zs3, aI d 10 zla), (zs4, aI d 10 zsu), (zs5, aI d 6 zkp), (zs6, aI d 6 zpw), (zs7, aI d 6 zsh), (zs8, aI d 20 zcp), (zs9, aI d 20 zha)]) rfl rfl ⟨rfl, by decide, rfl, by decide, by decide⟩ (fun _ => ⟨rfl, by decide⟩) rfl dX5_become_61 ?_
  intro _ _
  refine y_aload_n (pc := 64) hC 0 dX5_become_64 rfl ?_
  refine y_aload_n (pc := 65) hC 1 dX5_become_65 rfl ?_
  refine y_get (pc := 66) hC 10 6 dX5_become_66 rfl rfl inX5 (by decide) kw_3_89 rfl rfl ?_
  refine y_aload_n (pc := 69) hC 0 dX5_become_69 rfl ?_
  refine y_get (pc := 70) hC 0 6 dX5_become_70 rfl rfl inX5 (by decide) kw_3_89 rfl rfl ?_
  refine y_cV (pc := 73) (As := [.ref zs5, .ref s5]) (st := []) hC (c_X5_copy6 (gL G) d s0 s1 s2 s3 s4 s5 s6 s7 s8 s9 zh zco m0 zs5 s5 zkp kp) kw_4_73 kw_4_70 kw_4_72 kw_s18 kw_1_7 n_X5_copy10 ⟨⟨nb rfl, nb rfl⟩, ⟨nb rfl, nb rfl⟩, nb rfl⟩ [0, 15, 5] [1, 2, 3, 4, 6, 7, 8, 9, 10, 11, 12, 13, 14, 16, 17, 18, 19] [17, 0, 1, 2, 3, 19, 4, 5, 6, 7, 8, 9, 10, 11, 12, 18, 13, 14, 15, 16] 0 [(s1, aI d 10 zvi), (s2, aI d 10 zlt), (s3, aI d 10 zla), (s4, aI d 10 zsu), (s6, aI d 6 pw), (s7, aI d 6 sh), (s8, aI d 20 cp), (s9, aI d 20 ha), (zs0, .inr (5, [.int (nI zh), .int zco, .ref zs1, .ref zs2, .ref zs3, .ref zs4, .ref zs5, .ref zs6, .ref zs7, .ref zs8, .ref zs9, .ref m0])), (zs1, aI d 10 zvi), (zs2, aI d 10 zlt), (zs3, aI d 10 zla), (zs4, aI d 10 zsu), (zs6, aI d 6 zpw), (zs7, aI d 6 zsh), (zs8, aI d 20 zcp), (zs9, aI d 20 zha)] (fun _ => [(s0, .inr (5, [.int (nI zh), .int zco, .ref s1, .ref s2, .ref s3, .ref s4, .ref s5, .ref s6, .ref s7, .ref s8, .ref s9, .ref m0])), (s1, aI d 10 zvi), (s2, aI d 10 zlt), (s3, aI d 10 zla), (s4, aI d 10 zsu), (s5, aI d 6 zkp), (s6, aI d 6 pw), (s7, aI d 6 sh), (s8, aI d 20 cp), (s9, aI d 20 ha), (zs0, .inr (5, [.int (nI zh), .int zco, .ref zs1, .ref zs2, .ref zs3, .ref zs4, .ref zs5, .ref zs6, .ref zs7, .ref zs8, .ref zs9, .ref m0])), (zs1, aI d 10 zvi), (zs2, aI d 10 zlt), (zs3, aI d 10 zla), (zs4, aI d 10 zsu), (zs5, aI d 6 zkp), (zs6, aI d 6 zpw), (zs7, aI d 6 zsh), (zs8, aI d 20 zcp), (zs9, aI d 20 zha)]) rfl rfl ⟨rfl, by decide, rfl, by decide, by decide⟩ (fun _ => ⟨rfl, by decide⟩) rfl dX5_become_73 ?_
  intro _ _
  refine y_aload_n (pc := 76) hC 0 dX5_become_76 rfl ?_
  refine y_aload_n (pc := 77) hC 1 dX5_become_77 rfl ?_
  refine y_get (pc := 78) hC 10 7 dX5_become_78 rfl rfl inX5 (by decide) kw_3_91 rfl rfl ?_
  refine y_aload_n (pc := 81) hC 0 dX5_become_81 rfl ?_
  refine y_get (pc := 82) hC 0 7 dX5_become_82 rfl rfl inX5 (by decide) kw_3_91 rfl rfl ?_
  refine y_cV (pc := 85) (As := [.ref zs6, .ref s6]) (st := []) hC (c_X5_copy6 (gL G) d s0 s1 s2 s3 s4 s5 s6 s7 s8 s9 zh zco m0 zs6 s6 zpw pw) kw_4_73 kw_4_70 kw_4_72 kw_s18 kw_1_7 n_X5_copy10 ⟨⟨nb rfl, nb rfl⟩, ⟨nb rfl, nb rfl⟩, nb rfl⟩ [0, 16, 6] [1, 2, 3, 4, 5, 7, 8, 9, 10, 11, 12, 13, 14, 15, 17, 18, 19] [17, 0, 1, 2, 3, 4, 19, 5, 6, 7, 8, 9, 10, 11, 12, 13, 18, 14, 15, 16] 0 [(s1, aI d 10 zvi), (s2, aI d 10 zlt), (s3, aI d 10 zla), (s4, aI d 10 zsu), (s5, aI d 6 zkp), (s7, aI d 6 sh), (s8, aI d 20 cp), (s9, aI d 20 ha), (zs0, .inr (5, [.int (nI zh), .int zco, .ref zs1, .ref zs2, .ref zs3, .ref zs4, .ref zs5, .ref zs6, .ref zs7, .ref zs8, .ref zs9, .ref m0])), (zs1, aI d 10 zvi), (zs2, aI d 10 zlt), (zs3, aI d 10 zla), (zs4, aI d 10 zsu), (zs5, aI d 6 zkp), (zs7, aI d 6 zsh), (zs8, aI d 20 zcp), (zs9, aI d 20 zha)] (fun _ => [(s0, .inr (5, [.int (nI zh), .int zco, .ref s1, .ref s2, .ref s3, .ref s4, .ref s5, .ref s6, .ref s7, .ref s8, .ref s9, .ref m0])), (s1, aI d 10 zvi), (s2, aI d 10 zlt), (s3, aI d 10 zla), (s4, aI d 10 zsu), (s5, aI d 6 zkp), (s6, aI d 6 zpw), (s7, aI d 6 sh), (s8, aI d 20 cp), (s9, aI d 20 ha), (zs0, .inr (5, [.int (nI zh), .int zco, .ref zs1, .ref zs2, .ref zs3, .ref zs4, .ref zs5, .ref zs6, .ref zs7, .ref zs8, .ref zs9, .ref m0])), (zs1, aI d 10 zvi), (zs2, aI d 10 zlt), (zs3, aI d 10 zla), (zs4, aI d 10 zsu), (zs5, aI d 6 zkp), (zs6, aI d 6 zpw), (zs7, aI d 6 zsh), (zs8, aI d 20 zcp), (zs9, aI d 20 zha)]) rfl rfl ⟨rfl, by decide, rfl, by decide, by decide⟩ (fun _ => ⟨rfl, by decide⟩) rfl dX5_become_85 ?_
  intro _ _
  refine y_aload_n (pc := 88) hC 0 dX5_become_88 rfl ?_
  refine y_aload_n (pc := 89) hC 1 dX5_become_89 rfl ?_
  refine y_get (pc := 90) hC 10 8 dX5_become_90 rfl rfl inX5 (by decide) kw_3_93 rfl rfl ?_
  refine y_aload_n (pc := 93) hC 0 dX5_become_93 rfl ?_
  refine y_get (pc := 94) hC 0 8 dX5_become_94 rfl rfl inX5 (by decide) kw_3_93 rfl rfl ?_
  refine y_cV (pc := 97) (As := [.ref zs7, .ref s7]) (st := []) hC (c_X5_copy6 (gL G) d s0 s1 s2 s3 s4 s5 s6 s7 s8 s9 zh zco m0 zs7 s7 zsh sh) kw_4_73 kw_4_70 kw_4_72 kw_s18 kw_1_7 n_X5_copy10 ⟨⟨nb rfl, nb rfl⟩, ⟨nb rfl, nb rfl⟩, nb rfl⟩ [0, 17, 7] [1, 2, 3, 4, 5, 6, 8, 9, 10, 11, 12, 13, 14, 15, 16, 18, 19] [17, 0, 1, 2, 3, 4, 5, 19, 6, 7, 8, 9, 10, 11, 12, 13, 14, 18, 15, 16] 0 [(s1, aI d 10 zvi), (s2, aI d 10 zlt), (s3, aI d 10 zla), (s4, aI d 10 zsu), (s5, aI d 6 zkp), (s6, aI d 6 zpw), (s8, aI d 20 cp), (s9, aI d 20 ha), (zs0, .inr (5, [.int (nI zh), .int zco, .ref zs1, .ref zs2, .ref zs3, .ref zs4, .ref zs5, .ref zs6, .ref zs7, .ref zs8, .ref zs9, .ref m0])), (zs1, aI d 10 zvi), (zs2, aI d 10 zlt), (zs3, aI d 10 zla), (zs4, aI d 10 zsu), (zs5, aI d 6 zkp), (zs6, aI d 6 zpw), (zs8, aI d 20 zcp), (zs9, aI d 20 zha)] (fun _ => [(s0, .inr (5, [.int (nI zh), .int zco, .ref s1, .ref s2, .ref s3, .ref s4, .ref s5, .ref s6, .ref s7, .ref s8, .ref s9, .ref m0])), (s1, aI d 10 zvi), (s2, aI d 10 zlt), (s3, aI d 10 zla), (s4, aI d 10 zsu), (s5, aI d 6 zkp), (s6, aI d 6 zpw), (s7, aI d 6 zsh), (s8, aI d 20 cp), (s9, aI d 20 ha), (zs0, .inr (5, [.int (nI zh), .int zco, .ref zs1, .ref zs2, .ref zs3, .ref zs4, .ref zs5, .ref zs6, .ref zs7, .ref zs8, .ref zs9, .ref m0])), (zs1, aI d 10 zvi), (zs2, aI d 10 zlt), (zs3, aI d 10 zla), (zs4, aI d 10 zsu), (zs5, aI d 6 zkp), (zs6, aI d 6 zpw), (zs7, aI d 6 zsh), (zs8, aI d 20 zcp), (zs9, aI d 20 zha)]) rfl rfl ⟨rfl, by decide, rfl, by decide, by decide⟩ (fun _ => ⟨rfl, by decide⟩) rfl dX5_become_97 ?_
  intro _ _
  refine y_aload_n (pc := 100) hC 0 dX5_become_100 rfl ?_
  refine y_aload_n (pc := 101) hC 1 dX5_become_101 rfl ?_
  refine y_get (pc := 102) hC 10 9 dX5_become_102 rfl rfl inX5 (by decide) kw_3_95 rfl rfl ?_
  refine y_aload_n (pc := 105) hC 0 dX5_become_105 rfl ?_
  refine y_get (pc := 106) hC 0 9 dX5_become_106 rfl rfl inX5 (by decide) kw_3_95 rfl rfl ?_
  refine y_cV (pc := 109) (As := [.ref zs8, .ref s8]) (st := []) hC (c_X5_copy20 (gL G) d s0 s1 s2 s3 s4 s5 s6 s7 s8 s9 zh zco m0 zs8 s8 zcp cp) kw_4_73 kw_4_70 kw_4_72 kw_s18 kw_1_7 n_X5_copy10 ⟨⟨nb rfl, nb rfl⟩, ⟨nb rfl, nb rfl⟩, nb rfl⟩ [0, 18, 8] [1, 2, 3, 4, 5, 6, 7, 9, 10, 11, 12, 13, 14, 15, 16, 17, 19] [17, 0, 1, 2, 3, 4, 5, 6, 19, 7, 8, 9, 10, 11, 12, 13, 14, 15, 18, 16] 0 [(s1, aI d 10 zvi), (s2, aI d 10 zlt), (s3, aI d 10 zla), (s4, aI d 10 zsu), (s5, aI d 6 zkp), (s6, aI d 6 zpw), (s7, aI d 6 zsh), (s9, aI d 20 ha), (zs0, .inr (5, [.int (nI zh), .int zco, .ref zs1, .ref zs2, .ref zs3, .ref zs4, .ref zs5, .ref zs6, .ref zs7, .ref zs8, .ref zs9, .ref m0])), (zs1, aI d 10 zvi), (zs2, aI d 10 zlt), (zs3, aI d 10 zla), (zs4, aI d 10 zsu), (zs5, aI d 6 zkp), (zs6, aI d 6 zpw), (zs7, aI d 6 zsh), (zs9, aI d 20 zha)] (fun _ => [(s0, .inr (5, [.int (nI zh), .int zco, .ref s1, .ref s2, .ref s3, .ref s4, .ref s5, .ref s6, .ref s7, .ref s8, .ref s9, .ref m0])), (s1, aI d 10 zvi), (s2, aI d 10 zlt), (s3, aI d 10 zla), (s4, aI d 10 zsu), (s5, aI d 6 zkp), (s6, aI d 6 zpw), (s7, aI d 6 zsh), (s8, aI d 20 zcp), (s9, aI d 20 ha), (zs0, .inr (5, [.int (nI zh), .int zco, .ref zs1, .ref zs2, .ref zs3, .ref zs4, .ref zs5, .ref zs6, .ref zs7, .ref zs8, .ref zs9, .ref m0])), (zs1, aI d 10 zvi), (zs2, aI d 10 zlt), (zs3, aI d 10 zla), (zs4, aI d 10 zsu), (zs5, aI d 6 zkp), (zs6, aI d 6 zpw), (zs7, aI d 6 zsh), (zs8, aI d 20 zcp), (zs9, aI d 20 zha)]) rfl rfl ⟨rfl, by decide, rfl, by decide, by decide⟩ (fun _ => ⟨rfl, by decide⟩) rfl dX5_become_109 ?_
  intro _ _
  refine y_aload_n (pc := 112) hC 0 dX5_become_112 rfl ?_
  refine y_aload_n (pc := 113) hC 1 dX5_become_113 rfl ?_
  refine y_get (pc := 114) hC 10 10 dX5_become_114 rfl rfl inX5 (by decide) kw_3_97 rfl rfl ?_
  refine y_aload_n (pc := 117) hC 0 dX5_become_117 rfl ?_
  refine y_get (pc := 118) hC 0 10 dX5_become_118 rfl rfl inX5 (by decide) kw_3_97 rfl rfl ?_
  refine y_cV (pc := 121) (As := [.ref zs9, .ref s9]) (st := []) hC (c_X5_copy20 (gL G) d s0 s1 s2 s3 s4 s5 s6 s7 s8 s9 zh zco m0 zs9 s9 zha ha) kw_4_73 kw_4_70 kw_4_72 kw_s18 kw_1_7 n_X5_copy10 ⟨⟨nb rfl, nb rfl⟩, ⟨nb rfl, nb rfl⟩, nb rfl⟩ [0, 19, 9] [1, 2, 3, 4, 5, 6, 7, 8, 10, 11, 12, 13, 14, 15, 16, 17, 18] [17, 0, 1, 2, 3, 4, 5, 6, 7, 19, 8, 9, 10, 11, 12, 13, 14, 15, 16, 18] 0 [(s1, aI d 10 zvi), (s2, aI d 10 zlt), (s3, aI d 10 zla), (s4, aI d 10 zsu), (s5, aI d 6 zkp), (s6, aI d 6 zpw), (s7, aI d 6 zsh), (s8, aI d 20 zcp), (zs0, .inr (5, [.int (nI zh), .int zco, .ref zs1, .ref zs2, .ref zs3, .ref zs4, .ref zs5, .ref zs6, .ref zs7, .ref zs8, .ref zs9, .ref m0])), (zs1, aI d 10 zvi), (zs2, aI d 10 zlt), (zs3, aI d 10 zla), (zs4, aI d 10 zsu), (zs5, aI d 6 zkp), (zs6, aI d 6 zpw), (zs7, aI d 6 zsh), (zs8, aI d 20 zcp)] (fun _ => [(s0, .inr (5, [.int (nI zh), .int zco, .ref s1, .ref s2, .ref s3, .ref s4, .ref s5, .ref s6, .ref s7, .ref s8, .ref s9, .ref m0])), (s1, aI d 10 zvi), (s2, aI d 10 zlt), (s3, aI d 10 zla), (s4, aI d 10 zsu), (s5, aI d 6 zkp), (s6, aI d 6 zpw), (s7, aI d 6 zsh), (s8, aI d 20 zcp), (s9, aI d 20 zha), (zs0, .inr (5, [.int (nI zh), .int zco, .ref zs1, .ref zs2, .ref zs3, .ref zs4, .ref zs5, .ref zs6, .ref zs7, .ref zs8, .ref zs9, .ref m0])), (zs1, aI d 10 zvi), (zs2, aI d 10 zlt), (zs3, aI d 10 zla), (zs4, aI d 10 zsu), (zs5, aI d 6 zkp), (zs6, aI d 6 zpw), (zs7, aI d 6 zsh), (zs8, aI d 20 zcp), (zs9, aI d 20 zha)]) rfl rfl ⟨rfl, by decide, rfl, by decide, by decide⟩ (fun _ => ⟨rfl, by decide⟩) rfl dX5_become_121 ?_
  intro _ _
  exact y_vret (()) hC hQ (trivial) rfl (nb rfl) (nb rfl) dX5_become_124
theorem n_X5_become : yyN yX5_become RX5 1 := by refine ⟨rfl, ?_, ?_, ?_⟩ <;> decide +kernel
set_option maxHeartbeats 4000000 in
set_option maxRecDepth 100000 in
theorem c_X5_losses (l : Launch) (d : yyD) (s0 : Nat) (s1 : Nat) (s2 : Nat) (s3 : Nat) (s4 : Nat) (s5 : Nat) (s6 : Nat) (s7 : Nat) (s8 : Nat) (s9 : Nat) (la : fI) (h : Nat) (co : Int32) (m0 : Nat) (m1 : Nat) (m2 : Nat) (m3 : Nat) (m4 : Nat) (m5 : Nat) (m6 : Nat) (qs : Nat) (qa : Nat) (th : Int32) (n : Nat) (nk : Nat) (nc : Nat) (hn : n ≤ 10) : yyI l yX5_losses cX5_losses 1 (some .int) { frames := 1, cells := 0, slots := 0, locals := 24 } d [.ref s0] [(s0, .inr (5, [.int (nI h), .int co, .ref s1, .ref s2, .ref s3, .ref s4, .ref s5, .ref s6, .ref s7, .ref s8, .ref s9, .ref m0])), (s3, aI d 10 la), (m0, .inr (6, [.int th, .int (nI n), .ref m1, .ref m2, .ref m3, .int (nI nk), .ref m4, .int (nI nc), .ref m5, .ref m6, .ref qs, .ref qa]))] [(s0, .inr (5, [.int (nI h), .int co, .ref s1, .ref s2, .ref s3, .ref s4, .ref s5, .ref s6, .ref s7, .ref s8, .ref s9, .ref m0])), (s3, aI d 10 la), (m0, .inr (6, [.int th, .int (nI n), .ref m1, .ref m2, .ref m3, .int (nI nk), .ref m4, .int (nI nc), .ref m5, .ref m6, .ref qs, .ref qa]))] (sumF la n) := by
  refine yyI_of (own := RX5) [(0, .ref s0)] (by decide +kernel) rfl (Nat.le_of_ble_eq_true rfl) rfl ?_
  intro G Q hQ hGL hC hGA
  refine y_aload_n (pc := 0) hC 0 dX5_losses_0 rfl ?_
  refine y_aload_n (pc := 1) hC 0 dX5_losses_1 rfl ?_
  refine y_get (pc := 2) hC 0 4 dX5_losses_2 rfl rfl inX5 (by decide) kw_3_85 rfl rfl ?_
  refine y_aload_n (pc := 5) hC 0 dX5_losses_5 rfl ?_
  refine y_get (pc := 6) hC 0 11 dX5_losses_6 rfl rfl inX5 (by decide) kw_3_99 rfl rfl ?_
  refine y_getN (pc := 9) hC 2 1 dX5_losses_9 rfl rfl inX6 (by decide) kn_12 rfl rfl ?_
  refine y_cI (pc := 12) (As := [.ref s3, .int (nI n)]) (st := []) hC (c_X5_sum10 (gL G) d s0 s1 s2 s3 s4 s5 s6 s7 s8 s9 h co m0 s3 la n (by omega)) kw_4_28 kw_4_25 kw_4_27 kw_s14 kw_1_7 n_X5_sum10 ⟨⟨nb rfl, nb rfl⟩, ⟨nb rfl, nb rfl⟩, nb rfl⟩ [0, 1] [2] [1, 2, 0] 0 [(m0, .inr (6, [.int th, .int (nI n), .ref m1, .ref m2, .ref m3, .int (nI nk), .ref m4, .int (nI nc), .ref m5, .ref m6, .ref qs, .ref qa]))] [(s0, .inr (5, [.int (nI h), .int co, .ref s1, .ref s2, .ref s3, .ref s4, .ref s5, .ref s6, .ref s7, .ref s8, .ref s9, .ref m0])), (s3, aI d 10 la), (m0, .inr (6, [.int th, .int (nI n), .ref m1, .ref m2, .ref m3, .int (nI nk), .ref m4, .int (nI nc), .ref m5, .ref m6, .ref qs, .ref qa]))] rfl rfl ⟨rfl, by decide, rfl, by decide, by decide⟩ ⟨rfl, by decide⟩ rfl dX5_losses_12 ?_
  exact y_iret hC hQ rfl rfl rfl (nb rfl) (nb rfl) dX5_losses_15
theorem n_X5_losses : yyN yX5_losses RX5 0 := by refine ⟨rfl, ?_, ?_, ?_⟩ <;> decide +kernel
set_option maxHeartbeats 4000000 in
set_option maxRecDepth 100000 in
/-- an hour of the reference -/
theorem c_X5_pass (l : Launch) (d : yyD) (s0 : Nat) (s1 : Nat) (s2 : Nat) (s3 : Nat) (s4 : Nat) (s5 : Nat) (s6 : Nat) (s7 : Nat) (s8 : Nat) (s9 : Nat) (vi : fI) (lt : fI) (la : fI) (su : fI) (kp : fI) (pw : fI) (sh : fI) (cp : fI) (ha : fI) (h : Nat) (co : Int32) (m0 : Nat) (m1 : Nat) (m2 : Nat) (m3 : Nat) (m4 : Nat) (m5 : Nat) (m6 : Nat) (qs : Nat) (qa : Nat) (pl : fI) (me : fB) (ins : fB) (rg : fI) (dr : fI) (wd : fI) (th : Int32) (n : Nat) (nk : Nat) (nc : Nat) (hn : n ≤ 10) (hk : nk ≤ 6) (hc : nc ≤ 20) (hh : h < 1000000) : yyV (S := Unit) l yX5_pass cX5_pass 2 { frames := 5, cells := 0, slots := 0, locals := 109 } d [.ref s0] [(s0, .inr (5, [.int (nI h), .int co, .ref s1, .ref s2, .ref s3, .ref s4, .ref s5, .ref s6, .ref s7, .ref s8, .ref s9, .ref m0])), (s1, aI d 10 vi), (s2, aI d 10 lt), (s3, aI d 10 la), (s4, aI d 10 su), (s5, aI d 6 kp), (s6, aI d 6 pw), (s7, aI d 6 sh), (s8, aI d 20 cp), (s9, aI d 20 ha), (m0, .inr (6, [.int th, .int (nI n), .ref m1, .ref m2, .ref m3, .int (nI nk), .ref m4, .int (nI nc), .ref m5, .ref m6, .ref qs, .ref qa])), (m1, aI d 10 pl), (m2, aI d 10 (biF me)), (m3, aI d 10 (biF ins)), (m4, aI d 6 rg), (m5, aI d 20 dr), (m6, aI d 6 wd)] (fun _ => True) (fun _ => [(s0, .inr (5, [.int (nI (h + 1)), .int ((rhourF (pl, me, ins, n, kp, rg, nk, dr, nc, wd) h (vi, lt, su, la, pw, sh, cp, ha, co)).2.2.2.2.2.2.2.2), .ref s1, .ref s2, .ref s3, .ref s4, .ref s5, .ref s6, .ref s7, .ref s8, .ref s9, .ref m0])), (s1, aI d 10 ((rhourF (pl, me, ins, n, kp, rg, nk, dr, nc, wd) h (vi, lt, su, la, pw, sh, cp, ha, co)).1)), (s2, aI d 10 ((rhourF (pl, me, ins, n, kp, rg, nk, dr, nc, wd) h (vi, lt, su, la, pw, sh, cp, ha, co)).2.1)), (s3, aI d 10 ((rhourF (pl, me, ins, n, kp, rg, nk, dr, nc, wd) h (vi, lt, su, la, pw, sh, cp, ha, co)).2.2.2.1)), (s4, aI d 10 ((rhourF (pl, me, ins, n, kp, rg, nk, dr, nc, wd) h (vi, lt, su, la, pw, sh, cp, ha, co)).2.2.1)), (s5, aI d 6 kp), (s6, aI d 6 ((rhourF (pl, me, ins, n, kp, rg, nk, dr, nc, wd) h (vi, lt, su, la, pw, sh, cp, ha, co)).2.2.2.2.1)), (s7, aI d 6 ((rhourF (pl, me, ins, n, kp, rg, nk, dr, nc, wd) h (vi, lt, su, la, pw, sh, cp, ha, co)).2.2.2.2.2.1)), (s8, aI d 20 ((rhourF (pl, me, ins, n, kp, rg, nk, dr, nc, wd) h (vi, lt, su, la, pw, sh, cp, ha, co)).2.2.2.2.2.2.1)), (s9, aI d 20 ((rhourF (pl, me, ins, n, kp, rg, nk, dr, nc, wd) h (vi, lt, su, la, pw, sh, cp, ha, co)).2.2.2.2.2.2.2.1)), (m0, .inr (6, [.int th, .int (nI n), .ref m1, .ref m2, .ref m3, .int (nI nk), .ref m4, .int (nI nc), .ref m5, .ref m6, .ref qs, .ref qa])), (m1, aI d 10 pl), (m2, aI d 10 (biF me)), (m3, aI d 10 (biF ins)), (m4, aI d 6 rg), (m5, aI d 20 dr), (m6, aI d 6 wd)]) := by
  refine yyV_of (own := RX5) [(0, .ref s0)] (by decide +kernel) rfl (Nat.le_of_ble_eq_true rfl) rfl ?_
  intro G Q hQ hGL hC hGA hin
  refine y_iconst (pc := 0) hC dX5_pass_0 0 (by decide) ?_
  refine y_istore_n (pc := 1) hC dX5_pass_1 [(1, .int 0), (0, .ref s0)] rfl (by decide) ?_
  have lpj1 : ∀ r1 j1 : Nat, j1 + r1 = nc → yyW d G 0 0 Q [(s0, .inr (5, [.int (nI h), .int co, .ref s1, .ref s2, .ref s3, .ref s4, .ref s5, .ref s6, .ref s7, .ref s8, .ref s9, .ref m0])), (s1, aI d 10 vi), (s2, aI d 10 lt), (s3, aI d 10 la), (s4, aI d 10 su), (s5, aI d 6 kp), (s6, aI d 6 pw), (s7, aI d 6 sh), (s8, aI d 20 (yi j1 (driveS dr (wd (h % 6))) cp)), (s9, aI d 20 ha), (m0, .inr (6, [.int th, .int (nI n), .ref m1, .ref m2, .ref m3, .int (nI nk), .ref m4, .int (nI nc), .ref m5, .ref m6, .ref qs, .ref qa])), (m1, aI d 10 pl), (m2, aI d 10 (biF me)), (m3, aI d 10 (biF ins)), (m4, aI d 6 rg), (m5, aI d 20 dr), (m6, aI d 6 wd)] [(1, .int (nI j1)), (0, .ref s0)] 2 [] := by
    intro r1
    induction r1 with
    | zero =>
      intro j1 hj1
      have ej1 : j1 = nc := by omega
      rw [ej1]
      refine y_iload_n (pc := 2) hC 0 dX5_pass_2 rfl ?_
      refine y_aload_n (pc := 3) hC 1 dX5_pass_3 rfl ?_
      refine y_get (pc := 4) hC 0 11 dX5_pass_4 rfl rfl inX5 (by decide) kw_3_99 rfl rfl ?_
      refine y_getN (pc := 7) hC 10 7 dX5_pass_7 rfl rfl inX6 (by decide) kn_18 rfl rfl ?_
      refine y_ge_t (pc := 10) (a := nc) (b := nc) hC dX5_pass_10 61 (by decide) (by omega) (by omega) ?_
      refine y_iconst (pc := 61) hC dX5_pass_61 0 (by decide) ?_
      refine y_istore_n (pc := 62) hC dX5_pass_62 [(1, .int 0), (0, .ref s0)] rfl (by decide) ?_
      have lpj2 : ∀ r2 j2 : Nat, j2 + r2 = nk → yyW d G 0 0 Q [(s0, .inr (5, [.int (nI h), .int co, .ref s1, .ref s2, .ref s3, .ref s4, .ref s5, .ref s6, .ref s7, .ref s8, .ref s9, .ref m0])), (s1, aI d 10 vi), (s2, aI d 10 lt), (s3, aI d 10 la), (s4, aI d 10 ((yi j2 (rshootS kp rg (driveF dr (wd (h % 6)) nc cp) pl me nc n) (pw, sh, ha, su)).2.2.2)), (s5, aI d 6 kp), (s6, aI d 6 ((yi j2 (rshootS kp rg (driveF dr (wd (h % 6)) nc cp) pl me nc n) (pw, sh, ha, su)).1)), (s7, aI d 6 ((yi j2 (rshootS kp rg (driveF dr (wd (h % 6)) nc cp) pl me nc n) (pw, sh, ha, su)).2.1)), (s8, aI d 20 (driveF dr (wd (h % 6)) nc cp)), (s9, aI d 20 ((yi j2 (rshootS kp rg (driveF dr (wd (h % 6)) nc cp) pl me nc n) (pw, sh, ha, su)).2.2.1)), (m0, .inr (6, [.int th, .int (nI n), .ref m1, .ref m2, .ref m3, .int (nI nk), .ref m4, .int (nI nc), .ref m5, .ref m6, .ref qs, .ref qa])), (m1, aI d 10 pl), (m2, aI d 10 (biF me)), (m3, aI d 10 (biF ins)), (m4, aI d 6 rg), (m5, aI d 20 dr), (m6, aI d 6 wd)] [(1, .int (nI j2)), (0, .ref s0)] 63 [] := by
        intro r2
        induction r2 with
        | zero =>
          intro j2 hj2
          have ej2 : j2 = nk := by omega
          rw [ej2]
          refine y_iload_n (pc := 63) hC 0 dX5_pass_63 rfl ?_
          refine y_aload_n (pc := 64) hC 1 dX5_pass_64 rfl ?_
          refine y_get (pc := 65) hC 0 11 dX5_pass_65 rfl rfl inX5 (by decide) kw_3_99 rfl rfl ?_
          refine y_getN (pc := 68) hC 10 5 dX5_pass_68 rfl rfl inX6 (by decide) kn_16 rfl rfl ?_
          refine y_ge_t (pc := 71) (a := nk) (b := nk) hC dX5_pass_71 85 (by decide) (by omega) (by omega) ?_
          refine y_iconst (pc := 85) hC dX5_pass_85 0 (by decide) ?_
          refine y_istore_n (pc := 86) hC dX5_pass_86 [(1, .int 0), (0, .ref s0)] rfl (by decide) ?_
          have lpj3 : ∀ r3 j3 : Nat, j3 + r3 = nc → yyW d G 0 0 Q [(s0, .inr (5, [.int (nI h), .int co, .ref s1, .ref s2, .ref s3, .ref s4, .ref s5, .ref s6, .ref s7, .ref s8, .ref s9, .ref m0])), (s1, aI d 10 ((yi j3 (rdropS (driveF dr (wd (h % 6)) nc cp) pl n) ((rshootF kp rg (driveF dr (wd (h % 6)) nc cp) pl me nc n nk (pw, sh, ha, su)).2.2.1, vi, lt, la)).2.1)), (s2, aI d 10 ((yi j3 (rdropS (driveF dr (wd (h % 6)) nc cp) pl n) ((rshootF kp rg (driveF dr (wd (h % 6)) nc cp) pl me nc n nk (pw, sh, ha, su)).2.2.1, vi, lt, la)).2.2.1)), (s3, aI d 10 ((yi j3 (rdropS (driveF dr (wd (h % 6)) nc cp) pl n) ((rshootF kp rg (driveF dr (wd (h % 6)) nc cp) pl me nc n nk (pw, sh, ha, su)).2.2.1, vi, lt, la)).2.2.2)), (s4, aI d 10 ((rshootF kp rg (driveF dr (wd (h % 6)) nc cp) pl me nc n nk (pw, sh, ha, su)).2.2.2)), (s5, aI d 6 kp), (s6, aI d 6 ((rshootF kp rg (driveF dr (wd (h % 6)) nc cp) pl me nc n nk (pw, sh, ha, su)).1)), (s7, aI d 6 ((rshootF kp rg (driveF dr (wd (h % 6)) nc cp) pl me nc n nk (pw, sh, ha, su)).2.1)), (s8, aI d 20 (driveF dr (wd (h % 6)) nc cp)), (s9, aI d 20 ((yi j3 (rdropS (driveF dr (wd (h % 6)) nc cp) pl n) ((rshootF kp rg (driveF dr (wd (h % 6)) nc cp) pl me nc n nk (pw, sh, ha, su)).2.2.1, vi, lt, la)).1)), (m0, .inr (6, [.int th, .int (nI n), .ref m1, .ref m2, .ref m3, .int (nI nk), .ref m4, .int (nI nc), .ref m5, .ref m6, .ref qs, .ref qa])), (m1, aI d 10 pl), (m2, aI d 10 (biF me)), (m3, aI d 10 (biF ins)), (m4, aI d 6 rg), (m5, aI d 20 dr), (m6, aI d 6 wd)] [(1, .int (nI j3)), (0, .ref s0)] 87 [] := by
            intro r3
            induction r3 with
            | zero =>
              intro j3 hj3
              have ej3 : j3 = nc := by omega
              rw [ej3]
              refine y_iload_n (pc := 87) hC 0 dX5_pass_87 rfl ?_
              refine y_aload_n (pc := 88) hC 1 dX5_pass_88 rfl ?_
              refine y_get (pc := 89) hC 0 11 dX5_pass_89 rfl rfl inX5 (by decide) kw_3_99 rfl rfl ?_
              refine y_getN (pc := 92) hC 10 7 dX5_pass_92 rfl rfl inX6 (by decide) kn_18 rfl rfl ?_
              refine y_ge_t (pc := 95) (a := nc) (b := nc) hC dX5_pass_95 109 (by decide) (by omega) (by omega) ?_
              refine y_aload_n (pc := 109) hC 1 dX5_pass_109 rfl ?_
              refine y_get (pc := 110) hC 0 0 dX5_pass_110 rfl rfl inX5 (by decide) kw_3_78 rfl rfl ?_
              refine y_bipush (pc := 113) hC dX5_pass_113 24 (by decide) ?_
              refine y_irem (pc := 115) hC dX5_pass_115 (nI (h % 24)) (pk_rem (by omega) (by decide) (by decide)) (by decide) ?_
              refine y_bipush (pc := 116) hC dX5_pass_116 23 (by decide) ?_
              refine y_cmp_ne (pc := 118) hC dX5_pass_118 145 (by decide) (fun c_4 => ?_) (fun c_4 => ?_)
              · refine y_aload_n (pc := 145) hC 1 dX5_pass_145 rfl ?_
                refine y_dup (pc := 146) hC dX5_pass_146 rfl ?_
                refine y_get (pc := 147) hC 0 0 dX5_pass_147 rfl rfl inX5 (by decide) kw_3_78 rfl rfl ?_
                refine y_iconst (pc := 150) hC dX5_pass_150 1 (by decide) ?_
                refine y_iadd (pc := 151) hC dX5_pass_151 (nI (h + 1)) (nI_1 _) ?_
                refine y_put (pc := 152) hC 0 0 .int dX5_pass_152 tyX5 [(s0, .inr (5, [.int (nI (h + 1)), .int co, .ref s1, .ref s2, .ref s3, .ref s4, .ref s5, .ref s6, .ref s7, .ref s8, .ref s9, .ref m0])), (s1, aI d 10 ((yi nc (rdropS (driveF dr (wd (h % 6)) nc cp) pl n) ((rshootF kp rg (driveF dr (wd (h % 6)) nc cp) pl me nc n nk (pw, sh, ha, su)).2.2.1, vi, lt, la)).2.1)), (s2, aI d 10 ((yi nc (rdropS (driveF dr (wd (h % 6)) nc cp) pl n) ((rshootF kp rg (driveF dr (wd (h % 6)) nc cp) pl me nc n nk (pw, sh, ha, su)).2.2.1, vi, lt, la)).2.2.1)), (s3, aI d 10 ((yi nc (rdropS (driveF dr (wd (h % 6)) nc cp) pl n) ((rshootF kp rg (driveF dr (wd (h % 6)) nc cp) pl me nc n nk (pw, sh, ha, su)).2.2.1, vi, lt, la)).2.2.2)), (s4, aI d 10 ((rshootF kp rg (driveF dr (wd (h % 6)) nc cp) pl me nc n nk (pw, sh, ha, su)).2.2.2)), (s5, aI d 6 kp), (s6, aI d 6 ((rshootF kp rg (driveF dr (wd (h % 6)) nc cp) pl me nc n nk (pw, sh, ha, su)).1)), (s7, aI d 6 ((rshootF kp rg (driveF dr (wd (h % 6)) nc cp) pl me nc n nk (pw, sh, ha, su)).2.1)), (s8, aI d 20 (driveF dr (wd (h % 6)) nc cp)), (s9, aI d 20 ((yi nc (rdropS (driveF dr (wd (h % 6)) nc cp) pl n) ((rshootF kp rg (driveF dr (wd (h % 6)) nc cp) pl me nc n nk (pw, sh, ha, su)).2.2.1, vi, lt, la)).1)), (m0, .inr (6, [.int th, .int (nI n), .ref m1, .ref m2, .ref m3, .int (nI nk), .ref m4, .int (nI nc), .ref m5, .ref m6, .ref qs, .ref qa])), (m1, aI d 10 pl), (m2, aI d 10 (biF me)), (m3, aI d 10 (biF ins)), (m4, aI d 6 rg), (m5, aI d 20 dr), (m6, aI d 6 wd)] rfl rfl rfl inX5 tyX5_ok nmX5 (by decide) kw_3_78 rfl rfl (by decide +kernel) rfl rfl (Nat.le_of_ble_eq_true rfl) ?_
                have e9 : rhourF (pl, me, ins, n, kp, rg, nk, dr, nc, wd) h (vi, lt, su, la, pw, sh, cp, ha, co) = _ := if_neg c_4
                exact y_vret (()) hC hQ (trivial) (by rw [e9]; rfl) (nb rfl) (nb rfl) dX5_pass_155
              · refine y_iconst (pc := 121) hC dX5_pass_121 0 (by decide) ?_
                refine y_istore_n (pc := 122) hC dX5_pass_122 [(1, .int 0), (0, .ref s0)] rfl (by decide) ?_
                have lpj5 : ∀ r5 j5 : Nat, j5 + r5 = n → yyW d G 0 0 Q [(s0, .inr (5, [.int (nI h), .int ((yi j5 (rsetS ins) (co, (rdropF (driveF dr (wd (h % 6)) nc cp) pl n nc ((rshootF kp rg (driveF dr (wd (h % 6)) nc cp) pl me nc n nk (pw, sh, ha, su)).2.2.1, vi, lt, la)).2.1, (rdropF (driveF dr (wd (h % 6)) nc cp) pl n nc ((rshootF kp rg (driveF dr (wd (h % 6)) nc cp) pl me nc n nk (pw, sh, ha, su)).2.2.1, vi, lt, la)).2.2.1, (rshootF kp rg (driveF dr (wd (h % 6)) nc cp) pl me nc n nk (pw, sh, ha, su)).2.2.2)).1), .ref s1, .ref s2, .ref s3, .ref s4, .ref s5, .ref s6, .ref s7, .ref s8, .ref s9, .ref m0])), (s1, aI d 10 ((yi j5 (rsetS ins) (co, (rdropF (driveF dr (wd (h % 6)) nc cp) pl n nc ((rshootF kp rg (driveF dr (wd (h % 6)) nc cp) pl me nc n nk (pw, sh, ha, su)).2.2.1, vi, lt, la)).2.1, (rdropF (driveF dr (wd (h % 6)) nc cp) pl n nc ((rshootF kp rg (driveF dr (wd (h % 6)) nc cp) pl me nc n nk (pw, sh, ha, su)).2.2.1, vi, lt, la)).2.2.1, (rshootF kp rg (driveF dr (wd (h % 6)) nc cp) pl me nc n nk (pw, sh, ha, su)).2.2.2)).2.1)), (s2, aI d 10 ((yi j5 (rsetS ins) (co, (rdropF (driveF dr (wd (h % 6)) nc cp) pl n nc ((rshootF kp rg (driveF dr (wd (h % 6)) nc cp) pl me nc n nk (pw, sh, ha, su)).2.2.1, vi, lt, la)).2.1, (rdropF (driveF dr (wd (h % 6)) nc cp) pl n nc ((rshootF kp rg (driveF dr (wd (h % 6)) nc cp) pl me nc n nk (pw, sh, ha, su)).2.2.1, vi, lt, la)).2.2.1, (rshootF kp rg (driveF dr (wd (h % 6)) nc cp) pl me nc n nk (pw, sh, ha, su)).2.2.2)).2.2.1)), (s3, aI d 10 ((rdropF (driveF dr (wd (h % 6)) nc cp) pl n nc ((rshootF kp rg (driveF dr (wd (h % 6)) nc cp) pl me nc n nk (pw, sh, ha, su)).2.2.1, vi, lt, la)).2.2.2)), (s4, aI d 10 ((yi j5 (rsetS ins) (co, (rdropF (driveF dr (wd (h % 6)) nc cp) pl n nc ((rshootF kp rg (driveF dr (wd (h % 6)) nc cp) pl me nc n nk (pw, sh, ha, su)).2.2.1, vi, lt, la)).2.1, (rdropF (driveF dr (wd (h % 6)) nc cp) pl n nc ((rshootF kp rg (driveF dr (wd (h % 6)) nc cp) pl me nc n nk (pw, sh, ha, su)).2.2.1, vi, lt, la)).2.2.1, (rshootF kp rg (driveF dr (wd (h % 6)) nc cp) pl me nc n nk (pw, sh, ha, su)).2.2.2)).2.2.2)), (s5, aI d 6 kp), (s6, aI d 6 ((rshootF kp rg (driveF dr (wd (h % 6)) nc cp) pl me nc n nk (pw, sh, ha, su)).1)), (s7, aI d 6 ((rshootF kp rg (driveF dr (wd (h % 6)) nc cp) pl me nc n nk (pw, sh, ha, su)).2.1)), (s8, aI d 20 (driveF dr (wd (h % 6)) nc cp)), (s9, aI d 20 ((rdropF (driveF dr (wd (h % 6)) nc cp) pl n nc ((rshootF kp rg (driveF dr (wd (h % 6)) nc cp) pl me nc n nk (pw, sh, ha, su)).2.2.1, vi, lt, la)).1)), (m0, .inr (6, [.int th, .int (nI n), .ref m1, .ref m2, .ref m3, .int (nI nk), .ref m4, .int (nI nc), .ref m5, .ref m6, .ref qs, .ref qa])), (m1, aI d 10 pl), (m2, aI d 10 (biF me)), (m3, aI d 10 (biF ins)), (m4, aI d 6 rg), (m5, aI d 20 dr), (m6, aI d 6 wd)] [(1, .int (nI j5)), (0, .ref s0)] 123 [] := by
                  intro r5
                  induction r5 with
                  | zero =>
                    intro j5 hj5
                    have ej5 : j5 = n := by omega
                    rw [ej5]
                    refine y_iload_n (pc := 123) hC 0 dX5_pass_123 rfl ?_
                    refine y_aload_n (pc := 124) hC 1 dX5_pass_124 rfl ?_
                    refine y_get (pc := 125) hC 0 11 dX5_pass_125 rfl rfl inX5 (by decide) kw_3_99 rfl rfl ?_
                    refine y_getN (pc := 128) hC 10 1 dX5_pass_128 rfl rfl inX6 (by decide) kn_12 rfl rfl ?_
                    refine y_ge_t (pc := 131) (a := n) (b := n) hC dX5_pass_131 145 (by decide) (by omega) (by omega) ?_
                    refine y_aload_n (pc := 145) hC 1 dX5_pass_145 rfl ?_
                    refine y_dup (pc := 146) hC dX5_pass_146 rfl ?_
                    refine y_get (pc := 147) hC 0 0 dX5_pass_147 rfl rfl inX5 (by decide) kw_3_78 rfl rfl ?_
                    refine y_iconst (pc := 150) hC dX5_pass_150 1 (by decide) ?_
                    refine y_iadd (pc := 151) hC dX5_pass_151 (nI (h + 1)) (nI_1 _) ?_
                    refine y_put (pc := 152) hC 0 0 .int dX5_pass_152 tyX5 [(s0, .inr (5, [.int (nI (h + 1)), .int ((yi n (rsetS ins) (co, (rdropF (driveF dr (wd (h % 6)) nc cp) pl n nc ((rshootF kp rg (driveF dr (wd (h % 6)) nc cp) pl me nc n nk (pw, sh, ha, su)).2.2.1, vi, lt, la)).2.1, (rdropF (driveF dr (wd (h % 6)) nc cp) pl n nc ((rshootF kp rg (driveF dr (wd (h % 6)) nc cp) pl me nc n nk (pw, sh, ha, su)).2.2.1, vi, lt, la)).2.2.1, (rshootF kp rg (driveF dr (wd (h % 6)) nc cp) pl me nc n nk (pw, sh, ha, su)).2.2.2)).1), .ref s1, .ref s2, .ref s3, .ref s4, .ref s5, .ref s6, .ref s7, .ref s8, .ref s9, .ref m0])), (s1, aI d 10 ((yi n (rsetS ins) (co, (rdropF (driveF dr (wd (h % 6)) nc cp) pl n nc ((rshootF kp rg (driveF dr (wd (h % 6)) nc cp) pl me nc n nk (pw, sh, ha, su)).2.2.1, vi, lt, la)).2.1, (rdropF (driveF dr (wd (h % 6)) nc cp) pl n nc ((rshootF kp rg (driveF dr (wd (h % 6)) nc cp) pl me nc n nk (pw, sh, ha, su)).2.2.1, vi, lt, la)).2.2.1, (rshootF kp rg (driveF dr (wd (h % 6)) nc cp) pl me nc n nk (pw, sh, ha, su)).2.2.2)).2.1)), (s2, aI d 10 ((yi n (rsetS ins) (co, (rdropF (driveF dr (wd (h % 6)) nc cp) pl n nc ((rshootF kp rg (driveF dr (wd (h % 6)) nc cp) pl me nc n nk (pw, sh, ha, su)).2.2.1, vi, lt, la)).2.1, (rdropF (driveF dr (wd (h % 6)) nc cp) pl n nc ((rshootF kp rg (driveF dr (wd (h % 6)) nc cp) pl me nc n nk (pw, sh, ha, su)).2.2.1, vi, lt, la)).2.2.1, (rshootF kp rg (driveF dr (wd (h % 6)) nc cp) pl me nc n nk (pw, sh, ha, su)).2.2.2)).2.2.1)), (s3, aI d 10 ((rdropF (driveF dr (wd (h % 6)) nc cp) pl n nc ((rshootF kp rg (driveF dr (wd (h % 6)) nc cp) pl me nc n nk (pw, sh, ha, su)).2.2.1, vi, lt, la)).2.2.2)), (s4, aI d 10 ((yi n (rsetS ins) (co, (rdropF (driveF dr (wd (h % 6)) nc cp) pl n nc ((rshootF kp rg (driveF dr (wd (h % 6)) nc cp) pl me nc n nk (pw, sh, ha, su)).2.2.1, vi, lt, la)).2.1, (rdropF (driveF dr (wd (h % 6)) nc cp) pl n nc ((rshootF kp rg (driveF dr (wd (h % 6)) nc cp) pl me nc n nk (pw, sh, ha, su)).2.2.1, vi, lt, la)).2.2.1, (rshootF kp rg (driveF dr (wd (h % 6)) nc cp) pl me nc n nk (pw, sh, ha, su)).2.2.2)).2.2.2)), (s5, aI d 6 kp), (s6, aI d 6 ((rshootF kp rg (driveF dr (wd (h % 6)) nc cp) pl me nc n nk (pw, sh, ha, su)).1)), (s7, aI d 6 ((rshootF kp rg (driveF dr (wd (h % 6)) nc cp) pl me nc n nk (pw, sh, ha, su)).2.1)), (s8, aI d 20 (driveF dr (wd (h % 6)) nc cp)), (s9, aI d 20 ((rdropF (driveF dr (wd (h % 6)) nc cp) pl n nc ((rshootF kp rg (driveF dr (wd (h % 6)) nc cp) pl me nc n nk (pw, sh, ha, su)).2.2.1, vi, lt, la)).1)), (m0, .inr (6, [.int th, .int (nI n), .ref m1, .ref m2, .ref m3, .int (nI nk), .ref m4, .int (nI nc), .ref m5, .ref m6, .ref qs, .ref qa])), (m1, aI d 10 pl), (m2, aI d 10 (biF me)), (m3, aI d 10 (biF ins)), (m4, aI d 6 rg), (m5, aI d 20 dr), (m6, aI d 6 wd)] rfl rfl rfl inX5 tyX5_ok nmX5 (by decide) kw_3_78 rfl rfl (by decide +kernel) rfl rfl (Nat.le_of_ble_eq_true rfl) ?_
                    have e9 : rhourF (pl, me, ins, n, kp, rg, nk, dr, nc, wd) h (vi, lt, su, la, pw, sh, cp, ha, co) = _ := if_pos c_4
                    exact y_vret (()) hC hQ (trivial) (by rw [e9]; rfl) (nb rfl) (nb rfl) dX5_pass_155
                  | succ r5 ihj5 =>
                    intro j5 hj5
                    have lj5 : j5 < n := by omega
                    refine y_iload_n (pc := 123) hC 0 dX5_pass_123 rfl ?_
                    refine y_aload_n (pc := 124) hC 1 dX5_pass_124 rfl ?_
                    refine y_get (pc := 125) hC 0 11 dX5_pass_125 rfl rfl inX5 (by decide) kw_3_99 rfl rfl ?_
                    refine y_getN (pc := 128) hC 10 1 dX5_pass_128 rfl rfl inX6 (by decide) kn_12 rfl rfl ?_
                    refine y_ge_f (pc := 131) (a := j5) (b := n) hC dX5_pass_131 145 (by decide) (by omega) (by omega) ?_
                    refine y_aload_n (pc := 134) hC 1 dX5_pass_134 rfl ?_
                    refine y_iload_n (pc := 135) hC 0 dX5_pass_135 rfl ?_
                    refine y_cV (pc := 136) (As := [.int (nI j5)]) (st := []) hC (c_X5_settle (gL G) d s0 s1 s2 s3 s4 s5 s6 s7 s8 s9 ((yi j5 (rsetS ins) (co, (rdropF (driveF dr (wd (h % 6)) nc cp) pl n nc ((rshootF kp rg (driveF dr (wd (h % 6)) nc cp) pl me nc n nk (pw, sh, ha, su)).2.2.1, vi, lt, la)).2.1, (rdropF (driveF dr (wd (h % 6)) nc cp) pl n nc ((rshootF kp rg (driveF dr (wd (h % 6)) nc cp) pl me nc n nk (pw, sh, ha, su)).2.2.1, vi, lt, la)).2.2.1, (rshootF kp rg (driveF dr (wd (h % 6)) nc cp) pl me nc n nk (pw, sh, ha, su)).2.2.2)).2.1) ((yi j5 (rsetS ins) (co, (rdropF (driveF dr (wd (h % 6)) nc cp) pl n nc ((rshootF kp rg (driveF dr (wd (h % 6)) nc cp) pl me nc n nk (pw, sh, ha, su)).2.2.1, vi, lt, la)).2.1, (rdropF (driveF dr (wd (h % 6)) nc cp) pl n nc ((rshootF kp rg (driveF dr (wd (h % 6)) nc cp) pl me nc n nk (pw, sh, ha, su)).2.2.1, vi, lt, la)).2.2.1, (rshootF kp rg (driveF dr (wd (h % 6)) nc cp) pl me nc n nk (pw, sh, ha, su)).2.2.2)).2.2.1) ((yi j5 (rsetS ins) (co, (rdropF (driveF dr (wd (h % 6)) nc cp) pl n nc ((rshootF kp rg (driveF dr (wd (h % 6)) nc cp) pl me nc n nk (pw, sh, ha, su)).2.2.1, vi, lt, la)).2.1, (rdropF (driveF dr (wd (h % 6)) nc cp) pl n nc ((rshootF kp rg (driveF dr (wd (h % 6)) nc cp) pl me nc n nk (pw, sh, ha, su)).2.2.1, vi, lt, la)).2.2.1, (rshootF kp rg (driveF dr (wd (h % 6)) nc cp) pl me nc n nk (pw, sh, ha, su)).2.2.2)).2.2.2) h ((yi j5 (rsetS ins) (co, (rdropF (driveF dr (wd (h % 6)) nc cp) pl n nc ((rshootF kp rg (driveF dr (wd (h % 6)) nc cp) pl me nc n nk (pw, sh, ha, su)).2.2.1, vi, lt, la)).2.1, (rdropF (driveF dr (wd (h % 6)) nc cp) pl n nc ((rshootF kp rg (driveF dr (wd (h % 6)) nc cp) pl me nc n nk (pw, sh, ha, su)).2.2.1, vi, lt, la)).2.2.1, (rshootF kp rg (driveF dr (wd (h % 6)) nc cp) pl me nc n nk (pw, sh, ha, su)).2.2.2)).1) m0 m1 m2 m3 m4 m5 m6 qs qa ins th n nk nc j5 (by omega)) kw_4_60 kw_4_57 kw_4_59 kw_s17 kw_1_7 n_X5_settle ⟨⟨nb rfl, nb rfl⟩, ⟨nb rfl, nb rfl⟩, nb rfl⟩ [0, 1, 2, 4, 10, 13] [3, 5, 6, 7, 8, 9, 11, 12, 14, 15, 16] [11, 12, 13, 0, 14, 1, 2, 3, 4, 5, 15, 6, 7, 16, 8, 9, 10] 0 [(s3, aI d 10 ((rdropF (driveF dr (wd (h % 6)) nc cp) pl n nc ((rshootF kp rg (driveF dr (wd (h % 6)) nc cp) pl me nc n nk (pw, sh, ha, su)).2.2.1, vi, lt, la)).2.2.2)), (s5, aI d 6 kp), (s6, aI d 6 ((rshootF kp rg (driveF dr (wd (h % 6)) nc cp) pl me nc n nk (pw, sh, ha, su)).1)), (s7, aI d 6 ((rshootF kp rg (driveF dr (wd (h % 6)) nc cp) pl me nc n nk (pw, sh, ha, su)).2.1)), (s8, aI d 20 (driveF dr (wd (h % 6)) nc cp)), (s9, aI d 20 ((rdropF (driveF dr (wd (h % 6)) nc cp) pl n nc ((rshootF kp rg (driveF dr (wd (h % 6)) nc cp) pl me nc n nk (pw, sh, ha, su)).2.2.1, vi, lt, la)).1)), (m1, aI d 10 pl), (m2, aI d 10 (biF me)), (m4, aI d 6 rg), (m5, aI d 20 dr), (m6, aI d 6 wd)] (fun _ => [(s0, .inr (5, [.int (nI h), .int ((rsetS ins j5 (((yi j5 (rsetS ins) (co, (rdropF (driveF dr (wd (h % 6)) nc cp) pl n nc ((rshootF kp rg (driveF dr (wd (h % 6)) nc cp) pl me nc n nk (pw, sh, ha, su)).2.2.1, vi, lt, la)).2.1, (rdropF (driveF dr (wd (h % 6)) nc cp) pl n nc ((rshootF kp rg (driveF dr (wd (h % 6)) nc cp) pl me nc n nk (pw, sh, ha, su)).2.2.1, vi, lt, la)).2.2.1, (rshootF kp rg (driveF dr (wd (h % 6)) nc cp) pl me nc n nk (pw, sh, ha, su)).2.2.2)).1), ((yi j5 (rsetS ins) (co, (rdropF (driveF dr (wd (h % 6)) nc cp) pl n nc ((rshootF kp rg (driveF dr (wd (h % 6)) nc cp) pl me nc n nk (pw, sh, ha, su)).2.2.1, vi, lt, la)).2.1, (rdropF (driveF dr (wd (h % 6)) nc cp) pl n nc ((rshootF kp rg (driveF dr (wd (h % 6)) nc cp) pl me nc n nk (pw, sh, ha, su)).2.2.1, vi, lt, la)).2.2.1, (rshootF kp rg (driveF dr (wd (h % 6)) nc cp) pl me nc n nk (pw, sh, ha, su)).2.2.2)).2.1), ((yi j5 (rsetS ins) (co, (rdropF (driveF dr (wd (h % 6)) nc cp) pl n nc ((rshootF kp rg (driveF dr (wd (h % 6)) nc cp) pl me nc n nk (pw, sh, ha, su)).2.2.1, vi, lt, la)).2.1, (rdropF (driveF dr (wd (h % 6)) nc cp) pl n nc ((rshootF kp rg (driveF dr (wd (h % 6)) nc cp) pl me nc n nk (pw, sh, ha, su)).2.2.1, vi, lt, la)).2.2.1, (rshootF kp rg (driveF dr (wd (h % 6)) nc cp) pl me nc n nk (pw, sh, ha, su)).2.2.2)).2.2.1), ((yi j5 (rsetS ins) (co, (rdropF (driveF dr (wd (h % 6)) nc cp) pl n nc ((rshootF kp rg (driveF dr (wd (h % 6)) nc cp) pl me nc n nk (pw, sh, ha, su)).2.2.1, vi, lt, la)).2.1, (rdropF (driveF dr (wd (h % 6)) nc cp) pl n nc ((rshootF kp rg (driveF dr (wd (h % 6)) nc cp) pl me nc n nk (pw, sh, ha, su)).2.2.1, vi, lt, la)).2.2.1, (rshootF kp rg (driveF dr (wd (h % 6)) nc cp) pl me nc n nk (pw, sh, ha, su)).2.2.2)).2.2.2))).1), .ref s1, .ref s2, .ref s3, .ref s4, .ref s5, .ref s6, .ref s7, .ref s8, .ref s9, .ref m0])), (s1, aI d 10 ((rsetS ins j5 (((yi j5 (rsetS ins) (co, (rdropF (driveF dr (wd (h % 6)) nc cp) pl n nc ((rshootF kp rg (driveF dr (wd (h % 6)) nc cp) pl me nc n nk (pw, sh, ha, su)).2.2.1, vi, lt, la)).2.1, (rdropF (driveF dr (wd (h % 6)) nc cp) pl n nc ((rshootF kp rg (driveF dr (wd (h % 6)) nc cp) pl me nc n nk (pw, sh, ha, su)).2.2.1, vi, lt, la)).2.2.1, (rshootF kp rg (driveF dr (wd (h % 6)) nc cp) pl me nc n nk (pw, sh, ha, su)).2.2.2)).1), ((yi j5 (rsetS ins) (co, (rdropF (driveF dr (wd (h % 6)) nc cp) pl n nc ((rshootF kp rg (driveF dr (wd (h % 6)) nc cp) pl me nc n nk (pw, sh, ha, su)).2.2.1, vi, lt, la)).2.1, (rdropF (driveF dr (wd (h % 6)) nc cp) pl n nc ((rshootF kp rg (driveF dr (wd (h % 6)) nc cp) pl me nc n nk (pw, sh, ha, su)).2.2.1, vi, lt, la)).2.2.1, (rshootF kp rg (driveF dr (wd (h % 6)) nc cp) pl me nc n nk (pw, sh, ha, su)).2.2.2)).2.1), ((yi j5 (rsetS ins) (co, (rdropF (driveF dr (wd (h % 6)) nc cp) pl n nc ((rshootF kp rg (driveF dr (wd (h % 6)) nc cp) pl me nc n nk (pw, sh, ha, su)).2.2.1, vi, lt, la)).2.1, (rdropF (driveF dr (wd (h % 6)) nc cp) pl n nc ((rshootF kp rg (driveF dr (wd (h % 6)) nc cp) pl me nc n nk (pw, sh, ha, su)).2.2.1, vi, lt, la)).2.2.1, (rshootF kp rg (driveF dr (wd (h % 6)) nc cp) pl me nc n nk (pw, sh, ha, su)).2.2.2)).2.2.1), ((yi j5 (rsetS ins) (co, (rdropF (driveF dr (wd (h % 6)) nc cp) pl n nc ((rshootF kp rg (driveF dr (wd (h % 6)) nc cp) pl me nc n nk (pw, sh, ha, su)).2.2.1, vi, lt, la)).2.1, (rdropF (driveF dr (wd (h % 6)) nc cp) pl n nc ((rshootF kp rg (driveF dr (wd (h % 6)) nc cp) pl me nc n nk (pw, sh, ha, su)).2.2.1, vi, lt, la)).2.2.1, (rshootF kp rg (driveF dr (wd (h % 6)) nc cp) pl me nc n nk (pw, sh, ha, su)).2.2.2)).2.2.2))).2.1)), (s2, aI d 10 ((rsetS ins j5 (((yi j5 (rsetS ins) (co, (rdropF (driveF dr (wd (h % 6)) nc cp) pl n nc ((rshootF kp rg (driveF dr (wd (h % 6)) nc cp) pl me nc n nk (pw, sh, ha, su)).2.2.1, vi, lt, la)).2.1, (rdropF (driveF dr (wd (h % 6)) nc cp) pl n nc ((rshootF kp rg (driveF dr (wd (h % 6)) nc cp) pl me nc n nk (pw, sh, ha, su)).2.2.1, vi, lt, la)).2.2.1, (rshootF kp rg (driveF dr (wd (h % 6)) nc cp) pl me nc n nk (pw, sh, ha, su)).2.2.2)).1), ((yi j5 (rsetS ins) (co, (rdropF (driveF dr (wd (h % 6)) nc cp) pl n nc ((rshootF kp rg (driveF dr (wd (h % 6)) nc cp) pl me nc n nk (pw, sh, ha, su)).2.2.1, vi, lt, la)).2.1, (rdropF (driveF dr (wd (h % 6)) nc cp) pl n nc ((rshootF kp rg (driveF dr (wd (h % 6)) nc cp) pl me nc n nk (pw, sh, ha, su)).2.2.1, vi, lt, la)).2.2.1, (rshootF kp rg (driveF dr (wd (h % 6)) nc cp) pl me nc n nk (pw, sh, ha, su)).2.2.2)).2.1), ((yi j5 (rsetS ins) (co, (rdropF (driveF dr (wd (h % 6)) nc cp) pl n nc ((rshootF kp rg (driveF dr (wd (h % 6)) nc cp) pl me nc n nk (pw, sh, ha, su)).2.2.1, vi, lt, la)).2.1, (rdropF (driveF dr (wd (h % 6)) nc cp) pl n nc ((rshootF kp rg (driveF dr (wd (h % 6)) nc cp) pl me nc n nk (pw, sh, ha, su)).2.2.1, vi, lt, la)).2.2.1, (rshootF kp rg (driveF dr (wd (h % 6)) nc cp) pl me nc n nk (pw, sh, ha, su)).2.2.2)).2.2.1), ((yi j5 (rsetS ins) (co, (rdropF (driveF dr (wd (h % 6)) nc cp) pl n nc ((rshootF kp rg (driveF dr (wd (h % 6)) nc cp) pl me nc n nk (pw, sh, ha, su)).2.2.1, vi, lt, la)).2.1, (rdropF (driveF dr (wd (h % 6)) nc cp) pl n nc ((rshootF kp rg (driveF dr (wd (h % 6)) nc cp) pl me nc n nk (pw, sh, ha, su)).2.2.1, vi, lt, la)).2.2.1, (rshootF kp rg (driveF dr (wd (h % 6)) nc cp) pl me nc n nk (pw, sh, ha, su)).2.2.2)).2.2.2))).2.2.1)), (s3, aI d 10 ((rdropF (driveF dr (wd (h % 6)) nc cp) pl n nc ((rshootF kp rg (driveF dr (wd (h % 6)) nc cp) pl me nc n nk (pw, sh, ha, su)).2.2.1, vi, lt, la)).2.2.2)), (s4, aI d 10 ((rsetS ins j5 (((yi j5 (rsetS ins) (co, (rdropF (driveF dr (wd (h % 6)) nc cp) pl n nc ((rshootF kp rg (driveF dr (wd (h % 6)) nc cp) pl me nc n nk (pw, sh, ha, su)).2.2.1, vi, lt, la)).2.1, (rdropF (driveF dr (wd (h % 6)) nc cp) pl n nc ((rshootF kp rg (driveF dr (wd (h % 6)) nc cp) pl me nc n nk (pw, sh, ha, su)).2.2.1, vi, lt, la)).2.2.1, (rshootF kp rg (driveF dr (wd (h % 6)) nc cp) pl me nc n nk (pw, sh, ha, su)).2.2.2)).1), ((yi j5 (rsetS ins) (co, (rdropF (driveF dr (wd (h % 6)) nc cp) pl n nc ((rshootF kp rg (driveF dr (wd (h % 6)) nc cp) pl me nc n nk (pw, sh, ha, su)).2.2.1, vi, lt, la)).2.1, (rdropF (driveF dr (wd (h % 6)) nc cp) pl n nc ((rshootF kp rg (driveF dr (wd (h % 6)) nc cp) pl me nc n nk (pw, sh, ha, su)).2.2.1, vi, lt, la)).2.2.1, (rshootF kp rg (driveF dr (wd (h % 6)) nc cp) pl me nc n nk (pw, sh, ha, su)).2.2.2)).2.1), ((yi j5 (rsetS ins) (co, (rdropF (driveF dr (wd (h % 6)) nc cp) pl n nc ((rshootF kp rg (driveF dr (wd (h % 6)) nc cp) pl me nc n nk (pw, sh, ha, su)).2.2.1, vi, lt, la)).2.1, (rdropF (driveF dr (wd (h % 6)) nc cp) pl n nc ((rshootF kp rg (driveF dr (wd (h % 6)) nc cp) pl me nc n nk (pw, sh, ha, su)).2.2.1, vi, lt, la)).2.2.1, (rshootF kp rg (driveF dr (wd (h % 6)) nc cp) pl me nc n nk (pw, sh, ha, su)).2.2.2)).2.2.1), ((yi j5 (rsetS ins) (co, (rdropF (driveF dr (wd (h % 6)) nc cp) pl n nc ((rshootF kp rg (driveF dr (wd (h % 6)) nc cp) pl me nc n nk (pw, sh, ha, su)).2.2.1, vi, lt, la)).2.1, (rdropF (driveF dr (wd (h % 6)) nc cp) pl n nc ((rshootF kp rg (driveF dr (wd (h % 6)) nc cp) pl me nc n nk (pw, sh, ha, su)).2.2.1, vi, lt, la)).2.2.1, (rshootF kp rg (driveF dr (wd (h % 6)) nc cp) pl me nc n nk (pw, sh, ha, su)).2.2.2)).2.2.2))).2.2.2)), (s5, aI d 6 kp), (s6, aI d 6 ((rshootF kp rg (driveF dr (wd (h % 6)) nc cp) pl me nc n nk (pw, sh, ha, su)).1)), (s7, aI d 6 ((rshootF kp rg (driveF dr (wd (h % 6)) nc cp) pl me nc n nk (pw, sh, ha, su)).2.1)), (s8, aI d 20 (driveF dr (wd (h % 6)) nc cp)), (s9, aI d 20 ((rdropF (driveF dr (wd (h % 6)) nc cp) pl n nc ((rshootF kp rg (driveF dr (wd (h % 6)) nc cp) pl me nc n nk (pw, sh, ha, su)).2.2.1, vi, lt, la)).1)), (m0, .inr (6, [.int th, .int (nI n), .ref m1, .ref m2, .ref m3, .int (nI nk), .ref m4, .int (nI nc), .ref m5, .ref m6, .ref qs, .ref qa])), (m1, aI d 10 pl), (m2, aI d 10 (biF me)), (m3, aI d 10 (biF ins)), (m4, aI d 6 rg), (m5, aI d 20 dr), (m6, aI d 6 wd)]) rfl rfl ⟨rfl, by decide, rfl, by decide, by decide⟩ (fun _ => ⟨rfl, by decide⟩) rfl dX5_pass_136 ?_
                    intro _ _
                    refine y_iinc (pc := 139) hC 0 dX5_pass_139 (nI (j5 + 1)) [(1, .int (nI (j5 + 1))), (0, .ref s0)] rfl (nI_inc _) rfl (by decide) ?_
                    refine y_goto (pc := 142) hC dX5_pass_142 123 (by decide) ?_
                    refine y_ws [(s0, .inr (5, [.int (nI h), .int ((yi (j5 + 1) (rsetS ins) (co, (rdropF (driveF dr (wd (h % 6)) nc cp) pl n nc ((rshootF kp rg (driveF dr (wd (h % 6)) nc cp) pl me nc n nk (pw, sh, ha, su)).2.2.1, vi, lt, la)).2.1, (rdropF (driveF dr (wd (h % 6)) nc cp) pl n nc ((rshootF kp rg (driveF dr (wd (h % 6)) nc cp) pl me nc n nk (pw, sh, ha, su)).2.2.1, vi, lt, la)).2.2.1, (rshootF kp rg (driveF dr (wd (h % 6)) nc cp) pl me nc n nk (pw, sh, ha, su)).2.2.2)).1), .ref s1, .ref s2, .ref s3, .ref s4, .ref s5, .ref s6, .ref s7, .ref s8, .ref s9, .ref m0])), (s1, aI d 10 ((yi (j5 + 1) (rsetS ins) (co, (rdropF (driveF dr (wd (h % 6)) nc cp) pl n nc ((rshootF kp rg (driveF dr (wd (h % 6)) nc cp) pl me nc n nk (pw, sh, ha, su)).2.2.1, vi, lt, la)).2.1, (rdropF (driveF dr (wd (h % 6)) nc cp) pl n nc ((rshootF kp rg (driveF dr (wd (h % 6)) nc cp) pl me nc n nk (pw, sh, ha, su)).2.2.1, vi, lt, la)).2.2.1, (rshootF kp rg (driveF dr (wd (h % 6)) nc cp) pl me nc n nk (pw, sh, ha, su)).2.2.2)).2.1)), (s2, aI d 10 ((yi (j5 + 1) (rsetS ins) (co, (rdropF (driveF dr (wd (h % 6)) nc cp) pl n nc ((rshootF kp rg (driveF dr (wd (h % 6)) nc cp) pl me nc n nk (pw, sh, ha, su)).2.2.1, vi, lt, la)).2.1, (rdropF (driveF dr (wd (h % 6)) nc cp) pl n nc ((rshootF kp rg (driveF dr (wd (h % 6)) nc cp) pl me nc n nk (pw, sh, ha, su)).2.2.1, vi, lt, la)).2.2.1, (rshootF kp rg (driveF dr (wd (h % 6)) nc cp) pl me nc n nk (pw, sh, ha, su)).2.2.2)).2.2.1)), (s3, aI d 10 ((rdropF (driveF dr (wd (h % 6)) nc cp) pl n nc ((rshootF kp rg (driveF dr (wd (h % 6)) nc cp) pl me nc n nk (pw, sh, ha, su)).2.2.1, vi, lt, la)).2.2.2)), (s4, aI d 10 ((yi (j5 + 1) (rsetS ins) (co, (rdropF (driveF dr (wd (h % 6)) nc cp) pl n nc ((rshootF kp rg (driveF dr (wd (h % 6)) nc cp) pl me nc n nk (pw, sh, ha, su)).2.2.1, vi, lt, la)).2.1, (rdropF (driveF dr (wd (h % 6)) nc cp) pl n nc ((rshootF kp rg (driveF dr (wd (h % 6)) nc cp) pl me nc n nk (pw, sh, ha, su)).2.2.1, vi, lt, la)).2.2.1, (rshootF kp rg (driveF dr (wd (h % 6)) nc cp) pl me nc n nk (pw, sh, ha, su)).2.2.2)).2.2.2)), (s5, aI d 6 kp), (s6, aI d 6 ((rshootF kp rg (driveF dr (wd (h % 6)) nc cp) pl me nc n nk (pw, sh, ha, su)).1)), (s7, aI d 6 ((rshootF kp rg (driveF dr (wd (h % 6)) nc cp) pl me nc n nk (pw, sh, ha, su)).2.1)), (s8, aI d 20 (driveF dr (wd (h % 6)) nc cp)), (s9, aI d 20 ((rdropF (driveF dr (wd (h % 6)) nc cp) pl n nc ((rshootF kp rg (driveF dr (wd (h % 6)) nc cp) pl me nc n nk (pw, sh, ha, su)).2.2.1, vi, lt, la)).1)), (m0, .inr (6, [.int th, .int (nI n), .ref m1, .ref m2, .ref m3, .int (nI nk), .ref m4, .int (nI nc), .ref m5, .ref m6, .ref qs, .ref qa])), (m1, aI d 10 pl), (m2, aI d 10 (biF me)), (m3, aI d 10 (biF ins)), (m4, aI d 6 rg), (m5, aI d 20 dr), (m6, aI d 6 wd)] rfl ?_
                    exact ihj5 (j5 + 1) (by omega)
                refine y_lv [(1, .int 0), (0, .ref s0)] [0, 1] rfl ?_
                exact lpj5 n 0 (by omega)
            | succ r3 ihj3 =>
              intro j3 hj3
              have lj3 : j3 < nc := by omega
              refine y_iload_n (pc := 87) hC 0 dX5_pass_87 rfl ?_
              refine y_aload_n (pc := 88) hC 1 dX5_pass_88 rfl ?_
              refine y_get (pc := 89) hC 0 11 dX5_pass_89 rfl rfl inX5 (by decide) kw_3_99 rfl rfl ?_
              refine y_getN (pc := 92) hC 10 7 dX5_pass_92 rfl rfl inX6 (by decide) kn_18 rfl rfl ?_
              refine y_ge_f (pc := 95) (a := j3) (b := nc) hC dX5_pass_95 109 (by decide) (by omega) (by omega) ?_
              refine y_aload_n (pc := 98) hC 1 dX5_pass_98 rfl ?_
              refine y_iload_n (pc := 99) hC 0 dX5_pass_99 rfl ?_
              refine y_cV (pc := 100) (As := [.int (nI j3)]) (st := []) hC (c_X5_drop (gL G) d s0 s1 s2 s3 s4 s5 s6 s7 s8 s9 ((yi j3 (rdropS (driveF dr (wd (h % 6)) nc cp) pl n) ((rshootF kp rg (driveF dr (wd (h % 6)) nc cp) pl me nc n nk (pw, sh, ha, su)).2.2.1, vi, lt, la)).2.1) ((yi j3 (rdropS (driveF dr (wd (h % 6)) nc cp) pl n) ((rshootF kp rg (driveF dr (wd (h % 6)) nc cp) pl me nc n nk (pw, sh, ha, su)).2.2.1, vi, lt, la)).2.2.1) ((yi j3 (rdropS (driveF dr (wd (h % 6)) nc cp) pl n) ((rshootF kp rg (driveF dr (wd (h % 6)) nc cp) pl me nc n nk (pw, sh, ha, su)).2.2.1, vi, lt, la)).2.2.2) (driveF dr (wd (h % 6)) nc cp) ((yi j3 (rdropS (driveF dr (wd (h % 6)) nc cp) pl n) ((rshootF kp rg (driveF dr (wd (h % 6)) nc cp) pl me nc n nk (pw, sh, ha, su)).2.2.1, vi, lt, la)).1) h co m0 m1 m2 m3 m4 m5 m6 qs qa pl th n nk nc j3 (by omega) (by omega)) kw_4_55 kw_4_52 kw_4_54 kw_s16 kw_1_7 n_X5_drop ⟨⟨nb rfl, nb rfl⟩, ⟨nb rfl, nb rfl⟩, nb rfl⟩ [0, 1, 2, 3, 8, 9, 10, 11] [4, 5, 6, 7, 12, 13, 14, 15, 16] [9, 10, 11, 12, 0, 1, 2, 3, 13, 14, 15, 16, 4, 5, 6, 7, 8] 0 [(s4, aI d 10 ((rshootF kp rg (driveF dr (wd (h % 6)) nc cp) pl me nc n nk (pw, sh, ha, su)).2.2.2)), (s5, aI d 6 kp), (s6, aI d 6 ((rshootF kp rg (driveF dr (wd (h % 6)) nc cp) pl me nc n nk (pw, sh, ha, su)).1)), (s7, aI d 6 ((rshootF kp rg (driveF dr (wd (h % 6)) nc cp) pl me nc n nk (pw, sh, ha, su)).2.1)), (m2, aI d 10 (biF me)), (m3, aI d 10 (biF ins)), (m4, aI d 6 rg), (m5, aI d 20 dr), (m6, aI d 6 wd)] (fun _ => [(s0, .inr (5, [.int (nI h), .int co, .ref s1, .ref s2, .ref s3, .ref s4, .ref s5, .ref s6, .ref s7, .ref s8, .ref s9, .ref m0])), (s1, aI d 10 ((rdropS (driveF dr (wd (h % 6)) nc cp) pl n j3 (((yi j3 (rdropS (driveF dr (wd (h % 6)) nc cp) pl n) ((rshootF kp rg (driveF dr (wd (h % 6)) nc cp) pl me nc n nk (pw, sh, ha, su)).2.2.1, vi, lt, la)).1), ((yi j3 (rdropS (driveF dr (wd (h % 6)) nc cp) pl n) ((rshootF kp rg (driveF dr (wd (h % 6)) nc cp) pl me nc n nk (pw, sh, ha, su)).2.2.1, vi, lt, la)).2.1), ((yi j3 (rdropS (driveF dr (wd (h % 6)) nc cp) pl n) ((rshootF kp rg (driveF dr (wd (h % 6)) nc cp) pl me nc n nk (pw, sh, ha, su)).2.2.1, vi, lt, la)).2.2.1), ((yi j3 (rdropS (driveF dr (wd (h % 6)) nc cp) pl n) ((rshootF kp rg (driveF dr (wd (h % 6)) nc cp) pl me nc n nk (pw, sh, ha, su)).2.2.1, vi, lt, la)).2.2.2))).2.1)), (s2, aI d 10 ((rdropS (driveF dr (wd (h % 6)) nc cp) pl n j3 (((yi j3 (rdropS (driveF dr (wd (h % 6)) nc cp) pl n) ((rshootF kp rg (driveF dr (wd (h % 6)) nc cp) pl me nc n nk (pw, sh, ha, su)).2.2.1, vi, lt, la)).1), ((yi j3 (rdropS (driveF dr (wd (h % 6)) nc cp) pl n) ((rshootF kp rg (driveF dr (wd (h % 6)) nc cp) pl me nc n nk (pw, sh, ha, su)).2.2.1, vi, lt, la)).2.1), ((yi j3 (rdropS (driveF dr (wd (h % 6)) nc cp) pl n) ((rshootF kp rg (driveF dr (wd (h % 6)) nc cp) pl me nc n nk (pw, sh, ha, su)).2.2.1, vi, lt, la)).2.2.1), ((yi j3 (rdropS (driveF dr (wd (h % 6)) nc cp) pl n) ((rshootF kp rg (driveF dr (wd (h % 6)) nc cp) pl me nc n nk (pw, sh, ha, su)).2.2.1, vi, lt, la)).2.2.2))).2.2.1)), (s3, aI d 10 ((rdropS (driveF dr (wd (h % 6)) nc cp) pl n j3 (((yi j3 (rdropS (driveF dr (wd (h % 6)) nc cp) pl n) ((rshootF kp rg (driveF dr (wd (h % 6)) nc cp) pl me nc n nk (pw, sh, ha, su)).2.2.1, vi, lt, la)).1), ((yi j3 (rdropS (driveF dr (wd (h % 6)) nc cp) pl n) ((rshootF kp rg (driveF dr (wd (h % 6)) nc cp) pl me nc n nk (pw, sh, ha, su)).2.2.1, vi, lt, la)).2.1), ((yi j3 (rdropS (driveF dr (wd (h % 6)) nc cp) pl n) ((rshootF kp rg (driveF dr (wd (h % 6)) nc cp) pl me nc n nk (pw, sh, ha, su)).2.2.1, vi, lt, la)).2.2.1), ((yi j3 (rdropS (driveF dr (wd (h % 6)) nc cp) pl n) ((rshootF kp rg (driveF dr (wd (h % 6)) nc cp) pl me nc n nk (pw, sh, ha, su)).2.2.1, vi, lt, la)).2.2.2))).2.2.2)), (s4, aI d 10 ((rshootF kp rg (driveF dr (wd (h % 6)) nc cp) pl me nc n nk (pw, sh, ha, su)).2.2.2)), (s5, aI d 6 kp), (s6, aI d 6 ((rshootF kp rg (driveF dr (wd (h % 6)) nc cp) pl me nc n nk (pw, sh, ha, su)).1)), (s7, aI d 6 ((rshootF kp rg (driveF dr (wd (h % 6)) nc cp) pl me nc n nk (pw, sh, ha, su)).2.1)), (s8, aI d 20 (driveF dr (wd (h % 6)) nc cp)), (s9, aI d 20 ((rdropS (driveF dr (wd (h % 6)) nc cp) pl n j3 (((yi j3 (rdropS (driveF dr (wd (h % 6)) nc cp) pl n) ((rshootF kp rg (driveF dr (wd (h % 6)) nc cp) pl me nc n nk (pw, sh, ha, su)).2.2.1, vi, lt, la)).1), ((yi j3 (rdropS (driveF dr (wd (h % 6)) nc cp) pl n) ((rshootF kp rg (driveF dr (wd (h % 6)) nc cp) pl me nc n nk (pw, sh, ha, su)).2.2.1, vi, lt, la)).2.1), ((yi j3 (rdropS (driveF dr (wd (h % 6)) nc cp) pl n) ((rshootF kp rg (driveF dr (wd (h % 6)) nc cp) pl me nc n nk (pw, sh, ha, su)).2.2.1, vi, lt, la)).2.2.1), ((yi j3 (rdropS (driveF dr (wd (h % 6)) nc cp) pl n) ((rshootF kp rg (driveF dr (wd (h % 6)) nc cp) pl me nc n nk (pw, sh, ha, su)).2.2.1, vi, lt, la)).2.2.2))).1)), (m0, .inr (6, [.int th, .int (nI n), .ref m1, .ref m2, .ref m3, .int (nI nk), .ref m4, .int (nI nc), .ref m5, .ref m6, .ref qs, .ref qa])), (m1, aI d 10 pl), (m2, aI d 10 (biF me)), (m3, aI d 10 (biF ins)), (m4, aI d 6 rg), (m5, aI d 20 dr), (m6, aI d 6 wd)]) rfl rfl ⟨rfl, by decide, rfl, by decide, by decide⟩ (fun _ => ⟨rfl, by decide⟩) rfl dX5_pass_100 ?_
              intro _ _
              refine y_iinc (pc := 103) hC 0 dX5_pass_103 (nI (j3 + 1)) [(1, .int (nI (j3 + 1))), (0, .ref s0)] rfl (nI_inc _) rfl (by decide) ?_
              refine y_goto (pc := 106) hC dX5_pass_106 87 (by decide) ?_
              refine y_ws [(s0, .inr (5, [.int (nI h), .int co, .ref s1, .ref s2, .ref s3, .ref s4, .ref s5, .ref s6, .ref s7, .ref s8, .ref s9, .ref m0])), (s1, aI d 10 ((yi (j3 + 1) (rdropS (driveF dr (wd (h % 6)) nc cp) pl n) ((rshootF kp rg (driveF dr (wd (h % 6)) nc cp) pl me nc n nk (pw, sh, ha, su)).2.2.1, vi, lt, la)).2.1)), (s2, aI d 10 ((yi (j3 + 1) (rdropS (driveF dr (wd (h % 6)) nc cp) pl n) ((rshootF kp rg (driveF dr (wd (h % 6)) nc cp) pl me nc n nk (pw, sh, ha, su)).2.2.1, vi, lt, la)).2.2.1)), (s3, aI d 10 ((yi (j3 + 1) (rdropS (driveF dr (wd (h % 6)) nc cp) pl n) ((rshootF kp rg (driveF dr (wd (h % 6)) nc cp) pl me nc n nk (pw, sh, ha, su)).2.2.1, vi, lt, la)).2.2.2)), (s4, aI d 10 ((rshootF kp rg (driveF dr (wd (h % 6)) nc cp) pl me nc n nk (pw, sh, ha, su)).2.2.2)), (s5, aI d 6 kp), (s6, aI d 6 ((rshootF kp rg (driveF dr (wd (h % 6)) nc cp) pl me nc n nk (pw, sh, ha, su)).1)), (s7, aI d 6 ((rshootF kp rg (driveF dr (wd (h % 6)) nc cp) pl me nc n nk (pw, sh, ha, su)).2.1)), (s8, aI d 20 (driveF dr (wd (h % 6)) nc cp)), (s9, aI d 20 ((yi (j3 + 1) (rdropS (driveF dr (wd (h % 6)) nc cp) pl n) ((rshootF kp rg (driveF dr (wd (h % 6)) nc cp) pl me nc n nk (pw, sh, ha, su)).2.2.1, vi, lt, la)).1)), (m0, .inr (6, [.int th, .int (nI n), .ref m1, .ref m2, .ref m3, .int (nI nk), .ref m4, .int (nI nc), .ref m5, .ref m6, .ref qs, .ref qa])), (m1, aI d 10 pl), (m2, aI d 10 (biF me)), (m3, aI d 10 (biF ins)), (m4, aI d 6 rg), (m5, aI d 20 dr), (m6, aI d 6 wd)] rfl ?_
              exact ihj3 (j3 + 1) (by omega)
          refine y_lv [(1, .int 0), (0, .ref s0)] [0, 1] rfl ?_
          exact lpj3 nc 0 (by omega)
        | succ r2 ihj2 =>
          intro j2 hj2
          have lj2 : j2 < nk := by omega
          refine y_iload_n (pc := 63) hC 0 dX5_pass_63 rfl ?_
          refine y_aload_n (pc := 64) hC 1 dX5_pass_64 rfl ?_
          refine y_get (pc := 65) hC 0 11 dX5_pass_65 rfl rfl inX5 (by decide) kw_3_99 rfl rfl ?_
          refine y_getN (pc := 68) hC 10 5 dX5_pass_68 rfl rfl inX6 (by decide) kn_16 rfl rfl ?_
          refine y_ge_f (pc := 71) (a := j2) (b := nk) hC dX5_pass_71 85 (by decide) (by omega) (by omega) ?_
          refine y_aload_n (pc := 74) hC 1 dX5_pass_74 rfl ?_
          refine y_iload_n (pc := 75) hC 0 dX5_pass_75 rfl ?_
          refine y_cV (pc := 76) (As := [.int (nI j2)]) (st := []) hC (c_X5_shoot (gL G) d s0 s1 s2 s3 s4 s5 s6 s7 s8 s9 ((yi j2 (rshootS kp rg (driveF dr (wd (h % 6)) nc cp) pl me nc n) (pw, sh, ha, su)).2.2.2) kp ((yi j2 (rshootS kp rg (driveF dr (wd (h % 6)) nc cp) pl me nc n) (pw, sh, ha, su)).1) ((yi j2 (rshootS kp rg (driveF dr (wd (h % 6)) nc cp) pl me nc n) (pw, sh, ha, su)).2.1) (driveF dr (wd (h % 6)) nc cp) ((yi j2 (rshootS kp rg (driveF dr (wd (h % 6)) nc cp) pl me nc n) (pw, sh, ha, su)).2.2.1) h co m0 m1 m2 m3 m4 m5 m6 qs qa pl me rg th n nk nc j2 (by omega) (by omega) (by omega)) kw_4_49 kw_4_46 kw_4_48 kw_s15 kw_1_7 n_X5_shoot ⟨⟨nb rfl, nb rfl⟩, ⟨nb rfl, nb rfl⟩, nb rfl⟩ [0, 4, 5, 6, 7, 8, 9, 10, 11, 12, 14] [1, 2, 3, 13, 15, 16] [6, 0, 1, 2, 7, 8, 9, 10, 11, 12, 13, 14, 15, 3, 16, 4, 5] 0 [(s1, aI d 10 vi), (s2, aI d 10 lt), (s3, aI d 10 la), (m3, aI d 10 (biF ins)), (m5, aI d 20 dr), (m6, aI d 6 wd)] (fun _ => [(s0, .inr (5, [.int (nI h), .int co, .ref s1, .ref s2, .ref s3, .ref s4, .ref s5, .ref s6, .ref s7, .ref s8, .ref s9, .ref m0])), (s1, aI d 10 vi), (s2, aI d 10 lt), (s3, aI d 10 la), (s4, aI d 10 ((rshootS kp rg (driveF dr (wd (h % 6)) nc cp) pl me nc n j2 (((yi j2 (rshootS kp rg (driveF dr (wd (h % 6)) nc cp) pl me nc n) (pw, sh, ha, su)).1), ((yi j2 (rshootS kp rg (driveF dr (wd (h % 6)) nc cp) pl me nc n) (pw, sh, ha, su)).2.1), ((yi j2 (rshootS kp rg (driveF dr (wd (h % 6)) nc cp) pl me nc n) (pw, sh, ha, su)).2.2.1), ((yi j2 (rshootS kp rg (driveF dr (wd (h % 6)) nc cp) pl me nc n) (pw, sh, ha, su)).2.2.2))).2.2.2)), (s5, aI d 6 kp), (s6, aI d 6 ((rshootS kp rg (driveF dr (wd (h % 6)) nc cp) pl me nc n j2 (((yi j2 (rshootS kp rg (driveF dr (wd (h % 6)) nc cp) pl me nc n) (pw, sh, ha, su)).1), ((yi j2 (rshootS kp rg (driveF dr (wd (h % 6)) nc cp) pl me nc n) (pw, sh, ha, su)).2.1), ((yi j2 (rshootS kp rg (driveF dr (wd (h % 6)) nc cp) pl me nc n) (pw, sh, ha, su)).2.2.1), ((yi j2 (rshootS kp rg (driveF dr (wd (h % 6)) nc cp) pl me nc n) (pw, sh, ha, su)).2.2.2))).1)), (s7, aI d 6 ((rshootS kp rg (driveF dr (wd (h % 6)) nc cp) pl me nc n j2 (((yi j2 (rshootS kp rg (driveF dr (wd (h % 6)) nc cp) pl me nc n) (pw, sh, ha, su)).1), ((yi j2 (rshootS kp rg (driveF dr (wd (h % 6)) nc cp) pl me nc n) (pw, sh, ha, su)).2.1), ((yi j2 (rshootS kp rg (driveF dr (wd (h % 6)) nc cp) pl me nc n) (pw, sh, ha, su)).2.2.1), ((yi j2 (rshootS kp rg (driveF dr (wd (h % 6)) nc cp) pl me nc n) (pw, sh, ha, su)).2.2.2))).2.1)), (s8, aI d 20 (driveF dr (wd (h % 6)) nc cp)), (s9, aI d 20 ((rshootS kp rg (driveF dr (wd (h % 6)) nc cp) pl me nc n j2 (((yi j2 (rshootS kp rg (driveF dr (wd (h % 6)) nc cp) pl me nc n) (pw, sh, ha, su)).1), ((yi j2 (rshootS kp rg (driveF dr (wd (h % 6)) nc cp) pl me nc n) (pw, sh, ha, su)).2.1), ((yi j2 (rshootS kp rg (driveF dr (wd (h % 6)) nc cp) pl me nc n) (pw, sh, ha, su)).2.2.1), ((yi j2 (rshootS kp rg (driveF dr (wd (h % 6)) nc cp) pl me nc n) (pw, sh, ha, su)).2.2.2))).2.2.1)), (m0, .inr (6, [.int th, .int (nI n), .ref m1, .ref m2, .ref m3, .int (nI nk), .ref m4, .int (nI nc), .ref m5, .ref m6, .ref qs, .ref qa])), (m1, aI d 10 pl), (m2, aI d 10 (biF me)), (m3, aI d 10 (biF ins)), (m4, aI d 6 rg), (m5, aI d 20 dr), (m6, aI d 6 wd)]) rfl rfl ⟨rfl, by decide, rfl, by decide, by decide⟩ (fun _ => ⟨rfl, by decide⟩) rfl dX5_pass_76 ?_
          intro _ _
          refine y_iinc (pc := 79) hC 0 dX5_pass_79 (nI (j2 + 1)) [(1, .int (nI (j2 + 1))), (0, .ref s0)] rfl (nI_inc _) rfl (by decide) ?_
          refine y_goto (pc := 82) hC dX5_pass_82 63 (by decide) ?_
          refine y_ws [(s0, .inr (5, [.int (nI h), .int co, .ref s1, .ref s2, .ref s3, .ref s4, .ref s5, .ref s6, .ref s7, .ref s8, .ref s9, .ref m0])), (s1, aI d 10 vi), (s2, aI d 10 lt), (s3, aI d 10 la), (s4, aI d 10 ((yi (j2 + 1) (rshootS kp rg (driveF dr (wd (h % 6)) nc cp) pl me nc n) (pw, sh, ha, su)).2.2.2)), (s5, aI d 6 kp), (s6, aI d 6 ((yi (j2 + 1) (rshootS kp rg (driveF dr (wd (h % 6)) nc cp) pl me nc n) (pw, sh, ha, su)).1)), (s7, aI d 6 ((yi (j2 + 1) (rshootS kp rg (driveF dr (wd (h % 6)) nc cp) pl me nc n) (pw, sh, ha, su)).2.1)), (s8, aI d 20 (driveF dr (wd (h % 6)) nc cp)), (s9, aI d 20 ((yi (j2 + 1) (rshootS kp rg (driveF dr (wd (h % 6)) nc cp) pl me nc n) (pw, sh, ha, su)).2.2.1)), (m0, .inr (6, [.int th, .int (nI n), .ref m1, .ref m2, .ref m3, .int (nI nk), .ref m4, .int (nI nc), .ref m5, .ref m6, .ref qs, .ref qa])), (m1, aI d 10 pl), (m2, aI d 10 (biF me)), (m3, aI d 10 (biF ins)), (m4, aI d 6 rg), (m5, aI d 20 dr), (m6, aI d 6 wd)] rfl ?_
          exact ihj2 (j2 + 1) (by omega)
      refine y_lv [(1, .int 0), (0, .ref s0)] [0, 1] rfl ?_
      exact lpj2 nk 0 (by omega)
    | succ r1 ihj1 =>
      intro j1 hj1
      have lj1 : j1 < nc := by omega
      refine y_iload_n (pc := 2) hC 0 dX5_pass_2 rfl ?_
      refine y_aload_n (pc := 3) hC 1 dX5_pass_3 rfl ?_
      refine y_get (pc := 4) hC 0 11 dX5_pass_4 rfl rfl inX5 (by decide) kw_3_99 rfl rfl ?_
      refine y_getN (pc := 7) hC 10 7 dX5_pass_7 rfl rfl inX6 (by decide) kn_18 rfl rfl ?_
      refine y_ge_f (pc := 10) (a := j1) (b := nc) hC dX5_pass_10 61 (by decide) (by omega) (by omega) ?_
      refine y_aload_n (pc := 13) hC 1 dX5_pass_13 rfl ?_
      refine y_iload_n (pc := 14) hC 0 dX5_pass_14 rfl ?_
      refine y_cI (pc := 15) (As := [.int (nI j1)]) (st := []) hC (c_X5_isGone (gL G) d s0 s1 s2 s3 s4 s5 s6 s7 s8 s9 (yi j1 (driveS dr (wd (h % 6))) cp) h co m0 j1 (by omega)) kw_4_1 kw_3_238 kw_3_239 kw_4_0 kw_1_7 n_X5_isGone ⟨⟨nb rfl, nb rfl⟩, ⟨nb rfl, nb rfl⟩, nb rfl⟩ [0, 8] [1, 2, 3, 4, 5, 6, 7, 9, 10, 11, 12, 13, 14, 15, 16] [15, 0, 1, 2, 3, 4, 5, 6, 16, 7, 8, 9, 10, 11, 12, 13, 14] 0 [(s1, aI d 10 vi), (s2, aI d 10 lt), (s3, aI d 10 la), (s4, aI d 10 su), (s5, aI d 6 kp), (s6, aI d 6 pw), (s7, aI d 6 sh), (s9, aI d 20 ha), (m0, .inr (6, [.int th, .int (nI n), .ref m1, .ref m2, .ref m3, .int (nI nk), .ref m4, .int (nI nc), .ref m5, .ref m6, .ref qs, .ref qa])), (m1, aI d 10 pl), (m2, aI d 10 (biF me)), (m3, aI d 10 (biF ins)), (m4, aI d 6 rg), (m5, aI d 20 dr), (m6, aI d 6 wd)] [(s0, .inr (5, [.int (nI h), .int co, .ref s1, .ref s2, .ref s3, .ref s4, .ref s5, .ref s6, .ref s7, .ref s8, .ref s9, .ref m0])), (s1, aI d 10 vi), (s2, aI d 10 lt), (s3, aI d 10 la), (s4, aI d 10 su), (s5, aI d 6 kp), (s6, aI d 6 pw), (s7, aI d 6 sh), (s8, aI d 20 (yi j1 (driveS dr (wd (h % 6))) cp)), (s9, aI d 20 ha), (m0, .inr (6, [.int th, .int (nI n), .ref m1, .ref m2, .ref m3, .int (nI nk), .ref m4, .int (nI nc), .ref m5, .ref m6, .ref qs, .ref qa])), (m1, aI d 10 pl), (m2, aI d 10 (biF me)), (m3, aI d 10 (biF ins)), (m4, aI d 6 rg), (m5, aI d 20 dr), (m6, aI d 6 wd)] rfl rfl ⟨rfl, by decide, rfl, by decide, by decide⟩ ⟨rfl, by decide⟩ rfl dX5_pass_15 ?_
      refine y_bne (pc := 18) hC dX5_pass_18 55 (by decide) (fun c_6 => ?_) (fun c_6 => ?_)
      · refine y_iinc (pc := 55) hC 0 dX5_pass_55 (nI (j1 + 1)) [(1, .int (nI (j1 + 1))), (0, .ref s0)] rfl (nI_inc _) rfl (by decide) ?_
        refine y_goto (pc := 58) hC dX5_pass_58 2 (by decide) ?_
        refine y_ws [(s0, .inr (5, [.int (nI h), .int co, .ref s1, .ref s2, .ref s3, .ref s4, .ref s5, .ref s6, .ref s7, .ref s8, .ref s9, .ref m0])), (s1, aI d 10 vi), (s2, aI d 10 lt), (s3, aI d 10 la), (s4, aI d 10 su), (s5, aI d 6 kp), (s6, aI d 6 pw), (s7, aI d 6 sh), (s8, aI d 20 (yi (j1 + 1) (driveS dr (wd (h % 6))) cp)), (s9, aI d 20 ha), (m0, .inr (6, [.int th, .int (nI n), .ref m1, .ref m2, .ref m3, .int (nI nk), .ref m4, .int (nI nc), .ref m5, .ref m6, .ref qs, .ref qa])), (m1, aI d 10 pl), (m2, aI d 10 (biF me)), (m3, aI d 10 (biF ins)), (m4, aI d 6 rg), (m5, aI d 20 dr), (m6, aI d 6 wd)] (by simp only [yi, driveS, c_6, ↓reduceIte, cond_true, cond_false]) ?_
        exact ihj1 (j1 + 1) (by omega)
      · refine y_aload_n (pc := 21) hC 1 dX5_pass_21 rfl ?_
        refine y_get (pc := 22) hC 0 9 dX5_pass_22 rfl rfl inX5 (by decide) kw_3_95 rfl rfl ?_
        refine y_iload_n (pc := 25) hC 0 dX5_pass_25 rfl ?_
        refine y_dup2 (pc := 26) hC dX5_pass_26 rfl rfl ?_
        refine y_iald (pc := 27) hC 8 (j := j1) dX5_pass_27 ((yi j1 (driveS dr (wd (h % 6))) cp) j1) rfl (by omega) rfl rfl ?_
        refine y_aload_n (pc := 28) hC 1 dX5_pass_28 rfl ?_
        refine y_get (pc := 29) hC 0 11 dX5_pass_29 rfl rfl inX5 (by decide) kw_3_99 rfl rfl ?_
        refine y_getN (pc := 32) hC 10 8 dX5_pass_32 rfl rfl inX6 (by decide) kn_19 rfl rfl ?_
        refine y_iload_n (pc := 35) hC 0 dX5_pass_35 rfl ?_
        refine y_iald (pc := 36) hC 15 (j := j1) dX5_pass_36 (dr j1) rfl (by omega) rfl rfl ?_
        refine y_aload_n (pc := 37) hC 1 dX5_pass_37 rfl ?_
        refine y_get (pc := 38) hC 0 11 dX5_pass_38 rfl rfl inX5 (by decide) kw_3_99 rfl rfl ?_
        refine y_getN (pc := 41) hC 10 9 dX5_pass_41 rfl rfl inX6 (by decide) kn_20 rfl rfl ?_
        refine y_aload_n (pc := 44) hC 1 dX5_pass_44 rfl ?_
        refine y_get (pc := 45) hC 0 0 dX5_pass_45 rfl rfl inX5 (by decide) kw_3_78 rfl rfl ?_
        refine y_bipush (pc := 48) hC dX5_pass_48 6 (by decide) ?_
        refine y_irem (pc := 50) hC dX5_pass_50 (nI (h % 6)) (pk_rem (by omega) (by decide) (by decide)) (by decide) ?_
        refine y_iald (pc := 51) hC 16 (j := (h % 6)) dX5_pass_51 (wd (h % 6)) rfl (by omega) rfl rfl ?_
        refine y_iadd (pc := 52) hC dX5_pass_52 ((dr j1) + (wd (h % 6))) rfl ?_
        refine y_iadd (pc := 53) hC dX5_pass_53 (((yi j1 (driveS dr (wd (h % 6))) cp) j1) + ((dr j1) + (wd (h % 6)))) rfl ?_
        refine y_iast (pc := 54) hC 8 (j := j1) dX5_pass_54 (upd (yi j1 (driveS dr (wd (h % 6))) cp) j1 (((yi j1 (driveS dr (wd (h % 6))) cp) j1) + ((dr j1) + (wd (h % 6))))) [(s0, .inr (5, [.int (nI h), .int co, .ref s1, .ref s2, .ref s3, .ref s4, .ref s5, .ref s6, .ref s7, .ref s8, .ref s9, .ref m0])), (s1, aI d 10 vi), (s2, aI d 10 lt), (s3, aI d 10 la), (s4, aI d 10 su), (s5, aI d 6 kp), (s6, aI d 6 pw), (s7, aI d 6 sh), (s8, aI d 20 (upd (yi j1 (driveS dr (wd (h % 6))) cp) j1 (((yi j1 (driveS dr (wd (h % 6))) cp) j1) + ((dr j1) + (wd (h % 6)))))), (s9, aI d 20 ha), (m0, .inr (6, [.int th, .int (nI n), .ref m1, .ref m2, .ref m3, .int (nI nk), .ref m4, .int (nI nc), .ref m5, .ref m6, .ref qs, .ref qa])), (m1, aI d 10 pl), (m2, aI d 10 (biF me)), (m3, aI d 10 (biF ins)), (m4, aI d 6 rg), (m5, aI d 20 dr), (m6, aI d 6 wd)] rfl (by omega) rfl rfl rfl ?_
        refine y_iinc (pc := 55) hC 0 dX5_pass_55 (nI (j1 + 1)) [(1, .int (nI (j1 + 1))), (0, .ref s0)] rfl (nI_inc _) rfl (by decide) ?_
        refine y_goto (pc := 58) hC dX5_pass_58 2 (by decide) ?_
        refine y_ws [(s0, .inr (5, [.int (nI h), .int co, .ref s1, .ref s2, .ref s3, .ref s4, .ref s5, .ref s6, .ref s7, .ref s8, .ref s9, .ref m0])), (s1, aI d 10 vi), (s2, aI d 10 lt), (s3, aI d 10 la), (s4, aI d 10 su), (s5, aI d 6 kp), (s6, aI d 6 pw), (s7, aI d 6 sh), (s8, aI d 20 (yi (j1 + 1) (driveS dr (wd (h % 6))) cp)), (s9, aI d 20 ha), (m0, .inr (6, [.int th, .int (nI n), .ref m1, .ref m2, .ref m3, .int (nI nk), .ref m4, .int (nI nc), .ref m5, .ref m6, .ref qs, .ref qa])), (m1, aI d 10 pl), (m2, aI d 10 (biF me)), (m3, aI d 10 (biF ins)), (m4, aI d 6 rg), (m5, aI d 20 dr), (m6, aI d 6 wd)] (by simp only [yi, driveS, c_6, ↓reduceIte, cond_true, cond_false]) ?_
        exact ihj1 (j1 + 1) (by omega)
  refine y_lv [(1, .int 0), (0, .ref s0)] [0, 1] rfl ?_
  exact lpj1 nc 0 (by omega)
theorem n_X5_pass : yyN yX5_pass RX5 0 := by refine ⟨rfl, ?_, ?_, ?_⟩ <;> decide +kernel
set_option maxHeartbeats 4000000 in
set_option maxRecDepth 100000 in
theorem c_X5_pass_ (l : Launch) (d : yyD) (s0 : Nat) (s1 : Nat) (s2 : Nat) (s3 : Nat) (s4 : Nat) (s5 : Nat) (s6 : Nat) (s7 : Nat) (s8 : Nat) (s9 : Nat) (vi : fI) (lt : fI) (la : fI) (su : fI) (kp : fI) (pw : fI) (sh : fI) (cp : fI) (ha : fI) (h : Nat) (co : Int32) (m0 : Nat) (m1 : Nat) (m2 : Nat) (m3 : Nat) (m4 : Nat) (m5 : Nat) (m6 : Nat) (qs : Nat) (qa : Nat) (pl : fI) (me : fB) (ins : fB) (rg : fI) (dr : fI) (wd : fI) (th : Int32) (n : Nat) (nk : Nat) (nc : Nat) (m : Nat) (hn : n ≤ 10) (hk : nk ≤ 6) (hc : nc ≤ 20) (hh : h + m < 1000000) : yyV (S := Unit) l yX5_pass_ cX5_pass_ 3 { frames := 6, cells := 0, slots := 0, locals := 130 } d [.ref s0, .int (nI m)] [(s0, .inr (5, [.int (nI h), .int co, .ref s1, .ref s2, .ref s3, .ref s4, .ref s5, .ref s6, .ref s7, .ref s8, .ref s9, .ref m0])), (s1, aI d 10 vi), (s2, aI d 10 lt), (s3, aI d 10 la), (s4, aI d 10 su), (s5, aI d 6 kp), (s6, aI d 6 pw), (s7, aI d 6 sh), (s8, aI d 20 cp), (s9, aI d 20 ha), (m0, .inr (6, [.int th, .int (nI n), .ref m1, .ref m2, .ref m3, .int (nI nk), .ref m4, .int (nI nc), .ref m5, .ref m6, .ref qs, .ref qa])), (m1, aI d 10 pl), (m2, aI d 10 (biF me)), (m3, aI d 10 (biF ins)), (m4, aI d 6 rg), (m5, aI d 20 dr), (m6, aI d 6 wd)] (fun _ => True) (fun _ => [(s0, .inr (5, [.int (nI (h + m)), .int ((rhoursF (pl, me, ins, n, kp, rg, nk, dr, nc, wd) h m (vi, lt, su, la, pw, sh, cp, ha, co)).2.2.2.2.2.2.2.2), .ref s1, .ref s2, .ref s3, .ref s4, .ref s5, .ref s6, .ref s7, .ref s8, .ref s9, .ref m0])), (s1, aI d 10 ((rhoursF (pl, me, ins, n, kp, rg, nk, dr, nc, wd) h m (vi, lt, su, la, pw, sh, cp, ha, co)).1)), (s2, aI d 10 ((rhoursF (pl, me, ins, n, kp, rg, nk, dr, nc, wd) h m (vi, lt, su, la, pw, sh, cp, ha, co)).2.1)), (s3, aI d 10 ((rhoursF (pl, me, ins, n, kp, rg, nk, dr, nc, wd) h m (vi, lt, su, la, pw, sh, cp, ha, co)).2.2.2.1)), (s4, aI d 10 ((rhoursF (pl, me, ins, n, kp, rg, nk, dr, nc, wd) h m (vi, lt, su, la, pw, sh, cp, ha, co)).2.2.1)), (s5, aI d 6 kp), (s6, aI d 6 ((rhoursF (pl, me, ins, n, kp, rg, nk, dr, nc, wd) h m (vi, lt, su, la, pw, sh, cp, ha, co)).2.2.2.2.1)), (s7, aI d 6 ((rhoursF (pl, me, ins, n, kp, rg, nk, dr, nc, wd) h m (vi, lt, su, la, pw, sh, cp, ha, co)).2.2.2.2.2.1)), (s8, aI d 20 ((rhoursF (pl, me, ins, n, kp, rg, nk, dr, nc, wd) h m (vi, lt, su, la, pw, sh, cp, ha, co)).2.2.2.2.2.2.1)), (s9, aI d 20 ((rhoursF (pl, me, ins, n, kp, rg, nk, dr, nc, wd) h m (vi, lt, su, la, pw, sh, cp, ha, co)).2.2.2.2.2.2.2.1)), (m0, .inr (6, [.int th, .int (nI n), .ref m1, .ref m2, .ref m3, .int (nI nk), .ref m4, .int (nI nc), .ref m5, .ref m6, .ref qs, .ref qa])), (m1, aI d 10 pl), (m2, aI d 10 (biF me)), (m3, aI d 10 (biF ins)), (m4, aI d 6 rg), (m5, aI d 20 dr), (m6, aI d 6 wd)]) := by
  refine yyV_of (own := RX5) [(0, .ref s0), (1, .int (nI m))] (by decide +kernel) rfl (Nat.le_of_ble_eq_true rfl) rfl ?_
  intro G Q hQ hGL hC hGA hin
  refine y_iconst (pc := 0) hC dX5_pass__0 0 (by decide) ?_
  refine y_istore_n (pc := 1) hC dX5_pass__1 [(2, .int 0), (0, .ref s0), (1, .int (nI m))] rfl (by decide) ?_
  have lpj1 : ∀ r1 j1 : Nat, j1 + r1 = m → yyW d G 0 0 Q [(s0, .inr (5, [.int (nI (h + j1)), .int ((yi j1 (rhoursS (pl, me, ins, n, kp, rg, nk, dr, nc, wd) h) (vi, lt, su, la, pw, sh, cp, ha, co)).2.2.2.2.2.2.2.2), .ref s1, .ref s2, .ref s3, .ref s4, .ref s5, .ref s6, .ref s7, .ref s8, .ref s9, .ref m0])), (s1, aI d 10 ((yi j1 (rhoursS (pl, me, ins, n, kp, rg, nk, dr, nc, wd) h) (vi, lt, su, la, pw, sh, cp, ha, co)).1)), (s2, aI d 10 ((yi j1 (rhoursS (pl, me, ins, n, kp, rg, nk, dr, nc, wd) h) (vi, lt, su, la, pw, sh, cp, ha, co)).2.1)), (s3, aI d 10 ((yi j1 (rhoursS (pl, me, ins, n, kp, rg, nk, dr, nc, wd) h) (vi, lt, su, la, pw, sh, cp, ha, co)).2.2.2.1)), (s4, aI d 10 ((yi j1 (rhoursS (pl, me, ins, n, kp, rg, nk, dr, nc, wd) h) (vi, lt, su, la, pw, sh, cp, ha, co)).2.2.1)), (s5, aI d 6 kp), (s6, aI d 6 ((yi j1 (rhoursS (pl, me, ins, n, kp, rg, nk, dr, nc, wd) h) (vi, lt, su, la, pw, sh, cp, ha, co)).2.2.2.2.1)), (s7, aI d 6 ((yi j1 (rhoursS (pl, me, ins, n, kp, rg, nk, dr, nc, wd) h) (vi, lt, su, la, pw, sh, cp, ha, co)).2.2.2.2.2.1)), (s8, aI d 20 ((yi j1 (rhoursS (pl, me, ins, n, kp, rg, nk, dr, nc, wd) h) (vi, lt, su, la, pw, sh, cp, ha, co)).2.2.2.2.2.2.1)), (s9, aI d 20 ((yi j1 (rhoursS (pl, me, ins, n, kp, rg, nk, dr, nc, wd) h) (vi, lt, su, la, pw, sh, cp, ha, co)).2.2.2.2.2.2.2.1)), (m0, .inr (6, [.int th, .int (nI n), .ref m1, .ref m2, .ref m3, .int (nI nk), .ref m4, .int (nI nc), .ref m5, .ref m6, .ref qs, .ref qa])), (m1, aI d 10 pl), (m2, aI d 10 (biF me)), (m3, aI d 10 (biF ins)), (m4, aI d 6 rg), (m5, aI d 20 dr), (m6, aI d 6 wd)] [(2, .int (nI j1)), (0, .ref s0), (1, .int (nI m))] 2 [] := by
    intro r1
    induction r1 with
    | zero =>
      intro j1 hj1
      have ej1 : j1 = m := by omega
      rw [ej1]
      refine y_iload_n (pc := 2) hC 0 dX5_pass__2 rfl ?_
      refine y_iload_n (pc := 3) hC 2 dX5_pass__3 rfl ?_
      refine y_ge_t (pc := 4) (a := m) (b := m) hC dX5_pass__4 17 (by decide) (by omega) (by omega) ?_
      exact y_vret (()) hC hQ (trivial) rfl (nb rfl) (nb rfl) dX5_pass__17
    | succ r1 ihj1 =>
      intro j1 hj1
      have lj1 : j1 < m := by omega
      refine y_iload_n (pc := 2) hC 0 dX5_pass__2 rfl ?_
      refine y_iload_n (pc := 3) hC 2 dX5_pass__3 rfl ?_
      refine y_ge_f (pc := 4) (a := j1) (b := m) hC dX5_pass__4 17 (by decide) (by omega) (by omega) ?_
      refine y_aload_n (pc := 7) hC 1 dX5_pass__7 rfl ?_
      refine y_cV (pc := 8) (As := []) (st := []) hC (c_X5_pass (gL G) d s0 s1 s2 s3 s4 s5 s6 s7 s8 s9 ((yi j1 (rhoursS (pl, me, ins, n, kp, rg, nk, dr, nc, wd) h) (vi, lt, su, la, pw, sh, cp, ha, co)).1) ((yi j1 (rhoursS (pl, me, ins, n, kp, rg, nk, dr, nc, wd) h) (vi, lt, su, la, pw, sh, cp, ha, co)).2.1) ((yi j1 (rhoursS (pl, me, ins, n, kp, rg, nk, dr, nc, wd) h) (vi, lt, su, la, pw, sh, cp, ha, co)).2.2.2.1) ((yi j1 (rhoursS (pl, me, ins, n, kp, rg, nk, dr, nc, wd) h) (vi, lt, su, la, pw, sh, cp, ha, co)).2.2.1) kp ((yi j1 (rhoursS (pl, me, ins, n, kp, rg, nk, dr, nc, wd) h) (vi, lt, su, la, pw, sh, cp, ha, co)).2.2.2.2.1) ((yi j1 (rhoursS (pl, me, ins, n, kp, rg, nk, dr, nc, wd) h) (vi, lt, su, la, pw, sh, cp, ha, co)).2.2.2.2.2.1) ((yi j1 (rhoursS (pl, me, ins, n, kp, rg, nk, dr, nc, wd) h) (vi, lt, su, la, pw, sh, cp, ha, co)).2.2.2.2.2.2.1) ((yi j1 (rhoursS (pl, me, ins, n, kp, rg, nk, dr, nc, wd) h) (vi, lt, su, la, pw, sh, cp, ha, co)).2.2.2.2.2.2.2.1) (h + j1) ((yi j1 (rhoursS (pl, me, ins, n, kp, rg, nk, dr, nc, wd) h) (vi, lt, su, la, pw, sh, cp, ha, co)).2.2.2.2.2.2.2.2) m0 m1 m2 m3 m4 m5 m6 qs qa pl me ins rg dr wd th n nk nc (by omega) (by omega) (by omega) (by omega)) kw_4_45 kw_4_42 kw_4_43 kw_4_44 kw_1_7 n_X5_pass ⟨⟨nb rfl, nb rfl⟩, ⟨nb rfl, nb rfl⟩, nb rfl⟩ [0, 1, 2, 3, 4, 5, 6, 7, 8, 9, 10, 11, 12, 13, 14, 15, 16] [] [0, 1, 2, 3, 4, 5, 6, 7, 8, 9, 10, 11, 12, 13, 14, 15, 16] 0 [] (fun _ => [(s0, .inr (5, [.int (nI ((h + j1) + 1)), .int ((rhourF (pl, me, ins, n, kp, rg, nk, dr, nc, wd) (h + j1) (((yi j1 (rhoursS (pl, me, ins, n, kp, rg, nk, dr, nc, wd) h) (vi, lt, su, la, pw, sh, cp, ha, co)).1), ((yi j1 (rhoursS (pl, me, ins, n, kp, rg, nk, dr, nc, wd) h) (vi, lt, su, la, pw, sh, cp, ha, co)).2.1), ((yi j1 (rhoursS (pl, me, ins, n, kp, rg, nk, dr, nc, wd) h) (vi, lt, su, la, pw, sh, cp, ha, co)).2.2.1), ((yi j1 (rhoursS (pl, me, ins, n, kp, rg, nk, dr, nc, wd) h) (vi, lt, su, la, pw, sh, cp, ha, co)).2.2.2.1), ((yi j1 (rhoursS (pl, me, ins, n, kp, rg, nk, dr, nc, wd) h) (vi, lt, su, la, pw, sh, cp, ha, co)).2.2.2.2.1), ((yi j1 (rhoursS (pl, me, ins, n, kp, rg, nk, dr, nc, wd) h) (vi, lt, su, la, pw, sh, cp, ha, co)).2.2.2.2.2.1), ((yi j1 (rhoursS (pl, me, ins, n, kp, rg, nk, dr, nc, wd) h) (vi, lt, su, la, pw, sh, cp, ha, co)).2.2.2.2.2.2.1), ((yi j1 (rhoursS (pl, me, ins, n, kp, rg, nk, dr, nc, wd) h) (vi, lt, su, la, pw, sh, cp, ha, co)).2.2.2.2.2.2.2.1), ((yi j1 (rhoursS (pl, me, ins, n, kp, rg, nk, dr, nc, wd) h) (vi, lt, su, la, pw, sh, cp, ha, co)).2.2.2.2.2.2.2.2))).2.2.2.2.2.2.2.2), .ref s1, .ref s2, .ref s3, .ref s4, .ref s5, .ref s6, .ref s7, .ref s8, .ref s9, .ref m0])), (s1, aI d 10 ((rhourF (pl, me, ins, n, kp, rg, nk, dr, nc, wd) (h + j1) (((yi j1 (rhoursS (pl, me, ins, n, kp, rg, nk, dr, nc, wd) h) (vi, lt, su, la, pw, sh, cp, ha, co)).1), ((yi j1 (rhoursS (pl, me, ins, n, kp, rg, nk, dr, nc, wd) h) (vi, lt, su, la, pw, sh, cp, ha, co)).2.1), ((yi j1 (rhoursS (pl, me, ins, n, kp, rg, nk, dr, nc, wd) h) (vi, lt, su, la, pw, sh, cp, ha, co)).2.2.1), ((yi j1 (rhoursS (pl, me, ins, n, kp, rg, nk, dr, nc, wd) h) (vi, lt, su, la, pw, sh, cp, ha, co)).2.2.2.1), ((yi j1 (rhoursS (pl, me, ins, n, kp, rg, nk, dr, nc, wd) h) (vi, lt, su, la, pw, sh, cp, ha, co)).2.2.2.2.1), ((yi j1 (rhoursS (pl, me, ins, n, kp, rg, nk, dr, nc, wd) h) (vi, lt, su, la, pw, sh, cp, ha, co)).2.2.2.2.2.1), ((yi j1 (rhoursS (pl, me, ins, n, kp, rg, nk, dr, nc, wd) h) (vi, lt, su, la, pw, sh, cp, ha, co)).2.2.2.2.2.2.1), ((yi j1 (rhoursS (pl, me, ins, n, kp, rg, nk, dr, nc, wd) h) (vi, lt, su, la, pw, sh, cp, ha, co)).2.2.2.2.2.2.2.1), ((yi j1 (rhoursS (pl, me, ins, n, kp, rg, nk, dr, nc, wd) h) (vi, lt, su, la, pw, sh, cp, ha, co)).2.2.2.2.2.2.2.2))).1)), (s2, aI d 10 ((rhourF (pl, me, ins, n, kp, rg, nk, dr, nc, wd) (h + j1) (((yi j1 (rhoursS (pl, me, ins, n, kp, rg, nk, dr, nc, wd) h) (vi, lt, su, la, pw, sh, cp, ha, co)).1), ((yi j1 (rhoursS (pl, me, ins, n, kp, rg, nk, dr, nc, wd) h) (vi, lt, su, la, pw, sh, cp, ha, co)).2.1), ((yi j1 (rhoursS (pl, me, ins, n, kp, rg, nk, dr, nc, wd) h) (vi, lt, su, la, pw, sh, cp, ha, co)).2.2.1), ((yi j1 (rhoursS (pl, me, ins, n, kp, rg, nk, dr, nc, wd) h) (vi, lt, su, la, pw, sh, cp, ha, co)).2.2.2.1), ((yi j1 (rhoursS (pl, me, ins, n, kp, rg, nk, dr, nc, wd) h) (vi, lt, su, la, pw, sh, cp, ha, co)).2.2.2.2.1), ((yi j1 (rhoursS (pl, me, ins, n, kp, rg, nk, dr, nc, wd) h) (vi, lt, su, la, pw, sh, cp, ha, co)).2.2.2.2.2.1), ((yi j1 (rhoursS (pl, me, ins, n, kp, rg, nk, dr, nc, wd) h) (vi, lt, su, la, pw, sh, cp, ha, co)).2.2.2.2.2.2.1), ((yi j1 (rhoursS (pl, me, ins, n, kp, rg, nk, dr, nc, wd) h) (vi, lt, su, la, pw, sh, cp, ha, co)).2.2.2.2.2.2.2.1), ((yi j1 (rhoursS (pl, me, ins, n, kp, rg, nk, dr, nc, wd) h) (vi, lt, su, la, pw, sh, cp, ha, co)).2.2.2.2.2.2.2.2))).2.1)), (s3, aI d 10 ((rhourF (pl, me, ins, n, kp, rg, nk, dr, nc, wd) (h + j1) (((yi j1 (rhoursS (pl, me, ins, n, kp, rg, nk, dr, nc, wd) h) (vi, lt, su, la, pw, sh, cp, ha, co)).1), ((yi j1 (rhoursS (pl, me, ins, n, kp, rg, nk, dr, nc, wd) h) (vi, lt, su, la, pw, sh, cp, ha, co)).2.1), ((yi j1 (rhoursS (pl, me, ins, n, kp, rg, nk, dr, nc, wd) h) (vi, lt, su, la, pw, sh, cp, ha, co)).2.2.1), ((yi j1 (rhoursS (pl, me, ins, n, kp, rg, nk, dr, nc, wd) h) (vi, lt, su, la, pw, sh, cp, ha, co)).2.2.2.1), ((yi j1 (rhoursS (pl, me, ins, n, kp, rg, nk, dr, nc, wd) h) (vi, lt, su, la, pw, sh, cp, ha, co)).2.2.2.2.1), ((yi j1 (rhoursS (pl, me, ins, n, kp, rg, nk, dr, nc, wd) h) (vi, lt, su, la, pw, sh, cp, ha, co)).2.2.2.2.2.1), ((yi j1 (rhoursS (pl, me, ins, n, kp, rg, nk, dr, nc, wd) h) (vi, lt, su, la, pw, sh, cp, ha, co)).2.2.2.2.2.2.1), ((yi j1 (rhoursS (pl, me, ins, n, kp, rg, nk, dr, nc, wd) h) (vi, lt, su, la, pw, sh, cp, ha, co)).2.2.2.2.2.2.2.1), ((yi j1 (rhoursS (pl, me, ins, n, kp, rg, nk, dr, nc, wd) h) (vi, lt, su, la, pw, sh, cp, ha, co)).2.2.2.2.2.2.2.2))).2.2.2.1)), (s4, aI d 10 ((rhourF (pl, me, ins, n, kp, rg, nk, dr, nc, wd) (h + j1) (((yi j1 (rhoursS (pl, me, ins, n, kp, rg, nk, dr, nc, wd) h) (vi, lt, su, la, pw, sh, cp, ha, co)).1), ((yi j1 (rhoursS (pl, me, ins, n, kp, rg, nk, dr, nc, wd) h) (vi, lt, su, la, pw, sh, cp, ha, co)).2.1), ((yi j1 (rhoursS (pl, me, ins, n, kp, rg, nk, dr, nc, wd) h) (vi, lt, su, la, pw, sh, cp, ha, co)).2.2.1), ((yi j1 (rhoursS (pl, me, ins, n, kp, rg, nk, dr, nc, wd) h) (vi, lt, su, la, pw, sh, cp, ha, co)).2.2.2.1), ((yi j1 (rhoursS (pl, me, ins, n, kp, rg, nk, dr, nc, wd) h) (vi, lt, su, la, pw, sh, cp, ha, co)).2.2.2.2.1), ((yi j1 (rhoursS (pl, me, ins, n, kp, rg, nk, dr, nc, wd) h) (vi, lt, su, la, pw, sh, cp, ha, co)).2.2.2.2.2.1), ((yi j1 (rhoursS (pl, me, ins, n, kp, rg, nk, dr, nc, wd) h) (vi, lt, su, la, pw, sh, cp, ha, co)).2.2.2.2.2.2.1), ((yi j1 (rhoursS (pl, me, ins, n, kp, rg, nk, dr, nc, wd) h) (vi, lt, su, la, pw, sh, cp, ha, co)).2.2.2.2.2.2.2.1), ((yi j1 (rhoursS (pl, me, ins, n, kp, rg, nk, dr, nc, wd) h) (vi, lt, su, la, pw, sh, cp, ha, co)).2.2.2.2.2.2.2.2))).2.2.1)), (s5, aI d 6 kp), (s6, aI d 6 ((rhourF (pl, me, ins, n, kp, rg, nk, dr, nc, wd) (h + j1) (((yi j1 (rhoursS (pl, me, ins, n, kp, rg, nk, dr, nc, wd) h) (vi, lt, su, la, pw, sh, cp, ha, co)).1), ((yi j1 (rhoursS (pl, me, ins, n, kp, rg, nk, dr, nc, wd) h) (vi, lt, su, la, pw, sh, cp, ha, co)).2.1), ((yi j1 (rhoursS (pl, me, ins, n, kp, rg, nk, dr, nc, wd) h) (vi, lt, su, la, pw, sh, cp, ha, co)).2.2.1), ((yi j1 (rhoursS (pl, me, ins, n, kp, rg, nk, dr, nc, wd) h) (vi, lt, su, la, pw, sh, cp, ha, co)).2.2.2.1), ((yi j1 (rhoursS (pl, me, ins, n, kp, rg, nk, dr, nc, wd) h) (vi, lt, su, la, pw, sh, cp, ha, co)).2.2.2.2.1), ((yi j1 (rhoursS (pl, me, ins, n, kp, rg, nk, dr, nc, wd) h) (vi, lt, su, la, pw, sh, cp, ha, co)).2.2.2.2.2.1), ((yi j1 (rhoursS (pl, me, ins, n, kp, rg, nk, dr, nc, wd) h) (vi, lt, su, la, pw, sh, cp, ha, co)).2.2.2.2.2.2.1), ((yi j1 (rhoursS (pl, me, ins, n, kp, rg, nk, dr, nc, wd) h) (vi, lt, su, la, pw, sh, cp, ha, co)).2.2.2.2.2.2.2.1), ((yi j1 (rhoursS (pl, me, ins, n, kp, rg, nk, dr, nc, wd) h) (vi, lt, su, la, pw, sh, cp, ha, co)).2.2.2.2.2.2.2.2))).2.2.2.2.1)), (s7, aI d 6 ((rhourF (pl, me, ins, n, kp, rg, nk, dr, nc, wd) (h + j1) (((yi j1 (rhoursS (pl, me, ins, n, kp, rg, nk, dr, nc, wd) h) (vi, lt, su, la, pw, sh, cp, ha, co)).1), ((yi j1 (rhoursS (pl, me, ins, n, kp, rg, nk, dr, nc, wd) h) (vi, lt, su, la, pw, sh, cp, ha, co)).2.1), ((yi j1 (rhoursS (pl, me, ins, n, kp, rg, nk, dr, nc, wd) h) (vi, lt, su, la, pw, sh, cp, ha, co)).2.2.1), ((yi j1 (rhoursS (pl, me, ins, n, kp, rg, nk, dr, nc, wd) h) (vi, lt, su, la, pw, sh, cp, ha, co)).2.2.2.1), ((yi j1 (rhoursS (pl, me, ins, n, kp, rg, nk, dr, nc, wd) h) (vi, lt, su, la, pw, sh, cp, ha, co)).2.2.2.2.1), ((yi j1 (rhoursS (pl, me, ins, n, kp, rg, nk, dr, nc, wd) h) (vi, lt, su, la, pw, sh, cp, ha, co)).2.2.2.2.2.1), ((yi j1 (rhoursS (pl, me, ins, n, kp, rg, nk, dr, nc, wd) h) (vi, lt, su, la, pw, sh, cp, ha, co)).2.2.2.2.2.2.1), ((yi j1 (rhoursS (pl, me, ins, n, kp, rg, nk, dr, nc, wd) h) (vi, lt, su, la, pw, sh, cp, ha, co)).2.2.2.2.2.2.2.1), ((yi j1 (rhoursS (pl, me, ins, n, kp, rg, nk, dr, nc, wd) h) (vi, lt, su, la, pw, sh, cp, ha, co)).2.2.2.2.2.2.2.2))).2.2.2.2.2.1)), (s8, aI d 20 ((rhourF (pl, me, ins, n, kp, rg, nk, dr, nc, wd) (h + j1) (((yi j1 (rhoursS (pl, me, ins, n, kp, rg, nk, dr, nc, wd) h) (vi, lt, su, la, pw, sh, cp, ha, co)).1), ((yi j1 (rhoursS (pl, me, ins, n, kp, rg, nk, dr, nc, wd) h) (vi, lt, su, la, pw, sh, cp, ha, co)).2.1), ((yi j1 (rhoursS (pl, me, ins, n, kp, rg, nk, dr, nc, wd) h) (vi, lt, su, la, pw, sh, cp, ha, co)).2.2.1), ((yi j1 (rhoursS (pl, me, ins, n, kp, rg, nk, dr, nc, wd) h) (vi, lt, su, la, pw, sh, cp, ha, co)).2.2.2.1), ((yi j1 (rhoursS (pl, me, ins, n, kp, rg, nk, dr, nc, wd) h) (vi, lt, su, la, pw, sh, cp, ha, co)).2.2.2.2.1), ((yi j1 (rhoursS (pl, me, ins, n, kp, rg, nk, dr, nc, wd) h) (vi, lt, su, la, pw, sh, cp, ha, co)).2.2.2.2.2.1), ((yi j1 (rhoursS (pl, me, ins, n, kp, rg, nk, dr, nc, wd) h) (vi, lt, su, la, pw, sh, cp, ha, co)).2.2.2.2.2.2.1), ((yi j1 (rhoursS (pl, me, ins, n, kp, rg, nk, dr, nc, wd) h) (vi, lt, su, la, pw, sh, cp, ha, co)).2.2.2.2.2.2.2.1), ((yi j1 (rhoursS (pl, me, ins, n, kp, rg, nk, dr, nc, wd) h) (vi, lt, su, la, pw, sh, cp, ha, co)).2.2.2.2.2.2.2.2))).2.2.2.2.2.2.1)), (s9, aI d 20 ((rhourF (pl, me, ins, n, kp, rg, nk, dr, nc, wd) (h + j1) (((yi j1 (rhoursS (pl, me, ins, n, kp, rg, nk, dr, nc, wd) h) (vi, lt, su, la, pw, sh, cp, ha, co)).1), ((yi j1 (rhoursS (pl, me, ins, n, kp, rg, nk, dr, nc, wd) h) (vi, lt, su, la, pw, sh, cp, ha, co)).2.1), ((yi j1 (rhoursS (pl, me, ins, n, kp, rg, nk, dr, nc, wd) h) (vi, lt, su, la, pw, sh, cp, ha, co)).2.2.1), ((yi j1 (rhoursS (pl, me, ins, n, kp, rg, nk, dr, nc, wd) h) (vi, lt, su, la, pw, sh, cp, ha, co)).2.2.2.1), ((yi j1 (rhoursS (pl, me, ins, n, kp, rg, nk, dr, nc, wd) h) (vi, lt, su, la, pw, sh, cp, ha, co)).2.2.2.2.1), ((yi j1 (rhoursS (pl, me, ins, n, kp, rg, nk, dr, nc, wd) h) (vi, lt, su, la, pw, sh, cp, ha, co)).2.2.2.2.2.1), ((yi j1 (rhoursS (pl, me, ins, n, kp, rg, nk, dr, nc, wd) h) (vi, lt, su, la, pw, sh, cp, ha, co)).2.2.2.2.2.2.1), ((yi j1 (rhoursS (pl, me, ins, n, kp, rg, nk, dr, nc, wd) h) (vi, lt, su, la, pw, sh, cp, ha, co)).2.2.2.2.2.2.2.1), ((yi j1 (rhoursS (pl, me, ins, n, kp, rg, nk, dr, nc, wd) h) (vi, lt, su, la, pw, sh, cp, ha, co)).2.2.2.2.2.2.2.2))).2.2.2.2.2.2.2.1)), (m0, .inr (6, [.int th, .int (nI n), .ref m1, .ref m2, .ref m3, .int (nI nk), .ref m4, .int (nI nc), .ref m5, .ref m6, .ref qs, .ref qa])), (m1, aI d 10 pl), (m2, aI d 10 (biF me)), (m3, aI d 10 (biF ins)), (m4, aI d 6 rg), (m5, aI d 20 dr), (m6, aI d 6 wd)]) rfl rfl ⟨rfl, by decide, rfl, by decide, by decide⟩ (fun _ => ⟨rfl, by decide⟩) rfl dX5_pass__8 ?_
      intro _ _
      refine y_iinc (pc := 11) hC 0 dX5_pass__11 (nI (j1 + 1)) [(2, .int (nI (j1 + 1))), (0, .ref s0), (1, .int (nI m))] rfl (nI_inc _) rfl (by decide) ?_
      refine y_goto (pc := 14) hC dX5_pass__14 2 (by decide) ?_
      refine y_ws [(s0, .inr (5, [.int (nI (h + (j1 + 1))), .int ((yi (j1 + 1) (rhoursS (pl, me, ins, n, kp, rg, nk, dr, nc, wd) h) (vi, lt, su, la, pw, sh, cp, ha, co)).2.2.2.2.2.2.2.2), .ref s1, .ref s2, .ref s3, .ref s4, .ref s5, .ref s6, .ref s7, .ref s8, .ref s9, .ref m0])), (s1, aI d 10 ((yi (j1 + 1) (rhoursS (pl, me, ins, n, kp, rg, nk, dr, nc, wd) h) (vi, lt, su, la, pw, sh, cp, ha, co)).1)), (s2, aI d 10 ((yi (j1 + 1) (rhoursS (pl, me, ins, n, kp, rg, nk, dr, nc, wd) h) (vi, lt, su, la, pw, sh, cp, ha, co)).2.1)), (s3, aI d 10 ((yi (j1 + 1) (rhoursS (pl, me, ins, n, kp, rg, nk, dr, nc, wd) h) (vi, lt, su, la, pw, sh, cp, ha, co)).2.2.2.1)), (s4, aI d 10 ((yi (j1 + 1) (rhoursS (pl, me, ins, n, kp, rg, nk, dr, nc, wd) h) (vi, lt, su, la, pw, sh, cp, ha, co)).2.2.1)), (s5, aI d 6 kp), (s6, aI d 6 ((yi (j1 + 1) (rhoursS (pl, me, ins, n, kp, rg, nk, dr, nc, wd) h) (vi, lt, su, la, pw, sh, cp, ha, co)).2.2.2.2.1)), (s7, aI d 6 ((yi (j1 + 1) (rhoursS (pl, me, ins, n, kp, rg, nk, dr, nc, wd) h) (vi, lt, su, la, pw, sh, cp, ha, co)).2.2.2.2.2.1)), (s8, aI d 20 ((yi (j1 + 1) (rhoursS (pl, me, ins, n, kp, rg, nk, dr, nc, wd) h) (vi, lt, su, la, pw, sh, cp, ha, co)).2.2.2.2.2.2.1)), (s9, aI d 20 ((yi (j1 + 1) (rhoursS (pl, me, ins, n, kp, rg, nk, dr, nc, wd) h) (vi, lt, su, la, pw, sh, cp, ha, co)).2.2.2.2.2.2.2.1)), (m0, .inr (6, [.int th, .int (nI n), .ref m1, .ref m2, .ref m3, .int (nI nk), .ref m4, .int (nI nc), .ref m5, .ref m6, .ref qs, .ref qa])), (m1, aI d 10 pl), (m2, aI d 10 (biF me)), (m3, aI d 10 (biF ins)), (m4, aI d 6 rg), (m5, aI d 20 dr), (m6, aI d 6 wd)] rfl ?_
      exact ihj1 (j1 + 1) (by omega)
  refine y_lv [(2, .int 0), (0, .ref s0), (1, .int (nI m))] [0, 1, 2] rfl ?_
  exact lpj1 m 0 (by omega)
theorem n_X5_pass_ : yyN yX5_pass_ RX5 1 := by refine ⟨rfl, ?_, ?_, ?_⟩ <;> decide +kernel
set_option maxHeartbeats 4000000 in
set_option maxRecDepth 100000 in
theorem c_X5_counted (l : Launch) (d : yyD) (s0 : Nat) (s1 : Nat) (s2 : Nat) (s3 : Nat) (s4 : Nat) (s5 : Nat) (s6 : Nat) (s7 : Nat) (s8 : Nat) (s9 : Nat) (vi : fI) (lt : fI) (la : fI) (su : fI) (kp : fI) (pw : fI) (sh : fI) (cp : fI) (ha : fI) (h : Nat) (co : Int32) (m0 : Nat) (m1 : Nat) (m2 : Nat) (m3 : Nat) (m4 : Nat) (m5 : Nat) (m6 : Nat) (qs : Nat) (qa : Nat) (pl : fI) (me : fB) (ins : fB) (rg : fI) (dr : fI) (wd : fI) (th : Int32) (n : Nat) (nk : Nat) (nc : Nat) (w : Nat) (hn : n ≤ 10) (hk : nk ≤ 6) (hc : nc ≤ 20) (hh : h < 1000000) (hw : w < 10) : yyI l yX5_counted cX5_counted 4 (some .int) { frames := 3, cells := 1, slots := 10, locals := 63 } d [.ref s0, .int (nI w)] [(s0, .inr (5, [.int (nI h), .int co, .ref s1, .ref s2, .ref s3, .ref s4, .ref s5, .ref s6, .ref s7, .ref s8, .ref s9, .ref m0])), (s1, aI d 10 vi), (s2, aI d 10 lt), (s3, aI d 10 la), (s4, aI d 10 su), (s5, aI d 6 kp), (s6, aI d 6 pw), (s7, aI d 6 sh), (s8, aI d 20 cp), (s9, aI d 20 ha), (m0, .inr (6, [.int th, .int (nI n), .ref m1, .ref m2, .ref m3, .int (nI nk), .ref m4, .int (nI nc), .ref m5, .ref m6, .ref qs, .ref qa])), (m1, aI d 10 pl), (m2, aI d 10 (biF me)), (m3, aI d 10 (biF ins)), (m4, aI d 6 rg), (m5, aI d 20 dr), (m6, aI d 6 wd)] [(s0, .inr (5, [.int (nI h), .int co, .ref s1, .ref s2, .ref s3, .ref s4, .ref s5, .ref s6, .ref s7, .ref s8, .ref s9, .ref m0])), (s1, aI d 10 vi), (s2, aI d 10 lt), (s3, aI d 10 la), (s4, aI d 10 su), (s5, aI d 6 kp), (s6, aI d 6 pw), (s7, aI d 6 sh), (s8, aI d 20 cp), (s9, aI d 20 ha), (m0, .inr (6, [.int th, .int (nI n), .ref m1, .ref m2, .ref m3, .int (nI nk), .ref m4, .int (nI nc), .ref m5, .ref m6, .ref qs, .ref qa])), (m1, aI d 10 pl), (m2, aI d 10 (biF me)), (m3, aI d 10 (biF ins)), (m4, aI d 6 rg), (m5, aI d 20 dr), (m6, aI d 6 wd)] (rtotF (pl, me, ins, n, kp, rg, nk, dr, nc, wd) h (vi, lt, su, la, pw, sh, cp, ha, co) w) := by
  refine yyI_of (own := RX5) [(0, .ref s0), (1, .int (nI w))] (by decide +kernel) rfl (Nat.le_of_ble_eq_true rfl) rfl ?_
  intro G Q hQ hGL hC hGA
  refine y_iconst (pc := 0) hC dX5_counted_0 0 (by decide) ?_
  refine y_istore_n (pc := 1) hC dX5_counted_1 [(2, .int 0), (0, .ref s0), (1, .int (nI w))] rfl (by decide) ?_
  refine y_iconst (pc := 2) hC dX5_counted_2 0 (by decide) ?_
  refine y_istore_n (pc := 3) hC dX5_counted_3 [(3, .int 0), (2, .int 0), (0, .ref s0), (1, .int (nI w))] rfl (by decide) ?_
  have lpj1 : ∀ r1 j1 : Nat, j1 + r1 = nc → yyW d G 0 0 Q [(s0, .inr (5, [.int (nI h), .int co, .ref s1, .ref s2, .ref s3, .ref s4, .ref s5, .ref s6, .ref s7, .ref s8, .ref s9, .ref m0])), (s1, aI d 10 vi), (s2, aI d 10 lt), (s3, aI d 10 la), (s4, aI d 10 su), (s5, aI d 6 kp), (s6, aI d 6 pw), (s7, aI d 6 sh), (s8, aI d 20 cp), (s9, aI d 20 ha), (m0, .inr (6, [.int th, .int (nI n), .ref m1, .ref m2, .ref m3, .int (nI nk), .ref m4, .int (nI nc), .ref m5, .ref m6, .ref qs, .ref qa])), (m1, aI d 10 pl), (m2, aI d 10 (biF me)), (m3, aI d 10 (biF ins)), (m4, aI d 6 rg), (m5, aI d 20 dr), (m6, aI d 6 wd)] [(3, .int (nI j1)), (2, .int (yi j1 (fun k a => a + cond (gnF cp k) 0 1) 0)), (0, .ref s0), (1, .int (nI w))] 4 [] := by
    intro r1
    induction r1 with
    | zero =>
      intro j1 hj1
      have ej1 : j1 = nc := by omega
      rw [ej1]
      refine y_iload_n (pc := 4) hC 0 dX5_counted_4 rfl ?_
      refine y_aload_n (pc := 5) hC 2 dX5_counted_5 rfl ?_
      refine y_get (pc := 6) hC 0 11 dX5_counted_6 rfl rfl inX5 (by decide) kw_3_99 rfl rfl ?_
      refine y_getN (pc := 9) hC 10 7 dX5_counted_9 rfl rfl inX6 (by decide) kn_18 rfl rfl ?_
      refine y_ge_t (pc := 12) (a := nc) (b := nc) hC dX5_counted_12 37 (by decide) (by omega) (by omega) ?_
      refine y_bipush (pc := 37) hC dX5_counted_37 10 (by decide) ?_
      refine y_newaI (pc := 39) hC dX5_counted_39 10 (fun q2 => [(s0, .inr (5, [.int (nI h), .int co, .ref s1, .ref s2, .ref s3, .ref s4, .ref s5, .ref s6, .ref s7, .ref s8, .ref s9, .ref m0])), (s1, aI d 10 vi), (s2, aI d 10 lt), (s3, aI d 10 la), (s4, aI d 10 su), (s5, aI d 6 kp), (s6, aI d 6 pw), (s7, aI d 6 sh), (s8, aI d 20 cp), (s9, aI d 20 ha), (m0, .inr (6, [.int th, .int (nI n), .ref m1, .ref m2, .ref m3, .int (nI nk), .ref m4, .int (nI nc), .ref m5, .ref m6, .ref qs, .ref qa])), (m1, aI d 10 pl), (m2, aI d 10 (biF me)), (m3, aI d 10 (biF ins)), (m4, aI d 6 rg), (m5, aI d 20 dr), (m6, aI d 6 wd), (q2, aI d 10 (fun _ => 0))]) rfl rfl kw_1_63 ⟨nb rfl, nb rfl⟩ (fun _ => rfl) (fun q2 => ?_)
      refine y_dup (pc := 41) hC dX5_counted_41 rfl ?_
      refine y_iconst (pc := 42) hC dX5_counted_42 0 (by decide) ?_
      refine y_aload_n (pc := 43) hC 2 dX5_counted_43 rfl ?_
      refine y_get (pc := 44) hC 0 0 dX5_counted_44 rfl rfl inX5 (by decide) kw_3_78 rfl rfl ?_
      refine y_iast (pc := 47) hC 17 (j := 0) dX5_counted_47 (upd (fun _ => 0) 0 (nI h)) [(s0, .inr (5, [.int (nI h), .int co, .ref s1, .ref s2, .ref s3, .ref s4, .ref s5, .ref s6, .ref s7, .ref s8, .ref s9, .ref m0])), (s1, aI d 10 vi), (s2, aI d 10 lt), (s3, aI d 10 la), (s4, aI d 10 su), (s5, aI d 6 kp), (s6, aI d 6 pw), (s7, aI d 6 sh), (s8, aI d 20 cp), (s9, aI d 20 ha), (m0, .inr (6, [.int th, .int (nI n), .ref m1, .ref m2, .ref m3, .int (nI nk), .ref m4, .int (nI nc), .ref m5, .ref m6, .ref qs, .ref qa])), (m1, aI d 10 pl), (m2, aI d 10 (biF me)), (m3, aI d 10 (biF ins)), (m4, aI d 6 rg), (m5, aI d 20 dr), (m6, aI d 6 wd), (q2, aI d 10 (upd (fun _ => 0) 0 (nI h)))] rfl (by omega) rfl rfl rfl ?_
      refine y_dup (pc := 48) hC dX5_counted_48 rfl ?_
      refine y_iconst (pc := 49) hC dX5_counted_49 1 (by decide) ?_
      refine y_aload_n (pc := 50) hC 2 dX5_counted_50 rfl ?_
      refine y_get (pc := 51) hC 0 0 dX5_counted_51 rfl rfl inX5 (by decide) kw_3_78 rfl rfl ?_
      refine y_bipush (pc := 54) hC dX5_counted_54 24 (by decide) ?_
      refine y_irem (pc := 56) hC dX5_counted_56 (nI (h % 24)) (pk_rem (by omega) (by decide) (by decide)) (by decide) ?_
      refine y_iast (pc := 57) hC 17 (j := 1) dX5_counted_57 (upd (upd (fun _ => 0) 0 (nI h)) 1 (nI (h % 24))) [(s0, .inr (5, [.int (nI h), .int co, .ref s1, .ref s2, .ref s3, .ref s4, .ref s5, .ref s6, .ref s7, .ref s8, .ref s9, .ref m0])), (s1, aI d 10 vi), (s2, aI d 10 lt), (s3, aI d 10 la), (s4, aI d 10 su), (s5, aI d 6 kp), (s6, aI d 6 pw), (s7, aI d 6 sh), (s8, aI d 20 cp), (s9, aI d 20 ha), (m0, .inr (6, [.int th, .int (nI n), .ref m1, .ref m2, .ref m3, .int (nI nk), .ref m4, .int (nI nc), .ref m5, .ref m6, .ref qs, .ref qa])), (m1, aI d 10 pl), (m2, aI d 10 (biF me)), (m3, aI d 10 (biF ins)), (m4, aI d 6 rg), (m5, aI d 20 dr), (m6, aI d 6 wd), (q2, aI d 10 (upd (upd (fun _ => 0) 0 (nI h)) 1 (nI (h % 24))))] rfl (by omega) rfl rfl rfl ?_
      refine y_dup (pc := 58) hC dX5_counted_58 rfl ?_
      refine y_iconst (pc := 59) hC dX5_counted_59 2 (by decide) ?_
      refine y_aload_n (pc := 60) hC 2 dX5_counted_60 rfl ?_
      refine y_get (pc := 61) hC 0 1 dX5_counted_61 rfl rfl inX5 (by decide) kw_3_79 rfl rfl ?_
      refine y_iast (pc := 64) hC 17 (j := 2) dX5_counted_64 (upd (upd (upd (fun _ => 0) 0 (nI h)) 1 (nI (h % 24))) 2 co) [(s0, .inr (5, [.int (nI h), .int co, .ref s1, .ref s2, .ref s3, .ref s4, .ref s5, .ref s6, .ref s7, .ref s8, .ref s9, .ref m0])), (s1, aI d 10 vi), (s2, aI d 10 lt), (s3, aI d 10 la), (s4, aI d 10 su), (s5, aI d 6 kp), (s6, aI d 6 pw), (s7, aI d 6 sh), (s8, aI d 20 cp), (s9, aI d 20 ha), (m0, .inr (6, [.int th, .int (nI n), .ref m1, .ref m2, .ref m3, .int (nI nk), .ref m4, .int (nI nc), .ref m5, .ref m6, .ref qs, .ref qa])), (m1, aI d 10 pl), (m2, aI d 10 (biF me)), (m3, aI d 10 (biF ins)), (m4, aI d 6 rg), (m5, aI d 20 dr), (m6, aI d 6 wd), (q2, aI d 10 (upd (upd (upd (fun _ => 0) 0 (nI h)) 1 (nI (h % 24))) 2 co))] rfl (by omega) rfl rfl rfl ?_
      refine y_dup (pc := 65) hC dX5_counted_65 rfl ?_
      refine y_iconst (pc := 66) hC dX5_counted_66 3 (by decide) ?_
      refine y_aload_n (pc := 67) hC 2 dX5_counted_67 rfl ?_
      refine y_aload_n (pc := 68) hC 2 dX5_counted_68 rfl ?_
      refine y_get (pc := 69) hC 0 2 dX5_counted_69 rfl rfl inX5 (by decide) kw_3_81 rfl rfl ?_
      refine y_aload_n (pc := 72) hC 2 dX5_counted_72 rfl ?_
      refine y_get (pc := 73) hC 0 11 dX5_counted_73 rfl rfl inX5 (by decide) kw_3_99 rfl rfl ?_
      refine y_getN (pc := 76) hC 10 1 dX5_counted_76 rfl rfl inX6 (by decide) kn_12 rfl rfl ?_
      refine y_cI (pc := 79) (As := [.ref s1, .int (nI n)]) (st := [.int 3, .ref q2, .ref q2]) hC (c_X5_sum10 (gL G) d s0 s1 s2 s3 s4 s5 s6 s7 s8 s9 h co m0 s1 vi n (by omega)) kw_4_28 kw_4_25 kw_4_27 kw_s14 kw_1_7 n_X5_sum10 ⟨⟨nb rfl, nb rfl⟩, ⟨nb rfl, nb rfl⟩, nb rfl⟩ [0, 1] [2, 3, 4, 5, 6, 7, 8, 9, 10, 11, 12, 13, 14, 15, 16, 17] [16, 17, 0, 1, 2, 3, 4, 5, 6, 7, 8, 9, 10, 11, 12, 13, 14, 15] 0 [(s2, aI d 10 lt), (s3, aI d 10 la), (s4, aI d 10 su), (s5, aI d 6 kp), (s6, aI d 6 pw), (s7, aI d 6 sh), (s8, aI d 20 cp), (s9, aI d 20 ha), (m0, .inr (6, [.int th, .int (nI n), .ref m1, .ref m2, .ref m3, .int (nI nk), .ref m4, .int (nI nc), .ref m5, .ref m6, .ref qs, .ref qa])), (m1, aI d 10 pl), (m2, aI d 10 (biF me)), (m3, aI d 10 (biF ins)), (m4, aI d 6 rg), (m5, aI d 20 dr), (m6, aI d 6 wd), (q2, aI d 10 (upd (upd (upd (fun _ => 0) 0 (nI h)) 1 (nI (h % 24))) 2 co))] [(s0, .inr (5, [.int (nI h), .int co, .ref s1, .ref s2, .ref s3, .ref s4, .ref s5, .ref s6, .ref s7, .ref s8, .ref s9, .ref m0])), (s1, aI d 10 vi), (s2, aI d 10 lt), (s3, aI d 10 la), (s4, aI d 10 su), (s5, aI d 6 kp), (s6, aI d 6 pw), (s7, aI d 6 sh), (s8, aI d 20 cp), (s9, aI d 20 ha), (m0, .inr (6, [.int th, .int (nI n), .ref m1, .ref m2, .ref m3, .int (nI nk), .ref m4, .int (nI nc), .ref m5, .ref m6, .ref qs, .ref qa])), (m1, aI d 10 pl), (m2, aI d 10 (biF me)), (m3, aI d 10 (biF ins)), (m4, aI d 6 rg), (m5, aI d 20 dr), (m6, aI d 6 wd), (q2, aI d 10 (upd (upd (upd (fun _ => 0) 0 (nI h)) 1 (nI (h % 24))) 2 co))] rfl rfl ⟨rfl, by decide, rfl, by decide, by decide⟩ ⟨rfl, by decide⟩ rfl dX5_counted_79 ?_
      refine y_iast (pc := 82) hC 17 (j := 3) dX5_counted_82 (upd (upd (upd (upd (fun _ => 0) 0 (nI h)) 1 (nI (h % 24))) 2 co) 3 (sumF vi n)) [(s0, .inr (5, [.int (nI h), .int co, .ref s1, .ref s2, .ref s3, .ref s4, .ref s5, .ref s6, .ref s7, .ref s8, .ref s9, .ref m0])), (s1, aI d 10 vi), (s2, aI d 10 lt), (s3, aI d 10 la), (s4, aI d 10 su), (s5, aI d 6 kp), (s6, aI d 6 pw), (s7, aI d 6 sh), (s8, aI d 20 cp), (s9, aI d 20 ha), (m0, .inr (6, [.int th, .int (nI n), .ref m1, .ref m2, .ref m3, .int (nI nk), .ref m4, .int (nI nc), .ref m5, .ref m6, .ref qs, .ref qa])), (m1, aI d 10 pl), (m2, aI d 10 (biF me)), (m3, aI d 10 (biF ins)), (m4, aI d 6 rg), (m5, aI d 20 dr), (m6, aI d 6 wd), (q2, aI d 10 (upd (upd (upd (upd (fun _ => 0) 0 (nI h)) 1 (nI (h % 24))) 2 co) 3 (sumF vi n)))] rfl (by omega) rfl rfl rfl ?_
      refine y_dup (pc := 83) hC dX5_counted_83 rfl ?_
      refine y_iconst (pc := 84) hC dX5_counted_84 4 (by decide) ?_
      refine y_aload_n (pc := 85) hC 2 dX5_counted_85 rfl ?_
      refine y_cI (pc := 86) (As := []) (st := [.int 4, .ref q2, .ref q2]) hC (c_X5_losses (gL G) d s0 s1 s2 s3 s4 s5 s6 s7 s8 s9 la h co m0 m1 m2 m3 m4 m5 m6 qs qa th n nk nc (by omega)) kw_4_32 kw_4_29 kw_4_30 kw_4_31 kw_1_7 n_X5_losses ⟨⟨nb rfl, nb rfl⟩, ⟨nb rfl, nb rfl⟩, nb rfl⟩ [0, 3, 10] [1, 2, 4, 5, 6, 7, 8, 9, 11, 12, 13, 14, 15, 16, 17] [15, 0, 1, 16, 2, 3, 4, 5, 6, 7, 17, 8, 9, 10, 11, 12, 13, 14] 0 [(s1, aI d 10 vi), (s2, aI d 10 lt), (s4, aI d 10 su), (s5, aI d 6 kp), (s6, aI d 6 pw), (s7, aI d 6 sh), (s8, aI d 20 cp), (s9, aI d 20 ha), (m1, aI d 10 pl), (m2, aI d 10 (biF me)), (m3, aI d 10 (biF ins)), (m4, aI d 6 rg), (m5, aI d 20 dr), (m6, aI d 6 wd), (q2, aI d 10 (upd (upd (upd (upd (fun _ => 0) 0 (nI h)) 1 (nI (h % 24))) 2 co) 3 (sumF vi n)))] [(s0, .inr (5, [.int (nI h), .int co, .ref s1, .ref s2, .ref s3, .ref s4, .ref s5, .ref s6, .ref s7, .ref s8, .ref s9, .ref m0])), (s1, aI d 10 vi), (s2, aI d 10 lt), (s3, aI d 10 la), (s4, aI d 10 su), (s5, aI d 6 kp), (s6, aI d 6 pw), (s7, aI d 6 sh), (s8, aI d 20 cp), (s9, aI d 20 ha), (m0, .inr (6, [.int th, .int (nI n), .ref m1, .ref m2, .ref m3, .int (nI nk), .ref m4, .int (nI nc), .ref m5, .ref m6, .ref qs, .ref qa])), (m1, aI d 10 pl), (m2, aI d 10 (biF me)), (m3, aI d 10 (biF ins)), (m4, aI d 6 rg), (m5, aI d 20 dr), (m6, aI d 6 wd), (q2, aI d 10 (upd (upd (upd (upd (fun _ => 0) 0 (nI h)) 1 (nI (h % 24))) 2 co) 3 (sumF vi n)))] rfl rfl ⟨rfl, by decide, rfl, by decide, by decide⟩ ⟨rfl, by decide⟩ rfl dX5_counted_86 ?_
      refine y_iast (pc := 89) hC 17 (j := 4) dX5_counted_89 (upd (upd (upd (upd (upd (fun _ => 0) 0 (nI h)) 1 (nI (h % 24))) 2 co) 3 (sumF vi n)) 4 (sumF la n)) [(s0, .inr (5, [.int (nI h), .int co, .ref s1, .ref s2, .ref s3, .ref s4, .ref s5, .ref s6, .ref s7, .ref s8, .ref s9, .ref m0])), (s1, aI d 10 vi), (s2, aI d 10 lt), (s3, aI d 10 la), (s4, aI d 10 su), (s5, aI d 6 kp), (s6, aI d 6 pw), (s7, aI d 6 sh), (s8, aI d 20 cp), (s9, aI d 20 ha), (m0, .inr (6, [.int th, .int (nI n), .ref m1, .ref m2, .ref m3, .int (nI nk), .ref m4, .int (nI nc), .ref m5, .ref m6, .ref qs, .ref qa])), (m1, aI d 10 pl), (m2, aI d 10 (biF me)), (m3, aI d 10 (biF ins)), (m4, aI d 6 rg), (m5, aI d 20 dr), (m6, aI d 6 wd), (q2, aI d 10 (upd (upd (upd (upd (upd (fun _ => 0) 0 (nI h)) 1 (nI (h % 24))) 2 co) 3 (sumF vi n)) 4 (sumF la n)))] rfl (by omega) rfl rfl rfl ?_
      refine y_dup (pc := 90) hC dX5_counted_90 rfl ?_
      refine y_iconst (pc := 91) hC dX5_counted_91 5 (by decide) ?_
      refine y_aload_n (pc := 92) hC 2 dX5_counted_92 rfl ?_
      refine y_aload_n (pc := 93) hC 2 dX5_counted_93 rfl ?_
      refine y_get (pc := 94) hC 0 5 dX5_counted_94 rfl rfl inX5 (by decide) kw_3_87 rfl rfl ?_
      refine y_aload_n (pc := 97) hC 2 dX5_counted_97 rfl ?_
      refine y_get (pc := 98) hC 0 11 dX5_counted_98 rfl rfl inX5 (by decide) kw_3_99 rfl rfl ?_
      refine y_getN (pc := 101) hC 10 1 dX5_counted_101 rfl rfl inX6 (by decide) kn_12 rfl rfl ?_
      refine y_cI (pc := 104) (As := [.ref s4, .int (nI n)]) (st := [.int 5, .ref q2, .ref q2]) hC (c_X5_sum10 (gL G) d s0 s1 s2 s3 s4 s5 s6 s7 s8 s9 h co m0 s4 su n (by omega)) kw_4_28 kw_4_25 kw_4_27 kw_s14 kw_1_7 n_X5_sum10 ⟨⟨nb rfl, nb rfl⟩, ⟨nb rfl, nb rfl⟩, nb rfl⟩ [0, 4] [1, 2, 3, 5, 6, 7, 8, 9, 10, 11, 12, 13, 14, 15, 16, 17] [16, 0, 1, 2, 17, 3, 4, 5, 6, 7, 8, 9, 10, 11, 12, 13, 14, 15] 0 [(s1, aI d 10 vi), (s2, aI d 10 lt), (s3, aI d 10 la), (s5, aI d 6 kp), (s6, aI d 6 pw), (s7, aI d 6 sh), (s8, aI d 20 cp), (s9, aI d 20 ha), (m0, .inr (6, [.int th, .int (nI n), .ref m1, .ref m2, .ref m3, .int (nI nk), .ref m4, .int (nI nc), .ref m5, .ref m6, .ref qs, .ref qa])), (m1, aI d 10 pl), (m2, aI d 10 (biF me)), (m3, aI d 10 (biF ins)), (m4, aI d 6 rg), (m5, aI d 20 dr), (m6, aI d 6 wd), (q2, aI d 10 (upd (upd (upd (upd (upd (fun _ => 0) 0 (nI h)) 1 (nI (h % 24))) 2 co) 3 (sumF vi n)) 4 (sumF la n)))] [(s0, .inr (5, [.int (nI h), .int co, .ref s1, .ref s2, .ref s3, .ref s4, .ref s5, .ref s6, .ref s7, .ref s8, .ref s9, .ref m0])), (s1, aI d 10 vi), (s2, aI d 10 lt), (s3, aI d 10 la), (s4, aI d 10 su), (s5, aI d 6 kp), (s6, aI d 6 pw), (s7, aI d 6 sh), (s8, aI d 20 cp), (s9, aI d 20 ha), (m0, .inr (6, [.int th, .int (nI n), .ref m1, .ref m2, .ref m3, .int (nI nk), .ref m4, .int (nI nc), .ref m5, .ref m6, .ref qs, .ref qa])), (m1, aI d 10 pl), (m2, aI d 10 (biF me)), (m3, aI d 10 (biF ins)), (m4, aI d 6 rg), (m5, aI d 20 dr), (m6, aI d 6 wd), (q2, aI d 10 (upd (upd (upd (upd (upd (fun _ => 0) 0 (nI h)) 1 (nI (h % 24))) 2 co) 3 (sumF vi n)) 4 (sumF la n)))] rfl rfl ⟨rfl, by decide, rfl, by decide, by decide⟩ ⟨rfl, by decide⟩ rfl dX5_counted_104 ?_
      refine y_iast (pc := 107) hC 17 (j := 5) dX5_counted_107 (upd (upd (upd (upd (upd (upd (fun _ => 0) 0 (nI h)) 1 (nI (h % 24))) 2 co) 3 (sumF vi n)) 4 (sumF la n)) 5 (sumF su n)) [(s0, .inr (5, [.int (nI h), .int co, .ref s1, .ref s2, .ref s3, .ref s4, .ref s5, .ref s6, .ref s7, .ref s8, .ref s9, .ref m0])), (s1, aI d 10 vi), (s2, aI d 10 lt), (s3, aI d 10 la), (s4, aI d 10 su), (s5, aI d 6 kp), (s6, aI d 6 pw), (s7, aI d 6 sh), (s8, aI d 20 cp), (s9, aI d 20 ha), (m0, .inr (6, [.int th, .int (nI n), .ref m1, .ref m2, .ref m3, .int (nI nk), .ref m4, .int (nI nc), .ref m5, .ref m6, .ref qs, .ref qa])), (m1, aI d 10 pl), (m2, aI d 10 (biF me)), (m3, aI d 10 (biF ins)), (m4, aI d 6 rg), (m5, aI d 20 dr), (m6, aI d 6 wd), (q2, aI d 10 (upd (upd (upd (upd (upd (upd (fun _ => 0) 0 (nI h)) 1 (nI (h % 24))) 2 co) 3 (sumF vi n)) 4 (sumF la n)) 5 (sumF su n)))] rfl (by omega) rfl rfl rfl ?_
      refine y_dup (pc := 108) hC dX5_counted_108 rfl ?_
      refine y_bipush (pc := 109) hC dX5_counted_109 6 (by decide) ?_
      refine y_aload_n (pc := 111) hC 2 dX5_counted_111 rfl ?_
      refine y_aload_n (pc := 112) hC 2 dX5_counted_112 rfl ?_
      refine y_get (pc := 113) hC 0 11 dX5_counted_113 rfl rfl inX5 (by decide) kw_3_99 rfl rfl ?_
      refine y_getN (pc := 116) hC 10 3 dX5_counted_116 rfl rfl inX6 (by decide) kn_14 rfl rfl ?_
      refine y_aload_n (pc := 119) hC 2 dX5_counted_119 rfl ?_
      refine y_get (pc := 120) hC 0 11 dX5_counted_120 rfl rfl inX5 (by decide) kw_3_99 rfl rfl ?_
      refine y_getN (pc := 123) hC 10 1 dX5_counted_123 rfl rfl inX6 (by decide) kn_12 rfl rfl ?_
      refine y_cI (pc := 126) (As := [.ref m2, .int (nI n)]) (st := [.int 6, .ref q2, .ref q2]) hC (c_X5_sum10 (gL G) d s0 s1 s2 s3 s4 s5 s6 s7 s8 s9 h co m0 m2 (biF me) n (by omega)) kw_4_28 kw_4_25 kw_4_27 kw_s14 kw_1_7 n_X5_sum10 ⟨⟨nb rfl, nb rfl⟩, ⟨nb rfl, nb rfl⟩, nb rfl⟩ [0, 12] [1, 2, 3, 4, 5, 6, 7, 8, 9, 10, 11, 13, 14, 15, 16, 17] [16, 0, 1, 2, 3, 4, 5, 6, 7, 8, 9, 10, 17, 11, 12, 13, 14, 15] 0 [(s1, aI d 10 vi), (s2, aI d 10 lt), (s3, aI d 10 la), (s4, aI d 10 su), (s5, aI d 6 kp), (s6, aI d 6 pw), (s7, aI d 6 sh), (s8, aI d 20 cp), (s9, aI d 20 ha), (m0, .inr (6, [.int th, .int (nI n), .ref m1, .ref m2, .ref m3, .int (nI nk), .ref m4, .int (nI nc), .ref m5, .ref m6, .ref qs, .ref qa])), (m1, aI d 10 pl), (m3, aI d 10 (biF ins)), (m4, aI d 6 rg), (m5, aI d 20 dr), (m6, aI d 6 wd), (q2, aI d 10 (upd (upd (upd (upd (upd (upd (fun _ => 0) 0 (nI h)) 1 (nI (h % 24))) 2 co) 3 (sumF vi n)) 4 (sumF la n)) 5 (sumF su n)))] [(s0, .inr (5, [.int (nI h), .int co, .ref s1, .ref s2, .ref s3, .ref s4, .ref s5, .ref s6, .ref s7, .ref s8, .ref s9, .ref m0])), (s1, aI d 10 vi), (s2, aI d 10 lt), (s3, aI d 10 la), (s4, aI d 10 su), (s5, aI d 6 kp), (s6, aI d 6 pw), (s7, aI d 6 sh), (s8, aI d 20 cp), (s9, aI d 20 ha), (m0, .inr (6, [.int th, .int (nI n), .ref m1, .ref m2, .ref m3, .int (nI nk), .ref m4, .int (nI nc), .ref m5, .ref m6, .ref qs, .ref qa])), (m1, aI d 10 pl), (m2, aI d 10 (biF me)), (m3, aI d 10 (biF ins)), (m4, aI d 6 rg), (m5, aI d 20 dr), (m6, aI d 6 wd), (q2, aI d 10 (upd (upd (upd (upd (upd (upd (fun _ => 0) 0 (nI h)) 1 (nI (h % 24))) 2 co) 3 (sumF vi n)) 4 (sumF la n)) 5 (sumF su n)))] rfl rfl ⟨rfl, by decide, rfl, by decide, by decide⟩ ⟨rfl, by decide⟩ rfl dX5_counted_126 ?_
      refine y_iast (pc := 129) hC 17 (j := 6) dX5_counted_129 (upd (upd (upd (upd (upd (upd (upd (fun _ => 0) 0 (nI h)) 1 (nI (h % 24))) 2 co) 3 (sumF vi n)) 4 (sumF la n)) 5 (sumF su n)) 6 (sumF (biF me) n)) [(s0, .inr (5, [.int (nI h), .int co, .ref s1, .ref s2, .ref s3, .ref s4, .ref s5, .ref s6, .ref s7, .ref s8, .ref s9, .ref m0])), (s1, aI d 10 vi), (s2, aI d 10 lt), (s3, aI d 10 la), (s4, aI d 10 su), (s5, aI d 6 kp), (s6, aI d 6 pw), (s7, aI d 6 sh), (s8, aI d 20 cp), (s9, aI d 20 ha), (m0, .inr (6, [.int th, .int (nI n), .ref m1, .ref m2, .ref m3, .int (nI nk), .ref m4, .int (nI nc), .ref m5, .ref m6, .ref qs, .ref qa])), (m1, aI d 10 pl), (m2, aI d 10 (biF me)), (m3, aI d 10 (biF ins)), (m4, aI d 6 rg), (m5, aI d 20 dr), (m6, aI d 6 wd), (q2, aI d 10 (upd (upd (upd (upd (upd (upd (upd (fun _ => 0) 0 (nI h)) 1 (nI (h % 24))) 2 co) 3 (sumF vi n)) 4 (sumF la n)) 5 (sumF su n)) 6 (sumF (biF me) n)))] rfl (by omega) rfl rfl rfl ?_
      refine y_dup (pc := 130) hC dX5_counted_130 rfl ?_
      refine y_bipush (pc := 131) hC dX5_counted_131 7 (by decide) ?_
      refine y_aload_n (pc := 133) hC 2 dX5_counted_133 rfl ?_
      refine y_aload_n (pc := 134) hC 2 dX5_counted_134 rfl ?_
      refine y_get (pc := 135) hC 0 11 dX5_counted_135 rfl rfl inX5 (by decide) kw_3_99 rfl rfl ?_
      refine y_getN (pc := 138) hC 10 4 dX5_counted_138 rfl rfl inX6 (by decide) kn_15 rfl rfl ?_
      refine y_aload_n (pc := 141) hC 2 dX5_counted_141 rfl ?_
      refine y_get (pc := 142) hC 0 11 dX5_counted_142 rfl rfl inX5 (by decide) kw_3_99 rfl rfl ?_
      refine y_getN (pc := 145) hC 10 1 dX5_counted_145 rfl rfl inX6 (by decide) kn_12 rfl rfl ?_
      refine y_cI (pc := 148) (As := [.ref m3, .int (nI n)]) (st := [.int 7, .ref q2, .ref q2]) hC (c_X5_sum10 (gL G) d s0 s1 s2 s3 s4 s5 s6 s7 s8 s9 h co m0 m3 (biF ins) n (by omega)) kw_4_28 kw_4_25 kw_4_27 kw_s14 kw_1_7 n_X5_sum10 ⟨⟨nb rfl, nb rfl⟩, ⟨nb rfl, nb rfl⟩, nb rfl⟩ [0, 13] [1, 2, 3, 4, 5, 6, 7, 8, 9, 10, 11, 12, 14, 15, 16, 17] [16, 0, 1, 2, 3, 4, 5, 6, 7, 8, 9, 10, 11, 17, 12, 13, 14, 15] 0 [(s1, aI d 10 vi), (s2, aI d 10 lt), (s3, aI d 10 la), (s4, aI d 10 su), (s5, aI d 6 kp), (s6, aI d 6 pw), (s7, aI d 6 sh), (s8, aI d 20 cp), (s9, aI d 20 ha), (m0, .inr (6, [.int th, .int (nI n), .ref m1, .ref m2, .ref m3, .int (nI nk), .ref m4, .int (nI nc), .ref m5, .ref m6, .ref qs, .ref qa])), (m1, aI d 10 pl), (m2, aI d 10 (biF me)), (m4, aI d 6 rg), (m5, aI d 20 dr), (m6, aI d 6 wd), (q2, aI d 10 (upd (upd (upd (upd (upd (upd (upd (fun _ => 0) 0 (nI h)) 1 (nI (h % 24))) 2 co) 3 (sumF vi n)) 4 (sumF la n)) 5 (sumF su n)) 6 (sumF (biF me) n)))] [(s0, .inr (5, [.int (nI h), .int co, .ref s1, .ref s2, .ref s3, .ref s4, .ref s5, .ref s6, .ref s7, .ref s8, .ref s9, .ref m0])), (s1, aI d 10 vi), (s2, aI d 10 lt), (s3, aI d 10 la), (s4, aI d 10 su), (s5, aI d 6 kp), (s6, aI d 6 pw), (s7, aI d 6 sh), (s8, aI d 20 cp), (s9, aI d 20 ha), (m0, .inr (6, [.int th, .int (nI n), .ref m1, .ref m2, .ref m3, .int (nI nk), .ref m4, .int (nI nc), .ref m5, .ref m6, .ref qs, .ref qa])), (m1, aI d 10 pl), (m2, aI d 10 (biF me)), (m3, aI d 10 (biF ins)), (m4, aI d 6 rg), (m5, aI d 20 dr), (m6, aI d 6 wd), (q2, aI d 10 (upd (upd (upd (upd (upd (upd (upd (fun _ => 0) 0 (nI h)) 1 (nI (h % 24))) 2 co) 3 (sumF vi n)) 4 (sumF la n)) 5 (sumF su n)) 6 (sumF (biF me) n)))] rfl rfl ⟨rfl, by decide, rfl, by decide, by decide⟩ ⟨rfl, by decide⟩ rfl dX5_counted_148 ?_
      refine y_iast (pc := 151) hC 17 (j := 7) dX5_counted_151 (upd (upd (upd (upd (upd (upd (upd (upd (fun _ => 0) 0 (nI h)) 1 (nI (h % 24))) 2 co) 3 (sumF vi n)) 4 (sumF la n)) 5 (sumF su n)) 6 (sumF (biF me) n)) 7 (sumF (biF ins) n)) [(s0, .inr (5, [.int (nI h), .int co, .ref s1, .ref s2, .ref s3, .ref s4, .ref s5, .ref s6, .ref s7, .ref s8, .ref s9, .ref m0])), (s1, aI d 10 vi), (s2, aI d 10 lt), (s3, aI d 10 la), (s4, aI d 10 su), (s5, aI d 6 kp), (s6, aI d 6 pw), (s7, aI d 6 sh), (s8, aI d 20 cp), (s9, aI d 20 ha), (m0, .inr (6, [.int th, .int (nI n), .ref m1, .ref m2, .ref m3, .int (nI nk), .ref m4, .int (nI nc), .ref m5, .ref m6, .ref qs, .ref qa])), (m1, aI d 10 pl), (m2, aI d 10 (biF me)), (m3, aI d 10 (biF ins)), (m4, aI d 6 rg), (m5, aI d 20 dr), (m6, aI d 6 wd), (q2, aI d 10 (upd (upd (upd (upd (upd (upd (upd (upd (fun _ => 0) 0 (nI h)) 1 (nI (h % 24))) 2 co) 3 (sumF vi n)) 4 (sumF la n)) 5 (sumF su n)) 6 (sumF (biF me) n)) 7 (sumF (biF ins) n)))] rfl (by omega) rfl rfl rfl ?_
      refine y_dup (pc := 152) hC dX5_counted_152 rfl ?_
      refine y_bipush (pc := 153) hC dX5_counted_153 8 (by decide) ?_
      refine y_iload_n (pc := 155) hC 1 dX5_counted_155 rfl ?_
      refine y_iast (pc := 156) hC 17 (j := 8) dX5_counted_156 (upd (upd (upd (upd (upd (upd (upd (upd (upd (fun _ => 0) 0 (nI h)) 1 (nI (h % 24))) 2 co) 3 (sumF vi n)) 4 (sumF la n)) 5 (sumF su n)) 6 (sumF (biF me) n)) 7 (sumF (biF ins) n)) 8 (yi nc (fun k a => a + cond (gnF cp k) 0 1) 0)) [(s0, .inr (5, [.int (nI h), .int co, .ref s1, .ref s2, .ref s3, .ref s4, .ref s5, .ref s6, .ref s7, .ref s8, .ref s9, .ref m0])), (s1, aI d 10 vi), (s2, aI d 10 lt), (s3, aI d 10 la), (s4, aI d 10 su), (s5, aI d 6 kp), (s6, aI d 6 pw), (s7, aI d 6 sh), (s8, aI d 20 cp), (s9, aI d 20 ha), (m0, .inr (6, [.int th, .int (nI n), .ref m1, .ref m2, .ref m3, .int (nI nk), .ref m4, .int (nI nc), .ref m5, .ref m6, .ref qs, .ref qa])), (m1, aI d 10 pl), (m2, aI d 10 (biF me)), (m3, aI d 10 (biF ins)), (m4, aI d 6 rg), (m5, aI d 20 dr), (m6, aI d 6 wd), (q2, aI d 10 (upd (upd (upd (upd (upd (upd (upd (upd (upd (fun _ => 0) 0 (nI h)) 1 (nI (h % 24))) 2 co) 3 (sumF vi n)) 4 (sumF la n)) 5 (sumF su n)) 6 (sumF (biF me) n)) 7 (sumF (biF ins) n)) 8 (yi nc (fun k a => a + cond (gnF cp k) 0 1) 0)))] rfl (by omega) rfl rfl rfl ?_
      refine y_dup (pc := 157) hC dX5_counted_157 rfl ?_
      refine y_bipush (pc := 158) hC dX5_counted_158 9 (by decide) ?_
      refine y_aload_n (pc := 160) hC 2 dX5_counted_160 rfl ?_
      refine y_aload_n (pc := 161) hC 2 dX5_counted_161 rfl ?_
      refine y_get (pc := 162) hC 0 8 dX5_counted_162 rfl rfl inX5 (by decide) kw_3_93 rfl rfl ?_
      refine y_aload_n (pc := 165) hC 2 dX5_counted_165 rfl ?_
      refine y_get (pc := 166) hC 0 11 dX5_counted_166 rfl rfl inX5 (by decide) kw_3_99 rfl rfl ?_
      refine y_getN (pc := 169) hC 10 5 dX5_counted_169 rfl rfl inX6 (by decide) kn_16 rfl rfl ?_
      refine y_cI (pc := 172) (As := [.ref s7, .int (nI nk)]) (st := [.int 9, .ref q2, .ref q2]) hC (c_X5_sum6 (gL G) d s0 s1 s2 s3 s4 s5 s6 s7 s8 s9 h co m0 s7 sh nk (by omega)) kw_4_28 kw_4_25 kw_4_27 kw_s14 kw_1_7 n_X5_sum10 ⟨⟨nb rfl, nb rfl⟩, ⟨nb rfl, nb rfl⟩, nb rfl⟩ [0, 7] [1, 2, 3, 4, 5, 6, 8, 9, 10, 11, 12, 13, 14, 15, 16, 17] [16, 0, 1, 2, 3, 4, 5, 17, 6, 7, 8, 9, 10, 11, 12, 13, 14, 15] 0 [(s1, aI d 10 vi), (s2, aI d 10 lt), (s3, aI d 10 la), (s4, aI d 10 su), (s5, aI d 6 kp), (s6, aI d 6 pw), (s8, aI d 20 cp), (s9, aI d 20 ha), (m0, .inr (6, [.int th, .int (nI n), .ref m1, .ref m2, .ref m3, .int (nI nk), .ref m4, .int (nI nc), .ref m5, .ref m6, .ref qs, .ref qa])), (m1, aI d 10 pl), (m2, aI d 10 (biF me)), (m3, aI d 10 (biF ins)), (m4, aI d 6 rg), (m5, aI d 20 dr), (m6, aI d 6 wd), (q2, aI d 10 (upd (upd (upd (upd (upd (upd (upd (upd (upd (fun _ => 0) 0 (nI h)) 1 (nI (h % 24))) 2 co) 3 (sumF vi n)) 4 (sumF la n)) 5 (sumF su n)) 6 (sumF (biF me) n)) 7 (sumF (biF ins) n)) 8 (yi nc (fun k a => a + cond (gnF cp k) 0 1) 0)))] [(s0, .inr (5, [.int (nI h), .int co, .ref s1, .ref s2, .ref s3, .ref s4, .ref s5, .ref s6, .ref s7, .ref s8, .ref s9, .ref m0])), (s1, aI d 10 vi), (s2, aI d 10 lt), (s3, aI d 10 la), (s4, aI d 10 su), (s5, aI d 6 kp), (s6, aI d 6 pw), (s7, aI d 6 sh), (s8, aI d 20 cp), (s9, aI d 20 ha), (m0, .inr (6, [.int th, .int (nI n), .ref m1, .ref m2, .ref m3, .int (nI nk), .ref m4, .int (nI nc), .ref m5, .ref m6, .ref qs, .ref qa])), (m1, aI d 10 pl), (m2, aI d 10 (biF me)), (m3, aI d 10 (biF ins)), (m4, aI d 6 rg), (m5, aI d 20 dr), (m6, aI d 6 wd), (q2, aI d 10 (upd (upd (upd (upd (upd (upd (upd (upd (upd (fun _ => 0) 0 (nI h)) 1 (nI (h % 24))) 2 co) 3 (sumF vi n)) 4 (sumF la n)) 5 (sumF su n)) 6 (sumF (biF me) n)) 7 (sumF (biF ins) n)) 8 (yi nc (fun k a => a + cond (gnF cp k) 0 1) 0)))] rfl rfl ⟨rfl, by decide, rfl, by decide, by decide⟩ ⟨rfl, by decide⟩ rfl dX5_counted_172 ?_
      refine y_iast (pc := 175) hC 17 (j := 9) dX5_counted_175 (upd (upd (upd (upd (upd (upd (upd (upd (upd (upd (fun _ => 0) 0 (nI h)) 1 (nI (h % 24))) 2 co) 3 (sumF vi n)) 4 (sumF la n)) 5 (sumF su n)) 6 (sumF (biF me) n)) 7 (sumF (biF ins) n)) 8 (yi nc (fun k a => a + cond (gnF cp k) 0 1) 0)) 9 (sumF sh nk)) [(s0, .inr (5, [.int (nI h), .int co, .ref s1, .ref s2, .ref s3, .ref s4, .ref s5, .ref s6, .ref s7, .ref s8, .ref s9, .ref m0])), (s1, aI d 10 vi), (s2, aI d 10 lt), (s3, aI d 10 la), (s4, aI d 10 su), (s5, aI d 6 kp), (s6, aI d 6 pw), (s7, aI d 6 sh), (s8, aI d 20 cp), (s9, aI d 20 ha), (m0, .inr (6, [.int th, .int (nI n), .ref m1, .ref m2, .ref m3, .int (nI nk), .ref m4, .int (nI nc), .ref m5, .ref m6, .ref qs, .ref qa])), (m1, aI d 10 pl), (m2, aI d 10 (biF me)), (m3, aI d 10 (biF ins)), (m4, aI d 6 rg), (m5, aI d 20 dr), (m6, aI d 6 wd), (q2, aI d 10 (upd (upd (upd (upd (upd (upd (upd (upd (upd (upd (fun _ => 0) 0 (nI h)) 1 (nI (h % 24))) 2 co) 3 (sumF vi n)) 4 (sumF la n)) 5 (sumF su n)) 6 (sumF (biF me) n)) 7 (sumF (biF ins) n)) 8 (yi nc (fun k a => a + cond (gnF cp k) 0 1) 0)) 9 (sumF sh nk)))] rfl (by omega) rfl rfl rfl ?_
      refine y_astore_n (pc := 176) hC dX5_counted_176 [(3, .ref q2), (2, .int (yi nc (fun k a => a + cond (gnF cp k) 0 1) 0)), (0, .ref s0), (1, .int (nI w))] rfl (by decide) ?_
      refine y_aload_n (pc := 177) hC 0 dX5_counted_177 rfl ?_
      refine y_iload_n (pc := 178) hC 3 dX5_counted_178 rfl ?_
      refine y_iald (pc := 179) hC 17 (j := w) dX5_counted_179 ((upd (upd (upd (upd (upd (upd (upd (upd (upd (upd (fun _ => 0) 0 (nI h)) 1 (nI (h % 24))) 2 co) 3 (sumF vi n)) 4 (sumF la n)) 5 (sumF su n)) 6 (sumF (biF me) n)) 7 (sumF (biF ins) n)) 8 (yi nc (fun k a => a + cond (gnF cp k) 0 1) 0)) 9 (sumF sh nk)) w) rfl (by omega) rfl rfl ?_
      refine y_drop [(s0, .inr (5, [.int (nI h), .int co, .ref s1, .ref s2, .ref s3, .ref s4, .ref s5, .ref s6, .ref s7, .ref s8, .ref s9, .ref m0])), (s1, aI d 10 vi), (s2, aI d 10 lt), (s3, aI d 10 la), (s4, aI d 10 su), (s5, aI d 6 kp), (s6, aI d 6 pw), (s7, aI d 6 sh), (s8, aI d 20 cp), (s9, aI d 20 ha), (m0, .inr (6, [.int th, .int (nI n), .ref m1, .ref m2, .ref m3, .int (nI nk), .ref m4, .int (nI nc), .ref m5, .ref m6, .ref qs, .ref qa])), (m1, aI d 10 pl), (m2, aI d 10 (biF me)), (m3, aI d 10 (biF ins)), (m4, aI d 6 rg), (m5, aI d 20 dr), (m6, aI d 6 wd)] [0, 1, 2, 3, 4, 5, 6, 7, 8, 9, 10, 11, 12, 13, 14, 15, 16] rfl rfl rfl ?_
      exact y_iret hC hQ rfl rfl (upd10 _ _ _ _ _ _ _ _ _ _ (by omega)) (nb rfl) (nb rfl) dX5_counted_180
    | succ r1 ihj1 =>
      intro j1 hj1
      have lj1 : j1 < nc := by omega
      refine y_iload_n (pc := 4) hC 0 dX5_counted_4 rfl ?_
      refine y_aload_n (pc := 5) hC 2 dX5_counted_5 rfl ?_
      refine y_get (pc := 6) hC 0 11 dX5_counted_6 rfl rfl inX5 (by decide) kw_3_99 rfl rfl ?_
      refine y_getN (pc := 9) hC 10 7 dX5_counted_9 rfl rfl inX6 (by decide) kn_18 rfl rfl ?_
      refine y_ge_f (pc := 12) (a := j1) (b := nc) hC dX5_counted_12 37 (by decide) (by omega) (by omega) ?_
      refine y_iload_n (pc := 15) hC 1 dX5_counted_15 rfl ?_
      refine y_aload_n (pc := 16) hC 2 dX5_counted_16 rfl ?_
      refine y_iload_n (pc := 17) hC 0 dX5_counted_17 rfl ?_
      refine y_cI (pc := 18) (As := [.int (nI j1)]) (st := [.int (yi j1 (fun k a => a + cond (gnF cp k) 0 1) 0)]) hC (c_X5_isGone (gL G) d s0 s1 s2 s3 s4 s5 s6 s7 s8 s9 cp h co m0 j1 (by omega)) kw_4_1 kw_3_238 kw_3_239 kw_4_0 kw_1_7 n_X5_isGone ⟨⟨nb rfl, nb rfl⟩, ⟨nb rfl, nb rfl⟩, nb rfl⟩ [0, 8] [1, 2, 3, 4, 5, 6, 7, 9, 10, 11, 12, 13, 14, 15, 16] [15, 0, 1, 2, 3, 4, 5, 6, 16, 7, 8, 9, 10, 11, 12, 13, 14] 0 [(s1, aI d 10 vi), (s2, aI d 10 lt), (s3, aI d 10 la), (s4, aI d 10 su), (s5, aI d 6 kp), (s6, aI d 6 pw), (s7, aI d 6 sh), (s9, aI d 20 ha), (m0, .inr (6, [.int th, .int (nI n), .ref m1, .ref m2, .ref m3, .int (nI nk), .ref m4, .int (nI nc), .ref m5, .ref m6, .ref qs, .ref qa])), (m1, aI d 10 pl), (m2, aI d 10 (biF me)), (m3, aI d 10 (biF ins)), (m4, aI d 6 rg), (m5, aI d 20 dr), (m6, aI d 6 wd)] [(s0, .inr (5, [.int (nI h), .int co, .ref s1, .ref s2, .ref s3, .ref s4, .ref s5, .ref s6, .ref s7, .ref s8, .ref s9, .ref m0])), (s1, aI d 10 vi), (s2, aI d 10 lt), (s3, aI d 10 la), (s4, aI d 10 su), (s5, aI d 6 kp), (s6, aI d 6 pw), (s7, aI d 6 sh), (s8, aI d 20 cp), (s9, aI d 20 ha), (m0, .inr (6, [.int th, .int (nI n), .ref m1, .ref m2, .ref m3, .int (nI nk), .ref m4, .int (nI nc), .ref m5, .ref m6, .ref qs, .ref qa])), (m1, aI d 10 pl), (m2, aI d 10 (biF me)), (m3, aI d 10 (biF ins)), (m4, aI d 6 rg), (m5, aI d 20 dr), (m6, aI d 6 wd)] rfl rfl ⟨rfl, by decide, rfl, by decide, by decide⟩ ⟨rfl, by decide⟩ rfl dX5_counted_18 ?_
      refine y_beq (pc := 21) hC dX5_counted_21 28 (by decide) (fun c_3 => ?_) (fun c_3 => ?_)
      · refine y_iconst (pc := 28) hC dX5_counted_28 1 (by decide) ?_
        refine y_iadd (pc := 29) hC dX5_counted_29 ((yi j1 (fun k a => a + cond (gnF cp k) 0 1) 0) + 1) rfl ?_
        refine y_istore_n (pc := 30) hC dX5_counted_30 [(2, .int ((yi j1 (fun k a => a + cond (gnF cp k) 0 1) 0) + 1)), (3, .int (nI j1)), (0, .ref s0), (1, .int (nI w))] rfl (by decide) ?_
        refine y_iinc (pc := 31) hC 1 dX5_counted_31 (nI (j1 + 1)) [(3, .int (nI (j1 + 1))), (2, .int ((yi j1 (fun k a => a + cond (gnF cp k) 0 1) 0) + 1)), (0, .ref s0), (1, .int (nI w))] rfl (nI_inc _) rfl (by decide) ?_
        refine y_goto (pc := 34) hC dX5_counted_34 4 (by decide) ?_
        refine y_ws [(s0, .inr (5, [.int (nI h), .int co, .ref s1, .ref s2, .ref s3, .ref s4, .ref s5, .ref s6, .ref s7, .ref s8, .ref s9, .ref m0])), (s1, aI d 10 vi), (s2, aI d 10 lt), (s3, aI d 10 la), (s4, aI d 10 su), (s5, aI d 6 kp), (s6, aI d 6 pw), (s7, aI d 6 sh), (s8, aI d 20 cp), (s9, aI d 20 ha), (m0, .inr (6, [.int th, .int (nI n), .ref m1, .ref m2, .ref m3, .int (nI nk), .ref m4, .int (nI nc), .ref m5, .ref m6, .ref qs, .ref qa])), (m1, aI d 10 pl), (m2, aI d 10 (biF me)), (m3, aI d 10 (biF ins)), (m4, aI d 6 rg), (m5, aI d 20 dr), (m6, aI d 6 wd)] rfl ?_
        refine y_lve [(3, .int (nI (j1 + 1))), (2, .int (yi (j1 + 1) (fun k a => a + cond (gnF cp k) 0 1) 0)), (0, .ref s0), (1, .int (nI w))] (by simp only [yi, c_3, ↓reduceIte, cond_true, cond_false]) ?_
        exact ihj1 (j1 + 1) (by omega)
      · refine y_iconst (pc := 24) hC dX5_counted_24 0 (by decide) ?_
        refine y_goto (pc := 25) hC dX5_counted_25 29 (by decide) ?_
        refine y_iadd (pc := 29) hC dX5_counted_29 ((yi j1 (fun k a => a + cond (gnF cp k) 0 1) 0) + 0) rfl ?_
        refine y_istore_n (pc := 30) hC dX5_counted_30 [(2, .int ((yi j1 (fun k a => a + cond (gnF cp k) 0 1) 0) + 0)), (3, .int (nI j1)), (0, .ref s0), (1, .int (nI w))] rfl (by decide) ?_
        refine y_iinc (pc := 31) hC 1 dX5_counted_31 (nI (j1 + 1)) [(3, .int (nI (j1 + 1))), (2, .int ((yi j1 (fun k a => a + cond (gnF cp k) 0 1) 0) + 0)), (0, .ref s0), (1, .int (nI w))] rfl (nI_inc _) rfl (by decide) ?_
        refine y_goto (pc := 34) hC dX5_counted_34 4 (by decide) ?_
        refine y_ws [(s0, .inr (5, [.int (nI h), .int co, .ref s1, .ref s2, .ref s3, .ref s4, .ref s5, .ref s6, .ref s7, .ref s8, .ref s9, .ref m0])), (s1, aI d 10 vi), (s2, aI d 10 lt), (s3, aI d 10 la), (s4, aI d 10 su), (s5, aI d 6 kp), (s6, aI d 6 pw), (s7, aI d 6 sh), (s8, aI d 20 cp), (s9, aI d 20 ha), (m0, .inr (6, [.int th, .int (nI n), .ref m1, .ref m2, .ref m3, .int (nI nk), .ref m4, .int (nI nc), .ref m5, .ref m6, .ref qs, .ref qa])), (m1, aI d 10 pl), (m2, aI d 10 (biF me)), (m3, aI d 10 (biF ins)), (m4, aI d 6 rg), (m5, aI d 20 dr), (m6, aI d 6 wd)] rfl ?_
        refine y_lve [(3, .int (nI (j1 + 1))), (2, .int (yi (j1 + 1) (fun k a => a + cond (gnF cp k) 0 1) 0)), (0, .ref s0), (1, .int (nI w))] (by simp only [yi, c_3, ↓reduceIte, cond_true, cond_false]) ?_
        exact ihj1 (j1 + 1) (by omega)
  refine y_lv [(3, .int 0), (2, .int 0), (0, .ref s0), (1, .int (nI w))] [0, 1, 2, 3] rfl ?_
  exact lpj1 nc 0 (by omega)
theorem n_X5_counted : yyN yX5_counted RX5 1 := by refine ⟨rfl, ?_, ?_, ?_⟩ <;> decide +kernel
set_option maxHeartbeats 4000000 in
set_option maxRecDepth 100000 in
theorem c_X5_init (l : Launch) (d : yyD) (s0 : Nat) (m0 : Nat)  : yyV (S := Nat → Nat) l yX5_init cX5_init 2 { frames := 1, cells := 9, slots := 98, locals := 12 } d [.ref s0, .ref m0] [(s0, .inr (5, [.int 0, .int 0, .null, .null, .null, .null, .null, .null, .null, .null, .null, .null]))] (fun _ => True) (fun u => [(s0, .inr (5, [.int (nI 0), .int 50, .ref (u 1), .ref (u 2), .ref (u 3), .ref (u 4), .ref (u 5), .ref (u 6), .ref (u 7), .ref (u 8), .ref (u 9), .ref m0])), (u 1, aI d 10 (fun _ => 0)), (u 2, aI d 10 (fun _ => 0)), (u 3, aI d 10 (fun _ => 0)), (u 4, aI d 10 (fun _ => 0)), (u 5, aI d 6 (fun _ => 0)), (u 6, aI d 6 (fun _ => 0)), (u 7, aI d 6 (fun _ => 0)), (u 8, aI d 20 (fun _ => 0)), (u 9, aI d 20 (fun _ => 0))]) := by
  refine yyV_of (own := RX5) [(0, .ref s0), (1, .ref m0)] (by decide +kernel) rfl (Nat.le_of_ble_eq_true rfl) rfl ?_
  intro G Q hQ hGL hC hGA hin
  refine y_aload_n (pc := 0) hC 0 dX5_init_0 rfl ?_
  refine y_aload_n (pc := 1) hC 1 dX5_init_1 rfl ?_
  refine y_putF (pc := 2) hC hin 0 11 (.object "HailLeagueModel") dX5_init_2 tyX5 [(s0, .inr (5, [.int 0, .int 0, .null, .null, .null, .null, .null, .null, .null, .null, .null, .ref m0]))] rfl rfl rfl inX5 tyX5_ok nmX5 (by decide) kw_3_99 rfl rfl rfl (by decide +kernel) rfl rfl (Nat.le_of_ble_eq_true rfl) ?_
  refine y_aload_n (pc := 5) hC 0 dX5_init_5 rfl ?_
  refine y_obj (pc := 6) hC kw_3_77 kw_1_22 kw_1_23 ⟨nb rfl, nb rfl⟩ dX5_init_6 ?_
  refine y_aload_n (pc := 9) hC 0 dX5_init_9 rfl ?_
  refine y_bipush (pc := 10) hC dX5_init_10 50 (by decide) ?_
  refine y_put (pc := 12) hC 0 1 .int dX5_init_12 tyX5 [(s0, .inr (5, [.int 0, .int 50, .null, .null, .null, .null, .null, .null, .null, .null, .null, .ref m0]))] rfl rfl rfl inX5 tyX5_ok nmX5 (by decide) kw_3_79 rfl rfl (by decide +kernel) rfl rfl (Nat.le_of_ble_eq_true rfl) ?_
  refine y_aload_n (pc := 15) hC 0 dX5_init_15 rfl ?_
  refine y_bipush (pc := 16) hC dX5_init_16 10 (by decide) ?_
  refine y_newaI (pc := 18) hC dX5_init_18 10 (fun q1 => [(s0, .inr (5, [.int 0, .int 50, .null, .null, .null, .null, .null, .null, .null, .null, .null, .ref m0])), (q1, aI d 10 (fun _ => 0))]) rfl rfl kw_1_63 ⟨nb rfl, nb rfl⟩ (fun _ => rfl) (fun q1 => ?_)
  refine y_putF (pc := 20) hC hin 0 2 (.array .int) dX5_init_20 tyX5 [(s0, .inr (5, [.int 0, .int 50, .ref q1, .null, .null, .null, .null, .null, .null, .null, .null, .ref m0])), (q1, aI d 10 (fun _ => 0))] rfl rfl rfl inX5 tyX5_ok nmX5 (by decide) kw_3_81 rfl rfl rfl (by decide +kernel) rfl rfl (Nat.le_of_ble_eq_true rfl) ?_
  refine y_aload_n (pc := 23) hC 0 dX5_init_23 rfl ?_
  refine y_bipush (pc := 24) hC dX5_init_24 10 (by decide) ?_
  refine y_newaI (pc := 26) hC dX5_init_26 10 (fun q2 => [(s0, .inr (5, [.int 0, .int 50, .ref q1, .null, .null, .null, .null, .null, .null, .null, .null, .ref m0])), (q1, aI d 10 (fun _ => 0)), (q2, aI d 10 (fun _ => 0))]) rfl rfl kw_1_63 ⟨nb rfl, nb rfl⟩ (fun _ => rfl) (fun q2 => ?_)
  refine y_putF (pc := 28) hC hin 0 3 (.array .int) dX5_init_28 tyX5 [(s0, .inr (5, [.int 0, .int 50, .ref q1, .ref q2, .null, .null, .null, .null, .null, .null, .null, .ref m0])), (q1, aI d 10 (fun _ => 0)), (q2, aI d 10 (fun _ => 0))] rfl rfl rfl inX5 tyX5_ok nmX5 (by decide) kw_3_83 rfl rfl rfl (by decide +kernel) rfl rfl (Nat.le_of_ble_eq_true rfl) ?_
  refine y_aload_n (pc := 31) hC 0 dX5_init_31 rfl ?_
  refine y_bipush (pc := 32) hC dX5_init_32 10 (by decide) ?_
  refine y_newaI (pc := 34) hC dX5_init_34 10 (fun q3 => [(s0, .inr (5, [.int 0, .int 50, .ref q1, .ref q2, .null, .null, .null, .null, .null, .null, .null, .ref m0])), (q1, aI d 10 (fun _ => 0)), (q2, aI d 10 (fun _ => 0)), (q3, aI d 10 (fun _ => 0))]) rfl rfl kw_1_63 ⟨nb rfl, nb rfl⟩ (fun _ => rfl) (fun q3 => ?_)
  refine y_putF (pc := 36) hC hin 0 4 (.array .int) dX5_init_36 tyX5 [(s0, .inr (5, [.int 0, .int 50, .ref q1, .ref q2, .ref q3, .null, .null, .null, .null, .null, .null, .ref m0])), (q1, aI d 10 (fun _ => 0)), (q2, aI d 10 (fun _ => 0)), (q3, aI d 10 (fun _ => 0))] rfl rfl rfl inX5 tyX5_ok nmX5 (by decide) kw_3_85 rfl rfl rfl (by decide +kernel) rfl rfl (Nat.le_of_ble_eq_true rfl) ?_
  refine y_aload_n (pc := 39) hC 0 dX5_init_39 rfl ?_
  refine y_bipush (pc := 40) hC dX5_init_40 10 (by decide) ?_
  refine y_newaI (pc := 42) hC dX5_init_42 10 (fun q4 => [(s0, .inr (5, [.int 0, .int 50, .ref q1, .ref q2, .ref q3, .null, .null, .null, .null, .null, .null, .ref m0])), (q1, aI d 10 (fun _ => 0)), (q2, aI d 10 (fun _ => 0)), (q3, aI d 10 (fun _ => 0)), (q4, aI d 10 (fun _ => 0))]) rfl rfl kw_1_63 ⟨nb rfl, nb rfl⟩ (fun _ => rfl) (fun q4 => ?_)
  refine y_putF (pc := 44) hC hin 0 5 (.array .int) dX5_init_44 tyX5 [(s0, .inr (5, [.int 0, .int 50, .ref q1, .ref q2, .ref q3, .ref q4, .null, .null, .null, .null, .null, .ref m0])), (q1, aI d 10 (fun _ => 0)), (q2, aI d 10 (fun _ => 0)), (q3, aI d 10 (fun _ => 0)), (q4, aI d 10 (fun _ => 0))] rfl rfl rfl inX5 tyX5_ok nmX5 (by decide) kw_3_87 rfl rfl rfl (by decide +kernel) rfl rfl (Nat.le_of_ble_eq_true rfl) ?_
  refine y_aload_n (pc := 47) hC 0 dX5_init_47 rfl ?_
  refine y_bipush (pc := 48) hC dX5_init_48 6 (by decide) ?_
  refine y_newaI (pc := 50) hC dX5_init_50 6 (fun q5 => [(s0, .inr (5, [.int 0, .int 50, .ref q1, .ref q2, .ref q3, .ref q4, .null, .null, .null, .null, .null, .ref m0])), (q1, aI d 10 (fun _ => 0)), (q2, aI d 10 (fun _ => 0)), (q3, aI d 10 (fun _ => 0)), (q4, aI d 10 (fun _ => 0)), (q5, aI d 6 (fun _ => 0))]) rfl rfl kw_1_63 ⟨nb rfl, nb rfl⟩ (fun _ => rfl) (fun q5 => ?_)
  refine y_putF (pc := 52) hC hin 0 6 (.array .int) dX5_init_52 tyX5 [(s0, .inr (5, [.int 0, .int 50, .ref q1, .ref q2, .ref q3, .ref q4, .ref q5, .null, .null, .null, .null, .ref m0])), (q1, aI d 10 (fun _ => 0)), (q2, aI d 10 (fun _ => 0)), (q3, aI d 10 (fun _ => 0)), (q4, aI d 10 (fun _ => 0)), (q5, aI d 6 (fun _ => 0))] rfl rfl rfl inX5 tyX5_ok nmX5 (by decide) kw_3_89 rfl rfl rfl (by decide +kernel) rfl rfl (Nat.le_of_ble_eq_true rfl) ?_
  refine y_aload_n (pc := 55) hC 0 dX5_init_55 rfl ?_
  refine y_bipush (pc := 56) hC dX5_init_56 6 (by decide) ?_
  refine y_newaI (pc := 58) hC dX5_init_58 6 (fun q6 => [(s0, .inr (5, [.int 0, .int 50, .ref q1, .ref q2, .ref q3, .ref q4, .ref q5, .null, .null, .null, .null, .ref m0])), (q1, aI d 10 (fun _ => 0)), (q2, aI d 10 (fun _ => 0)), (q3, aI d 10 (fun _ => 0)), (q4, aI d 10 (fun _ => 0)), (q5, aI d 6 (fun _ => 0)), (q6, aI d 6 (fun _ => 0))]) rfl rfl kw_1_63 ⟨nb rfl, nb rfl⟩ (fun _ => rfl) (fun q6 => ?_)
  refine y_putF (pc := 60) hC hin 0 7 (.array .int) dX5_init_60 tyX5 [(s0, .inr (5, [.int 0, .int 50, .ref q1, .ref q2, .ref q3, .ref q4, .ref q5, .ref q6, .null, .null, .null, .ref m0])), (q1, aI d 10 (fun _ => 0)), (q2, aI d 10 (fun _ => 0)), (q3, aI d 10 (fun _ => 0)), (q4, aI d 10 (fun _ => 0)), (q5, aI d 6 (fun _ => 0)), (q6, aI d 6 (fun _ => 0))] rfl rfl rfl inX5 tyX5_ok nmX5 (by decide) kw_3_91 rfl rfl rfl (by decide +kernel) rfl rfl (Nat.le_of_ble_eq_true rfl) ?_
  refine y_aload_n (pc := 63) hC 0 dX5_init_63 rfl ?_
  refine y_bipush (pc := 64) hC dX5_init_64 6 (by decide) ?_
  refine y_newaI (pc := 66) hC dX5_init_66 6 (fun q7 => [(s0, .inr (5, [.int 0, .int 50, .ref q1, .ref q2, .ref q3, .ref q4, .ref q5, .ref q6, .null, .null, .null, .ref m0])), (q1, aI d 10 (fun _ => 0)), (q2, aI d 10 (fun _ => 0)), (q3, aI d 10 (fun _ => 0)), (q4, aI d 10 (fun _ => 0)), (q5, aI d 6 (fun _ => 0)), (q6, aI d 6 (fun _ => 0)), (q7, aI d 6 (fun _ => 0))]) rfl rfl kw_1_63 ⟨nb rfl, nb rfl⟩ (fun _ => rfl) (fun q7 => ?_)
  refine y_putF (pc := 68) hC hin 0 8 (.array .int) dX5_init_68 tyX5 [(s0, .inr (5, [.int 0, .int 50, .ref q1, .ref q2, .ref q3, .ref q4, .ref q5, .ref q6, .ref q7, .null, .null, .ref m0])), (q1, aI d 10 (fun _ => 0)), (q2, aI d 10 (fun _ => 0)), (q3, aI d 10 (fun _ => 0)), (q4, aI d 10 (fun _ => 0)), (q5, aI d 6 (fun _ => 0)), (q6, aI d 6 (fun _ => 0)), (q7, aI d 6 (fun _ => 0))] rfl rfl rfl inX5 tyX5_ok nmX5 (by decide) kw_3_93 rfl rfl rfl (by decide +kernel) rfl rfl (Nat.le_of_ble_eq_true rfl) ?_
  refine y_aload_n (pc := 71) hC 0 dX5_init_71 rfl ?_
  refine y_bipush (pc := 72) hC dX5_init_72 20 (by decide) ?_
  refine y_newaI (pc := 74) hC dX5_init_74 20 (fun q8 => [(s0, .inr (5, [.int 0, .int 50, .ref q1, .ref q2, .ref q3, .ref q4, .ref q5, .ref q6, .ref q7, .null, .null, .ref m0])), (q1, aI d 10 (fun _ => 0)), (q2, aI d 10 (fun _ => 0)), (q3, aI d 10 (fun _ => 0)), (q4, aI d 10 (fun _ => 0)), (q5, aI d 6 (fun _ => 0)), (q6, aI d 6 (fun _ => 0)), (q7, aI d 6 (fun _ => 0)), (q8, aI d 20 (fun _ => 0))]) rfl rfl kw_1_63 ⟨nb rfl, nb rfl⟩ (fun _ => rfl) (fun q8 => ?_)
  refine y_putF (pc := 76) hC hin 0 9 (.array .int) dX5_init_76 tyX5 [(s0, .inr (5, [.int 0, .int 50, .ref q1, .ref q2, .ref q3, .ref q4, .ref q5, .ref q6, .ref q7, .ref q8, .null, .ref m0])), (q1, aI d 10 (fun _ => 0)), (q2, aI d 10 (fun _ => 0)), (q3, aI d 10 (fun _ => 0)), (q4, aI d 10 (fun _ => 0)), (q5, aI d 6 (fun _ => 0)), (q6, aI d 6 (fun _ => 0)), (q7, aI d 6 (fun _ => 0)), (q8, aI d 20 (fun _ => 0))] rfl rfl rfl inX5 tyX5_ok nmX5 (by decide) kw_3_95 rfl rfl rfl (by decide +kernel) rfl rfl (Nat.le_of_ble_eq_true rfl) ?_
  refine y_aload_n (pc := 79) hC 0 dX5_init_79 rfl ?_
  refine y_bipush (pc := 80) hC dX5_init_80 20 (by decide) ?_
  refine y_newaI (pc := 82) hC dX5_init_82 20 (fun q9 => [(s0, .inr (5, [.int 0, .int 50, .ref q1, .ref q2, .ref q3, .ref q4, .ref q5, .ref q6, .ref q7, .ref q8, .null, .ref m0])), (q1, aI d 10 (fun _ => 0)), (q2, aI d 10 (fun _ => 0)), (q3, aI d 10 (fun _ => 0)), (q4, aI d 10 (fun _ => 0)), (q5, aI d 6 (fun _ => 0)), (q6, aI d 6 (fun _ => 0)), (q7, aI d 6 (fun _ => 0)), (q8, aI d 20 (fun _ => 0)), (q9, aI d 20 (fun _ => 0))]) rfl rfl kw_1_63 ⟨nb rfl, nb rfl⟩ (fun _ => rfl) (fun q9 => ?_)
  refine y_putF (pc := 84) hC hin 0 10 (.array .int) dX5_init_84 tyX5 [(s0, .inr (5, [.int 0, .int 50, .ref q1, .ref q2, .ref q3, .ref q4, .ref q5, .ref q6, .ref q7, .ref q8, .ref q9, .ref m0])), (q1, aI d 10 (fun _ => 0)), (q2, aI d 10 (fun _ => 0)), (q3, aI d 10 (fun _ => 0)), (q4, aI d 10 (fun _ => 0)), (q5, aI d 6 (fun _ => 0)), (q6, aI d 6 (fun _ => 0)), (q7, aI d 6 (fun _ => 0)), (q8, aI d 20 (fun _ => 0)), (q9, aI d 20 (fun _ => 0))] rfl rfl rfl inX5 tyX5_ok nmX5 (by decide) kw_3_97 rfl rfl rfl (by decide +kernel) rfl rfl (Nat.le_of_ble_eq_true rfl) ?_
  refine y_drop [(s0, .inr (5, [.int 0, .int 50, .ref q1, .ref q2, .ref q3, .ref q4, .ref q5, .ref q6, .ref q7, .ref q8, .ref q9, .ref m0])), (q1, aI d 10 (fun _ => 0)), (q2, aI d 10 (fun _ => 0)), (q3, aI d 10 (fun _ => 0)), (q4, aI d 10 (fun _ => 0)), (q5, aI d 6 (fun _ => 0)), (q6, aI d 6 (fun _ => 0)), (q7, aI d 6 (fun _ => 0)), (q8, aI d 20 (fun _ => 0)), (q9, aI d 20 (fun _ => 0))] [0, 1, 2, 3, 4, 5, 6, 7, 8, 9] rfl rfl rfl ?_
  exact y_vret (fun i => match i with | 1 => q1 | 2 => q2 | 3 => q3 | 4 => q4 | 5 => q5 | 6 => q6 | 7 => q7 | 8 => q8 | 9 => q9 | _ => s0) hC hQ (trivial) rfl (nb rfl) (nb rfl) dX5_init_87
theorem n_X5_init : yyN yX5_init RX5 1 := by refine ⟨rfl, ?_, ?_, ?_⟩ <;> decide +kernel
