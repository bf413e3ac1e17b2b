-- a row of booleans that a loop copies, element by element
/-- g with f's elements below n -/
def cpB (f : Nat → Bool) (n : Nat) (g : Nat → Bool) : Nat → Bool := yi n (fun k w => updB w k (f k)) g
theorem cpB_in (f g : Nat → Bool) (n : Nat) : ∀ j, j < n → yi n (fun k w => updB w k (f k)) g j = f j := by
  induction n with
  | zero => intro j hj; omega
  | succ n ih =>
    intro j hj
    show updB (yi n (fun k w => updB w k (f k)) g) n (f n) j = f j
    unfold updB
    by_cases e : j = n
    · rw [if_pos e, e]
    · rw [if_neg e]
      exact ih j (by omega)
theorem set_same {α : Type} {ws : List α} {q : Nat} {x : α} (h : ws[q]? = some x) : ws.set q x = ws := by
  refine List.ext_getElem? fun i => ?_
  rw [List.getElem?_set]
  by_cases e : q = i
  · rw [if_pos e]
    subst e
    obtain ⟨hl, _⟩ := List.getElem?_eq_some_iff.mp h
    rw [if_pos hl, h]
  · rw [if_neg e]
section YH
variable {d : yyD} {G : yyG} {k n : Nat} {Q : State → Prop} {ws : va_W} {lv : List (Nat × Value)} {pc : Nat} {st : List Value}
/-- rows that are alike below their length are one row -/
theorem y_aZx (q : Nat) {a m : Nat} {f : Nat → Bool} (g : Nat → Bool) (ws' : va_W) (ha : ws[q]? = some (a, aZ d m f)) (hx : ∀ j, j < m → f j = g j) (hws : ws.set q (a, aZ d m g) = ws') (kk : yyW d G k n Q ws' lv pc st) : yyW d G k n Q ws lv pc st := by
  intro H locs ls hP hD hS hl
  have hat : ∀ H2, va_at d.1 vwCl (a, aZ d m f) H2 → va_at d.1 vwCl (a, aZ d m g) H2 := by
    intro H2 h
    have e : vp_cell d.2.2.1 (m, .inl (fun k => bI (f k))) = vp_cell d.2.2.1 (m, .inl (fun k => bI (g k))) := arrV_ext d.2.2.1 m (f := fun j => .int (bI (f j))) (g := fun j => .int (bI (g j))) (fun j hj => by show Value.int (bI (f j)) = _; rw [hx j hj])
    show H2[a]? = some (vp_cell d.2.2.1 (m, .inl (fun k => bI (g k))))
    rw [← e]
    exact h
  rw [← set_same ha] at hP hD
  exact kk H locs ls (hws ▸ yyP_swap hP hat) (hws ▸ yyD_swap hD rfl) hS hl
end YH
