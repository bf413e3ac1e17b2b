-- THE LAW'S OWN VALLEY: Sim, by rows
abbrev fR : Type := Nat → Nat → Int32
theorem put_appM {wr w1 : va_W} (m : Nat) (h : w1.length = m) : yyPut wr w1 (w1 ++ wr) ((List.range m).map (fun i => wr.length + i) ++ List.range wr.length) := h ▸ put_app wr w1
section YK2
variable {d : yyD} {G : yyG} {k n : Nat} {Q : State → Prop} {lv : List (Nat × Value)} {pc : Nat} {st : List Value}
theorem yb_putp {w1 : va_W} {br : List va_W} (b1 : List va_W) (ps : List Nat) (m : Nat) (BB' : List va_W) (hw : fl b1 = w1) (hn : (b1 ++ br).length = m) (hp : ps.isPerm (List.range m) = true) (h : ps.map (fun i => (b1 ++ br)[i]?) = BB'.map some) (kk : yyW d G k n Q (fl BB') lv pc st) : yyW d G k n Q (w1 ++ fl br) lv pc st := by
  rw [← hw, ← fl_app]
  exact yb_pm ps m BB' hn hp h kk
end YK2
theorem fl_mem {BB : List va_W} {B : va_W} {x : Nat × va_E} (i : Nat) (hB : BB[i]? = some B) (hx : x ∈ B) : x ∈ fl BB := List.mem_flatten.mpr ⟨B, List.mem_of_getElem? hB, hx⟩
/-- the first j references of a run -/
def mvF (a : Nat → Nat) (j : Nat) : Nat → Option Nat := fun i => if i < j then some (a i) else none
theorem mv_0 (a : Nat → Nat) : (fun _ => none) = mvF a 0 := by
  funext i
  unfold mvF
  rw [if_neg (Nat.not_lt_zero i)]
theorem mv_s (a : Nat → Nat) (j : Nat) : va_up (mvF a j) j (some (a j)) = mvF a (j + 1) := by
  funext i
  unfold va_up mvF
  by_cases e : i = j
  · rw [if_pos e, if_pos (by omega), e]
  · rw [if_neg e]
    by_cases h : i < j
    · rw [if_pos h, if_pos (by omega)]
    · rw [if_neg h, if_neg (by omega)]
theorem mv_e (a : Nat → Nat) (n o : Nat) : ∀ i, i < n + 1 → va_up (mvF a n) n (some o) i = some (upN a n o i) := by
  intro i hi
  unfold va_up mvF upN
  by_cases e : i = n
  · rw [if_pos e, if_pos e]
  · rw [if_neg e, if_neg e, if_pos (by omega)]
/-- the cloud at which a cannon of place p, range r shoots: ring by ring -/
def hitC (L : fR) (p far : Int32) (c : Nat) : Bool := if L c 3 = 0 then (if L c 2 ≤ 0 then false else if L c 0 = p - far then true else if L c 0 = p + far then true else false) else false
def ringF (L : fR) (p far : Int32) : Nat → Nat → Option Nat
  | _, 0 => none
  | c, r + 1 => if hitC L p far c = true then some c else ringF L p far (c + 1) r
def aimR (L : fR) (p : Int32) (nc : Nat) : Nat → Nat → Int32
  | _, 0 => -1
  | f, r + 1 => match ringF L p (nI f) 0 nc with
    | some c => nI c
    | none => aimR L p nc (f + 1) r
def aimsF (L : fR) (p q : Int32) (r nc : Nat) : Int32 := if q ≤ 0 then -1 else aimR L p nc 0 (r + 1)
theorem ring_ix {L : fR} {p far : Int32} : ∀ {r c t : Nat}, ringF L p far c r = some t → t < c + r
  | 0, _, _, h => by cases h
  | r + 1, c, t, h => by
    unfold ringF at h
    by_cases e : hitC L p far c = true
    · rw [if_pos e] at h
      cases h
      omega
    · rw [if_neg e] at h
      have := ring_ix h
      omega
theorem aimR_ix {L : fR} {p : Int32} {nc : Nat} : ∀ {r f : Nat}, aimR L p nc f r = -1 ∨ ∃ t, t < nc ∧ aimR L p nc f r = nI t
  | 0, _ => Or.inl rfl
  | r + 1, f => by
    unfold aimR
    cases h : ringF L p (nI f) 0 nc with
    | some c => exact Or.inr ⟨c, by have := ring_ix h; omega, rfl⟩
    | none => exact aimR_ix
theorem aims_ix {L : fR} {p q : Int32} {r nc : Nat} (h : 0 ≤ aimsF L p q r nc) : ∃ t, t < nc ∧ aimsF L p q r nc = nI t := by
  unfold aimsF at h ⊢
  by_cases e : q ≤ 0
  · rw [if_pos e] at h
    exact absurd h (by decide)
  · rw [if_neg e] at h ⊢
    rcases aimR_ix (L := L) (p := p) (nc := nc) (r := r + 1) (f := 0) with g | g
    · rw [g] at h
      exact absurd h (by decide)
    · exact g
def sumR (F : fR) (w n : Nat) : Int32 := yi n (fun k a => a + F k w) 0
-- an hour, by rows
def dvS (b : Int32) (j : Nat) (L : fR) : fR := if L j 3 = 1 then L else up2 (up2 L j 0 (L j 0 + (b + L j 1))) j 3 (if L j 0 + (b + L j 1) < 0 then 1 else if L j 0 + (b + L j 1) ≤ 29 then 0 else 1)
def suS (p : Int32) (j : Nat) (Y : fR) : fR := if Y j 2 = 0 then (if Y j 0 < p - 2 then Y else if p + 2 < Y j 0 then Y else up2 Y j 5 (Y j 5 + 1)) else Y
def lessR (K L : fR) (i t : Nat) : Int32 := K i 1 - (if K i 0 ≤ L t 0 then L t 0 - K i 0 else K i 0 - L t 0) + 1
def shR (rr : Nat → Nat) (ny nc i : Nat) (w : fR × fR × fR) : fR × fR × fR :=
  if 0 ≤ aimsF w.2.1 (w.1 i 0) (w.1 i 2) (rr i) nc then
    (up2 (up2 w.1 i 2 (w.1 i 2 - 1)) i 3 (w.1 i 3 + 1),
     up2 w.2.1 (aimsF w.2.1 (w.1 i 0) (w.1 i 2) (rr i) nc).toNatClampNeg 2 (if w.2.1 (aimsF w.2.1 (w.1 i 0) (w.1 i 2) (rr i) nc).toNatClampNeg 2 ≤ lessR w.1 w.2.1 i (aimsF w.2.1 (w.1 i 0) (w.1 i 2) (rr i) nc).toNatClampNeg then 0 else w.2.1 (aimsF w.2.1 (w.1 i 0) (w.1 i 2) (rr i) nc).toNatClampNeg 2 - lessR w.1 w.2.1 i (aimsF w.2.1 (w.1 i 0) (w.1 i 2) (rr i) nc).toNatClampNeg),
     yi ny (suS (w.1 i 0)) w.2.2)
  else w
def ownR (y : Int32) : Int32 := if y ≤ 1 then y else 2
def hiS (x : Int32) (j : Nat) (w : fR × Int32) : fR × Int32 :=
  if w.1 j 0 = x then (up2 (up2 (up2 w.1 j 1 (w.1 j 1 - ownR (w.1 j 1))) j 4 (w.1 j 4 + ownR (w.1 j 1))) j 6 (w.1 j 6 + ownR (w.1 j 1)), w.2 + ownR (w.1 j 1)) else w
def drI (ny j : Nat) (w : fR × fR × Int32) : fR × fR × Int32 := (up2 w.1 j 2 (w.1 j 2 - 1), yi ny (hiS (w.1 j 0)) w.2)
def drR (ny j : Nat) : Nat → fR × fR × Int32 → fR × fR × Int32
  | 0, w => w
  | r + 1, w => if w.1 j 2 ≤ 0 then w else drR ny j r (drI ny j w)
def clR (ny j : Nat) (w : fR × fR × Int32) : fR × fR × Int32 := if w.1 j 3 = 1 then w else drR ny j 4 w
def coR (Y : fR) (j : Nat) (c : Int32) : Int32 := if Y j 3 = 1 then c - Y j 5 + 1 - Y j 4 / 2 else c - Y j 5
def dyR (j : Nat) (w : fR × Int32) : fR × Int32 :=
  (if w.1 j 1 ≤ 0 then up2 (up2 w.1 j 4 0) j 5 0 else if 99 ≤ w.1 j 1 then up2 (up2 w.1 j 4 0) j 5 0 else up2 (up2 (up2 w.1 j 4 0) j 5 0) j 1 (w.1 j 1 + 1), coR w.1 j w.2)
theorem shK1 {rr : Nat → Nat} {ny nc : Nat} {w : fR × fR × fR} : ∀ (j i : Nat), (yi j (shR rr ny nc) w).1 i 1 = w.1 i 1 := by
  intro j
  induction j with
  | zero => intro i; rfl
  | succ j ih =>
    intro i
    rw [← ih i]
    show (shR rr ny nc j (yi j (shR rr ny nc) w)).1 i 1 = _
    generalize yi j (shR rr ny nc) w = v
    unfold shR
    by_cases h : 0 ≤ aimsF v.2.1 (v.1 j 0) (v.1 j 2) (rr j) nc
    · rw [if_pos h]
      show up2 (up2 v.1 j 2 (v.1 j 2 - 1)) j 3 (v.1 j 3 + 1) i 1 = v.1 i 1
      by_cases e : i = j
      · rw [e, up2_j (by decide), up2_j (by decide)]
      · rw [up2_k e, up2_k e]
    · rw [if_neg h]
/-- what an hour makes of the rows: yards, cannons, clouds, coins, what is lost -/
def passL (b : Int32) (nc : Nat) (L : fR) : fR := yi nc (dvS b) L
def passK (rr : Nat → Nat) (ny nk nc : Nat) (w : fR × fR × fR) : fR × fR × fR := yi nk (shR rr ny nc) w
def passC (ny nc : Nat) (w : fR × fR × Int32) : fR × fR × Int32 := yi nc (clR ny) w
def passD (h ny : Nat) (w : fR × Int32) : fR × Int32 := if nI (h % 24) = 23 then yi ny dyR w else w
def simK (rr : Nat → Nat) (b : Int32) (ny nk nc : Nat) (Y K L : fR) : fR × fR × fR := passK rr ny nk nc (K, passL b nc L, Y)
def simC (rr : Nat → Nat) (b : Int32) (ny nk nc : Nat) (Y K L : fR) : fR × fR × Int32 := passC ny nc ((simK rr b ny nk nc Y K L).2.1, (simK rr b ny nk nc Y K L).2.2, 0)
def simD (rr : Nat → Nat) (b : Int32) (h ny nk nc : Nat) (Y K L : fR) (co : Int32) : fR × Int32 := passD h ny ((simC rr b ny nk nc Y K L).2.1, co)
