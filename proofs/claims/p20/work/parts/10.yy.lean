-- THE LAYER: a goal is a list of cells, a list of locals, a pc, a stack; what else a walk carries is bundled
def mn (x y : Int32) : Int32 := if y < x then y else x
def mx (x y : Int32) : Int32 := if x < y then y else x
def ab (x : Int32) : Int32 := if 0 ≤ x then x else 0 - x
def bI (b : Bool) : Int32 := if b then 1 else 0
/-- a fold over 0 .. n-1 -/
def yi {α : Type} : Nat → (Nat → α → α) → α → α
  | 0, _, x => x
  | n + 1, s, x => s n (yi n s x)
abbrev yyG : Type := Program × Launch × Env × Room × State × MethodId × Array Value × List Frame × Method × Code × (Nat → Prop) × Nat
abbrev gP (G : yyG) : Program := G.1
abbrev gL (G : yyG) : Launch := G.2.1
abbrev gE (G : yyG) : Env := G.2.2.1
abbrev gR (G : yyG) : Room := G.2.2.2.1
abbrev gS (G : yyG) : State := G.2.2.2.2.1
abbrev gM (G : yyG) : MethodId := G.2.2.2.2.2.1
abbrev gV (G : yyG) : Array Value := G.2.2.2.2.2.2.1
abbrev gB (G : yyG) : List Frame := G.2.2.2.2.2.2.2.1
abbrev gT (G : yyG) : Method := G.2.2.2.2.2.2.2.2.1
abbrev gC (G : yyG) : Code := G.2.2.2.2.2.2.2.2.2.1
abbrev gA (G : yyG) : Nat → Prop := G.2.2.2.2.2.2.2.2.2.2.1
abbrev gN (G : yyG) : Nat := G.2.2.2.2.2.2.2.2.2.2.2
abbrev yyD : Type := va_G × ClassId × ClassId × ClassId
abbrev aI (d : yyD) (n : Nat) (f : Nat → Int32) : va_E := .inl (d.2.1, n, .inl f)
abbrev aZ (d : yyD) (n : Nat) (f : Nat → Bool) : va_E := .inl (d.2.2.1, n, .inl (fun k => bI (f k)))
abbrev aR (d : yyD) (n : Nat) (f : Nat → Option Nat) : va_E := .inl (d.2.2.2, n, .inr (.inr (.inr (.inr f))))
def isNest : Cond → Bool
  | .fieldLinkNest .. => true
  | .methodLinkNest .. => true
  | .declares _ => true
  | .castable .. => true
  | _ => false
theorem NL_nest : ∀ w ∈ NL, isNest w = true := by
  intro w h
  have : NL.all isNest = true := rfl
  exact List.all_eq_true.mp this w h
theorem nest_warm {w : Cond} {s U : State} (hw : isNest w = true) (hW : s.WarmedH U.vm) (h : va_Nw w s) : va_Nw w U := by
  cases w <;> first | exact va_Nw.warmF hW h | exact va_Nw.warmM hW h | exact va_Nw.warmD hW h | exact va_Nw.warmC hW h | exact absurd hw (by simp [isNest])
theorem nest_on {w : Cond} (hw : isNest w = true) : w.onTables = true := by
  cases w <;> first | rfl | exact absurd hw (by simp [isNest])
/-- rows of rows are known -/
def yyO (U : State) : Prop := (Cond.arrayOver (.array .int)).before #[] U = true
def yyK (d : yyD) (U : State) : Prop := va_K d.1 vwCl [(d.2.1, .int), (d.2.2.1, .boolean), (d.2.2.2, .array .int)] U ∧ (∀ w ∈ NL, va_Nw w U) ∧ yyO U
theorem yyK.warm {d : yyD} {s U : State} (h : yyK d s) (hW : s.WarmedH U.vm) : yyK d U :=
  ⟨va_K.moved hW.alike h.1, fun w hw => nest_warm (NL_nest w hw) hW (h.2.1 w hw), over_moved hW.alike h.2.2⟩
theorem yyK.same {d : yyD} {s U : State} (h : yyK d s) (hv : s.vm = U.vm) : yyK d U :=
  ⟨va_K.moved (hv ▸ Vm.Alike.refl s.vm) h.1, fun w hw => va_Nw.same (nest_on (NL_nest w hw)) hv (h.2.1 w hw), over_moved (hv ▸ Vm.Alike.refl s.vm) h.2.2⟩
/-- the goal -/
def yyW (d : yyD) (G : yyG) (k n : Nat) (Q : State → Prop) (ws : va_W) (lv : List (Nat × Value)) (pc : Nat) (st : List Value) : Prop :=
  ∀ (H : Heap) (locs : List Loc) (ls : Array Slot), va_P d.1 vwCl ws H → va_D (gA G) ws → va_S (gA G) (gS G).heap H locs → lv_has ls (gN G) lv →
    W (gP G) (gL G) (gE G) (gR G) (gS G) (gM G) (gV G) (gB G) (gT G) (gC G) H locs k n Q (F0 (gM G) pc ls st)
/-- what stands still -/
def yyC (d : yyD) (G : yyG) (cc : ByteArray) (own : String) (R : Room) (nL : Nat) (ret : Option FieldType) : Prop :=
  (gP G).tables.exec = Jvm.exec ∧ (gC G).code = cc ∧ (gC G).maxLocals = nL ∧ (gS G).vm.findClass own = some (gM G).cls ∧ (∀ w ∈ WW, w.before (gV G) (gS G) = true) ∧ yyK d (gS G) ∧ (gT G).locks = false ∧ (∀ q, (gS G).heap.size ≤ q → gA G q) ∧ gR G = R ∧ gN G = nL ∧ (gT G).sig.returnType = ret
section YA
variable {d : yyD} {G : yyG} {cc : ByteArray} {own : String} {R : Room} {nL : Nat} {ret : Option FieldType}
theorem yyC.w (h : yyC d G cc own R nL ret) {w : Cond} (hw : w ∈ WW) : w.before (gV G) (gS G) = true := h.2.2.2.2.1 w hw
theorem yyC.K (h : yyC d G cc own R nL ret) : va_K d.1 vwCl [(d.2.1, .int), (d.2.2.1, .boolean), (d.2.2.2, .array .int)] (gS G) := h.2.2.2.2.2.1.1
theorem yyC.N (h : yyC d G cc own R nL ret) {w : Cond} (hw : w ∈ NL) : w.before (gV G) (gS G) = true := va_Nw.use (nest_on (NL_nest w hw)) (h.2.2.2.2.2.1.2.1 w hw)
theorem yyC.lk (h : yyC d G cc own R nL ret) : (gT G).locks = false := h.2.2.2.2.2.2.1
theorem yyC.A (h : yyC d G cc own R nL ret) : ∀ q, (gS G).heap.size ≤ q → gA G q := h.2.2.2.2.2.2.2.1
theorem yyC.rm (h : yyC d G cc own R nL ret) : gR G = R := h.2.2.2.2.2.2.2.2.1
theorem yyC.n (h : yyC d G cc own R nL ret) : gN G = nL := h.2.2.2.2.2.2.2.2.2.1
theorem yyC.r (h : yyC d G cc own R nL ret) : (gT G).sig.returnType = ret := h.2.2.2.2.2.2.2.2.2.2
end YA
section YB
variable {d : yyD} {G : yyG} {cc : ByteArray} {own : String} {R : Room} {nL : Nat} {ret : Option FieldType} {k n : Nat} {Q : State → Prop} {ws : va_W} {lv : List (Nat × Value)} {pc : Nat} {st : List Value}
theorem y_iload (hC : yyC d G cc own R nL ret) (j : Nat) {i : Nat} {x : Int32} (hdg : decode cc pc = .ok (.iload i, 2)) (hl : lv[j]? = some (i, .int x)) (kk : yyW d G k n Q ws lv (pc + 2) (.int x :: st)) : yyW d G k n Q ws lv pc st :=
  fun H locs ls hP hD hS h => lv_iload hC.1 hC.2.1 hdg (lv_at h j hl) (kk H locs ls hP hD hS h)
theorem y_iload_n (hC : yyC d G cc own R nL ret) (j : Nat) {q : Fin 4} {x : Int32} (hdg : decode cc pc = .ok (.iload_n q, 1)) (hl : lv[j]? = some ((q : Nat), .int x)) (kk : yyW d G k n Q ws lv (pc + 1) (.int x :: st)) : yyW d G k n Q ws lv pc st :=
  fun H locs ls hP hD hS h => lv_iload_n hC.1 hC.2.1 hdg rfl (lv_at h j hl) (kk H locs ls hP hD hS h)
theorem y_aload (hC : yyC d G cc own R nL ret) (j : Nat) {i : Nat} {x : Nat} (hdg : decode cc pc = .ok (.aload i, 2)) (hl : lv[j]? = some (i, .ref x)) (kk : yyW d G k n Q ws lv (pc + 2) (.ref x :: st)) : yyW d G k n Q ws lv pc st :=
  fun H locs ls hP hD hS h => lv_aload hC.1 hC.2.1 hdg (lv_at h j hl) (kk H locs ls hP hD hS h)
theorem y_aload_n (hC : yyC d G cc own R nL ret) (j : Nat) {q : Fin 4} {x : Nat} (hdg : decode cc pc = .ok (.aload_n q, 1)) (hl : lv[j]? = some ((q : Nat), .ref x)) (kk : yyW d G k n Q ws lv (pc + 1) (.ref x :: st)) : yyW d G k n Q ws lv pc st :=
  fun H locs ls hP hD hS h => lv_aload_n hC.1 hC.2.1 hdg rfl (lv_at h j hl) (kk H locs ls hP hD hS h)
theorem y_lload_n (hC : yyC d G cc own R nL ret) (j : Nat) {q : Fin 4} {x : Int64} (hdg : decode cc pc = .ok (.lload_n q, 1)) (hl : lv[j]? = some ((q : Nat), .long x)) (kk : yyW d G k n Q ws lv (pc + 1) (.long x :: st)) : yyW d G k n Q ws lv pc st :=
  fun H locs ls hP hD hS h => lv_lload_n hC.1 hC.2.1 hdg rfl (lv_at h j hl) (kk H locs ls hP hD hS h)
theorem y_istore (hC : yyC d G cc own R nL ret) {i : Nat} {x : Int32} (hdg : decode cc pc = .ok (.istore i, 2)) (lv' : List (Nat × Value)) (hl : (i, Value.int x) :: lv.filter (fun q => !(q.1 == i) && !(q.1 + 1 == i && q.2.category == 2)) = lv') (hn : i < nL) (kk : yyW d G k n Q ws lv' (pc + 2) st) : yyW d G k n Q ws lv pc (.int x :: st) :=
  fun H locs _ hP hD hS h => lv_istore hC.1 hC.2.1 hdg h (hC.n ▸ hn) hl (fun ls' h' => kk H locs ls' hP hD hS h')
theorem y_istore_n (hC : yyC d G cc own R nL ret) {q : Fin 4} {x : Int32} (hdg : decode cc pc = .ok (.istore_n q, 1)) (lv' : List (Nat × Value)) (hl : ((q : Nat), Value.int x) :: lv.filter (fun z => !(z.1 == (q : Nat)) && !(z.1 + 1 == (q : Nat) && z.2.category == 2)) = lv') (hn : (q : Nat) < nL) (kk : yyW d G k n Q ws lv' (pc + 1) st) : yyW d G k n Q ws lv pc (.int x :: st) :=
  fun H locs _ hP hD hS h => lv_istore_n hC.1 hC.2.1 hdg rfl h (hC.n ▸ hn) hl (fun ls' h' => kk H locs ls' hP hD hS h')
theorem y_astore (hC : yyC d G cc own R nL ret) {i : Nat} {x : Nat} (hdg : decode cc pc = .ok (.astore i, 2)) (lv' : List (Nat × Value)) (hl : (i, Value.ref x) :: lv.filter (fun q => !(q.1 == i) && !(q.1 + 1 == i && q.2.category == 2)) = lv') (hn : i < nL) (kk : yyW d G k n Q ws lv' (pc + 2) st) : yyW d G k n Q ws lv pc (.ref x :: st) :=
  fun H locs _ hP hD hS h => lv_astore hC.1 hC.2.1 hdg h (hC.n ▸ hn) hl (fun ls' h' => kk H locs ls' hP hD hS h')
theorem y_astore_n (hC : yyC d G cc own R nL ret) {q : Fin 4} {x : Nat} (hdg : decode cc pc = .ok (.astore_n q, 1)) (lv' : List (Nat × Value)) (hl : ((q : Nat), Value.ref x) :: lv.filter (fun z => !(z.1 == (q : Nat)) && !(z.1 + 1 == (q : Nat) && z.2.category == 2)) = lv') (hn : (q : Nat) < nL) (kk : yyW d G k n Q ws lv' (pc + 1) st) : yyW d G k n Q ws lv pc (.ref x :: st) :=
  fun H locs _ hP hD hS h => lv_astore_n hC.1 hC.2.1 hdg rfl h (hC.n ▸ hn) hl (fun ls' h' => kk H locs ls' hP hD hS h')
theorem y_lstore_n (hC : yyC d G cc own R nL ret) {q : Fin 4} {x : Int64} (hdg : decode cc pc = .ok (.lstore_n q, 1)) (lv' : List (Nat × Value)) (hl : ((q : Nat), Value.long x) :: lv.filter (fun z => !(z.1 == (q : Nat)) && (!(z.1 == (q : Nat) + 1) && !(z.1 + 1 == (q : Nat) && z.2.category == 2))) = lv') (hn : (q : Nat) + 1 < nL) (kk : yyW d G k n Q ws lv' (pc + 1) st) : yyW d G k n Q ws lv pc (.long x :: st) :=
  fun H locs _ hP hD hS h => lv_lstore_n hC.1 hC.2.1 hdg rfl h (hC.n ▸ hn) hl (fun ls' h' => kk H locs ls' hP hD hS h')
theorem y_iinc (hC : yyC d G cc own R nL ret) (j : Nat) {i : Nat} {c : Int} {x : Int32} (hdg : decode cc pc = .ok (.iinc i c, 3)) (v : Int32) (lv' : List (Nat × Value)) (hj : lv[j]? = some (i, .int x)) (hv : x + Int32.ofInt c = v) (hl : (i, Value.int v) :: lv.filter (fun q => !(q.1 == i) && !(q.1 + 1 == i && q.2.category == 2)) = lv') (hn : i < nL) (kk : yyW d G k n Q ws lv' (pc + 3) st) : yyW d G k n Q ws lv pc st :=
  fun H locs _ hP hD hS h => lv_iinc hC.1 hC.2.1 hdg h hj hv (hC.n ▸ hn) hl (fun ls' h' => kk H locs ls' hP hD hS h')
theorem y_iconst (hC : yyC d G cc own R nL ret) {c : Int} (hdg : decode cc pc = .ok (.iconst c, 1)) (v : Int32) (hv : Int32.ofInt c = v) (kk : yyW d G k n Q ws lv (pc + 1) (.int v :: st)) : yyW d G k n Q ws lv pc st :=
  fun H locs ls hP hD hS h => lv_iconst hC.1 hC.2.1 hdg hv (kk H locs ls hP hD hS h)
theorem y_bipush (hC : yyC d G cc own R nL ret) {c : Int} (hdg : decode cc pc = .ok (.bipush c, 2)) (v : Int32) (hv : (Int8.ofInt c).toInt32 = v) (kk : yyW d G k n Q ws lv (pc + 2) (.int v :: st)) : yyW d G k n Q ws lv pc st :=
  fun H locs ls hP hD hS h => lv_bipush hC.1 hC.2.1 hdg hv (kk H locs ls hP hD hS h)
theorem y_ldc2 (hC : yyC d G cc own R nL ret) {i : Nat} {v : Int64} (hdg : decode cc pc = .ok (.ldc2_w i, 3)) (hw : Cond.constantLong own i v ∈ WW) (kk : yyW d G k n Q ws lv (pc + 3) (.long v :: st)) : yyW d G k n Q ws lv pc st :=
  fun H locs ls hP hD hS h => lv_ldc2 hC.1 hC.2.1 hC.2.2.2.1 (hC.w hw) hdg (kk H locs ls hP hD hS h)
theorem y_dup (hC : yyC d G cc own R nL ret) {v : Value} (hdg : decode cc pc = .ok (.dup, 1)) (hv : v.category = 1) (kk : yyW d G k n Q ws lv (pc + 1) (v :: v :: st)) : yyW d G k n Q ws lv pc (v :: st) :=
  fun H locs ls hP hD hS h => lv_dup hC.1 hC.2.1 hdg hv (kk H locs ls hP hD hS h)
theorem y_dup2 (hC : yyC d G cc own R nL ret) {v w : Value} (hdg : decode cc pc = .ok (.dup2, 1)) (hv : v.category = 1) (hw : w.category = 1) (kk : yyW d G k n Q ws lv (pc + 1) (v :: w :: v :: w :: st)) : yyW d G k n Q ws lv pc (v :: w :: st) :=
  fun H locs ls hP hD hS h => lv_dup2_11 hC.1 hC.2.1 hdg hv hw (kk H locs ls hP hD hS h)
theorem y_pop (hC : yyC d G cc own R nL ret) {v : Value} (hdg : decode cc pc = .ok (.pop, 1)) (hv : v.category = 1) (kk : yyW d G k n Q ws lv (pc + 1) st) : yyW d G k n Q ws lv pc (v :: st) :=
  fun H locs ls hP hD hS h => lv_pop hC.1 hC.2.1 hdg hv (kk H locs ls hP hD hS h)
theorem y_iadd (hC : yyC d G cc own R nL ret) {x y : Int32} (hdg : decode cc pc = .ok (.iadd, 1)) (z : Int32) (hz : x + y = z) (kk : yyW d G k n Q ws lv (pc + 1) (.int z :: st)) : yyW d G k n Q ws lv pc (.int y :: .int x :: st) :=
  fun H locs ls hP hD hS h => lv_iadd hC.1 hC.2.1 hdg (hz ▸ kk H locs ls hP hD hS h)
theorem y_isub (hC : yyC d G cc own R nL ret) {x y : Int32} (hdg : decode cc pc = .ok (.isub, 1)) (z : Int32) (hz : x - y = z) (kk : yyW d G k n Q ws lv (pc + 1) (.int z :: st)) : yyW d G k n Q ws lv pc (.int y :: .int x :: st) :=
  fun H locs ls hP hD hS h => lv_isub hC.1 hC.2.1 hdg (hz ▸ kk H locs ls hP hD hS h)
theorem y_imul (hC : yyC d G cc own R nL ret) {x y : Int32} (hdg : decode cc pc = .ok (.imul, 1)) (z : Int32) (hz : x * y = z) (kk : yyW d G k n Q ws lv (pc + 1) (.int z :: st)) : yyW d G k n Q ws lv pc (.int y :: .int x :: st) :=
  fun H locs ls hP hD hS h => lv_imul hC.1 hC.2.1 hdg (hz ▸ kk H locs ls hP hD hS h)
theorem y_idiv (hC : yyC d G cc own R nL ret) {x y : Int32} (hdg : decode cc pc = .ok (.idiv, 1)) (z : Int32) (hz : x / y = z) (hne : ¬ y = 0) (kk : yyW d G k n Q ws lv (pc + 1) (.int z :: st)) : yyW d G k n Q ws lv pc (.int y :: .int x :: st) :=
  fun H locs ls hP hD hS h => lv_idiv hC.1 hC.2.1 hdg hne (hz ▸ kk H locs ls hP hD hS h)
theorem y_irem (hC : yyC d G cc own R nL ret) {x y : Int32} (hdg : decode cc pc = .ok (.irem, 1)) (z : Int32) (hz : x - x / y * y = z) (hne : ¬ y = 0) (kk : yyW d G k n Q ws lv (pc + 1) (.int z :: st)) : yyW d G k n Q ws lv pc (.int y :: .int x :: st) :=
  fun H locs ls hP hD hS h => lv_irem hC.1 hC.2.1 hdg hne (hz ▸ kk H locs ls hP hD hS h)
theorem y_iand (hC : yyC d G cc own R nL ret) {x y : Int32} (hdg : decode cc pc = .ok (.iand, 1)) (z : Int32) (hz : x &&& y = z) (kk : yyW d G k n Q ws lv (pc + 1) (.int z :: st)) : yyW d G k n Q ws lv pc (.int y :: .int x :: st) :=
  fun H locs ls hP hD hS h => lv_iand hC.1 hC.2.1 hdg (hz ▸ kk H locs ls hP hD hS h)
theorem y_ixor (hC : yyC d G cc own R nL ret) {x y : Int32} (hdg : decode cc pc = .ok (.ixor, 1)) (z : Int32) (hz : x ^^^ y = z) (kk : yyW d G k n Q ws lv (pc + 1) (.int z :: st)) : yyW d G k n Q ws lv pc (.int y :: .int x :: st) :=
  fun H locs ls hP hD hS h => lv_ixor hC.1 hC.2.1 hdg (hz ▸ kk H locs ls hP hD hS h)
theorem y_ladd (hC : yyC d G cc own R nL ret) {x y : Int64} (hdg : decode cc pc = .ok (.ladd, 1)) (kk : yyW d G k n Q ws lv (pc + 1) (.long (x + y) :: st)) : yyW d G k n Q ws lv pc (.long y :: .long x :: st) :=
  fun H locs ls hP hD hS h => lv_ladd hC.1 hC.2.1 hdg (kk H locs ls hP hD hS h)
theorem y_lmul (hC : yyC d G cc own R nL ret) {x y : Int64} (hdg : decode cc pc = .ok (.lmul, 1)) (kk : yyW d G k n Q ws lv (pc + 1) (.long (x * y) :: st)) : yyW d G k n Q ws lv pc (.long y :: .long x :: st) :=
  fun H locs ls hP hD hS h => lv_lmul hC.1 hC.2.1 hdg (kk H locs ls hP hD hS h)
theorem y_i2l (hC : yyC d G cc own R nL ret) {x : Int32} (hdg : decode cc pc = .ok (.i2l, 1)) (kk : yyW d G k n Q ws lv (pc + 1) (.long x.toInt64 :: st)) : yyW d G k n Q ws lv pc (.int x :: st) :=
  fun H locs ls hP hD hS h => lv_i2l hC.1 hC.2.1 hdg rfl (kk H locs ls hP hD hS h)
theorem y_goto (hC : yyC d G cc own R nL ret) {off : Int} (hdg : decode cc pc = .ok (.goto off, 3)) (tgt : Nat) (ht : (pc : Int) + off = (tgt : Int)) (kk : yyW d G k n Q ws lv tgt st) : yyW d G k n Q ws lv pc st :=
  fun H locs ls hP hD hS h => lv_goto hC.1 hC.2.1 hdg ht (kk H locs ls hP hD hS h)
theorem y_if_eq (hC : yyC d G cc own R nL ret) {x : Int32} {off : Int} (hdg : decode cc pc = .ok (.ifCond .eq off, 3)) (tgt : Nat) (ht : (pc : Int) + off = (tgt : Int)) (kt : x = 0 → yyW d G k n Q ws lv tgt st) (kf : ¬ x = 0 → yyW d G k n Q ws lv (pc + 3) st) : yyW d G k n Q ws lv pc (.int x :: st) :=
  fun H locs ls hP hD hS h => lv_if_eq hC.1 hC.2.1 hdg ht (fun c => kt c H locs ls hP hD hS h) (fun c => kf c H locs ls hP hD hS h)
theorem y_if_ne (hC : yyC d G cc own R nL ret) {x : Int32} {off : Int} (hdg : decode cc pc = .ok (.ifCond .ne off, 3)) (tgt : Nat) (ht : (pc : Int) + off = (tgt : Int)) (kt : ¬ x = 0 → yyW d G k n Q ws lv tgt st) (kf : x = 0 → yyW d G k n Q ws lv (pc + 3) st) : yyW d G k n Q ws lv pc (.int x :: st) :=
  fun H locs ls hP hD hS h => lv_if_ne hC.1 hC.2.1 hdg ht (fun c => kt c H locs ls hP hD hS h) (fun c => kf c H locs ls hP hD hS h)
theorem y_if_lt (hC : yyC d G cc own R nL ret) {x : Int32} {off : Int} (hdg : decode cc pc = .ok (.ifCond .lt off, 3)) (tgt : Nat) (ht : (pc : Int) + off = (tgt : Int)) (kt : x < 0 → yyW d G k n Q ws lv tgt st) (kf : ¬ x < 0 → yyW d G k n Q ws lv (pc + 3) st) : yyW d G k n Q ws lv pc (.int x :: st) :=
  fun H locs ls hP hD hS h => lv_if_lt hC.1 hC.2.1 hdg ht (fun c => kt c H locs ls hP hD hS h) (fun c => kf c H locs ls hP hD hS h)
theorem y_if_ge (hC : yyC d G cc own R nL ret) {x : Int32} {off : Int} (hdg : decode cc pc = .ok (.ifCond .ge off, 3)) (tgt : Nat) (ht : (pc : Int) + off = (tgt : Int)) (kt : 0 ≤ x → yyW d G k n Q ws lv tgt st) (kf : ¬ 0 ≤ x → yyW d G k n Q ws lv (pc + 3) st) : yyW d G k n Q ws lv pc (.int x :: st) :=
  fun H locs ls hP hD hS h => lv_if_ge hC.1 hC.2.1 hdg ht (fun c => kt c H locs ls hP hD hS h) (fun c => kf c H locs ls hP hD hS h)
theorem y_if_le (hC : yyC d G cc own R nL ret) {x : Int32} {off : Int} (hdg : decode cc pc = .ok (.ifCond .le off, 3)) (tgt : Nat) (ht : (pc : Int) + off = (tgt : Int)) (kt : x ≤ 0 → yyW d G k n Q ws lv tgt st) (kf : ¬ x ≤ 0 → yyW d G k n Q ws lv (pc + 3) st) : yyW d G k n Q ws lv pc (.int x :: st) :=
  fun H locs ls hP hD hS h => lv_if_le hC.1 hC.2.1 hdg ht (fun c => kt c H locs ls hP hD hS h) (fun c => kf c H locs ls hP hD hS h)
theorem y_cmp_eq (hC : yyC d G cc own R nL ret) {x y : Int32} {off : Int} (hdg : decode cc pc = .ok (.if_icmp .eq off, 3)) (tgt : Nat) (ht : (pc : Int) + off = (tgt : Int)) (kt : x = y → yyW d G k n Q ws lv tgt st) (kf : ¬ x = y → yyW d G k n Q ws lv (pc + 3) st) : yyW d G k n Q ws lv pc (.int y :: .int x :: st) :=
  fun H locs ls hP hD hS h => lv_icmp_eq hC.1 hC.2.1 hdg ht (fun c => kt c H locs ls hP hD hS h) (fun c => kf c H locs ls hP hD hS h)
theorem y_cmp_ne (hC : yyC d G cc own R nL ret) {x y : Int32} {off : Int} (hdg : decode cc pc = .ok (.if_icmp .ne off, 3)) (tgt : Nat) (ht : (pc : Int) + off = (tgt : Int)) (kt : ¬ x = y → yyW d G k n Q ws lv tgt st) (kf : x = y → yyW d G k n Q ws lv (pc + 3) st) : yyW d G k n Q ws lv pc (.int y :: .int x :: st) :=
  fun H locs ls hP hD hS h => lv_icmp_ne hC.1 hC.2.1 hdg ht (fun c => kt c H locs ls hP hD hS h) (fun c => kf c H locs ls hP hD hS h)
theorem y_cmp_lt (hC : yyC d G cc own R nL ret) {x y : Int32} {off : Int} (hdg : decode cc pc = .ok (.if_icmp .lt off, 3)) (tgt : Nat) (ht : (pc : Int) + off = (tgt : Int)) (kt : x < y → yyW d G k n Q ws lv tgt st) (kf : ¬ x < y → yyW d G k n Q ws lv (pc + 3) st) : yyW d G k n Q ws lv pc (.int y :: .int x :: st) :=
  fun H locs ls hP hD hS h => lv_icmp_lt hC.1 hC.2.1 hdg ht (fun c => kt c H locs ls hP hD hS h) (fun c => kf c H locs ls hP hD hS h)
theorem y_cmp_ge (hC : yyC d G cc own R nL ret) {x y : Int32} {off : Int} (hdg : decode cc pc = .ok (.if_icmp .ge off, 3)) (tgt : Nat) (ht : (pc : Int) + off = (tgt : Int)) (kt : y ≤ x → yyW d G k n Q ws lv tgt st) (kf : ¬ y ≤ x → yyW d G k n Q ws lv (pc + 3) st) : yyW d G k n Q ws lv pc (.int y :: .int x :: st) :=
  fun H locs ls hP hD hS h => lv_icmp_ge hC.1 hC.2.1 hdg ht (fun c => kt c H locs ls hP hD hS h) (fun c => kf c H locs ls hP hD hS h)
theorem y_cmp_gt (hC : yyC d G cc own R nL ret) {x y : Int32} {off : Int} (hdg : decode cc pc = .ok (.if_icmp .gt off, 3)) (tgt : Nat) (ht : (pc : Int) + off = (tgt : Int)) (kt : y < x → yyW d G k n Q ws lv tgt st) (kf : ¬ y < x → yyW d G k n Q ws lv (pc + 3) st) : yyW d G k n Q ws lv pc (.int y :: .int x :: st) :=
  fun H locs ls hP hD hS h => lv_icmp_gt hC.1 hC.2.1 hdg ht (fun c => kt c H locs ls hP hD hS h) (fun c => kf c H locs ls hP hD hS h)
theorem y_cmp_le (hC : yyC d G cc own R nL ret) {x y : Int32} {off : Int} (hdg : decode cc pc = .ok (.if_icmp .le off, 3)) (tgt : Nat) (ht : (pc : Int) + off = (tgt : Int)) (kt : x ≤ y → yyW d G k n Q ws lv tgt st) (kf : ¬ x ≤ y → yyW d G k n Q ws lv (pc + 3) st) : yyW d G k n Q ws lv pc (.int y :: .int x :: st) :=
  fun H locs ls hP hD hS h => lv_icmp_le hC.1 hC.2.1 hdg ht (fun c => kt c H locs ls hP hD hS h) (fun c => kf c H locs ls hP hD hS h)
/-- a loop's head: its counter against its bound -/
theorem y_ge_t (hC : yyC d G cc own R nL ret) {a b : Nat} {off : Int} (hdg : decode cc pc = .ok (.if_icmp .ge off, 3)) (tgt : Nat) (ht : (pc : Int) + off = (tgt : Int)) (h : b ≤ a) (ha : a < 2147483648) (kt : yyW d G k n Q ws lv tgt st) : yyW d G k n Q ws lv pc (.int (nI b) :: .int (nI a) :: st) :=
  y_cmp_ge hC hdg tgt ht (fun _ => kt) (fun c => absurd (nI_le h ha) c)
theorem y_ge_f (hC : yyC d G cc own R nL ret) {a b : Nat} {off : Int} (hdg : decode cc pc = .ok (.if_icmp .ge off, 3)) (tgt : Nat) (ht : (pc : Int) + off = (tgt : Int)) (h : a < b) (hb : b < 2147483648) (kf : yyW d G k n Q ws lv (pc + 3) st) : yyW d G k n Q ws lv pc (.int (nI b) :: .int (nI a) :: st) :=
  y_cmp_ge hC hdg tgt ht (fun c => absurd c (nI_ge h hb)) (fun _ => kf)
theorem y_gt_t (hC : yyC d G cc own R nL ret) {a b : Nat} {off : Int} (hdg : decode cc pc = .ok (.if_icmp .gt off, 3)) (tgt : Nat) (ht : (pc : Int) + off = (tgt : Int)) (h : b < a) (ha : a < 2147483648) (kt : yyW d G k n Q ws lv tgt st) : yyW d G k n Q ws lv pc (.int (nI b) :: .int (nI a) :: st) :=
  y_cmp_gt hC hdg tgt ht (fun _ => kt) (fun c => absurd (nI_lt h ha) c)
theorem y_gt_f (hC : yyC d G cc own R nL ret) {a b : Nat} {off : Int} (hdg : decode cc pc = .ok (.if_icmp .gt off, 3)) (tgt : Nat) (ht : (pc : Int) + off = (tgt : Int)) (h : a ≤ b) (hb : b < 2147483648) (kf : yyW d G k n Q ws lv (pc + 3) st) : yyW d G k n Q ws lv pc (.int (nI b) :: .int (nI a) :: st) :=
  y_cmp_gt hC hdg tgt ht (fun c => absurd c (nI_nlt h hb)) (fun _ => kf)
theorem y_tsw (hC : yyC d G cc own R nL ret) {df lo hi : Int} {offs : Array Int} {len : Nat} {x : Int32} {off : Int} (hdg : decode cc pc = .ok (.tableswitch df lo hi offs, len)) (tgt : Nat) (h1 : ¬ x.toInt < lo) (h2 : ¬ hi < x.toInt) (ho : offs[(x.toInt - lo).toNat]? = some off) (ht : (pc : Int) + off = (tgt : Int)) (kk : yyW d G k n Q ws lv tgt st) : yyW d G k n Q ws lv pc (.int x :: st) :=
  fun H locs ls hP hD hS h => lv_tableIn hC.1 hC.2.1 hdg h1 h2 ho ht (kk H locs ls hP hD hS h)
theorem y_tsd (hC : yyC d G cc own R nL ret) {df lo hi : Int} {offs : Array Int} {len : Nat} {x : Int32} (hdg : decode cc pc = .ok (.tableswitch df lo hi offs, len)) (tgt : Nat) (h1 : x.toInt < lo ∨ hi < x.toInt) (ht : (pc : Int) + df = (tgt : Int)) (kk : yyW d G k n Q ws lv tgt st) : yyW d G k n Q ws lv pc (.int x :: st) :=
  fun H locs ls hP hD hS h => lv_tableOut hC.1 hC.2.1 hdg h1 ht (kk H locs ls hP hD hS h)
-- fields and rows
theorem y_get (hC : yyC d G cc own R nL ret) (q : Nat) (f : Nat) {C ref : String} {T : u_T} {N ci i : Nat} {a : Nat} {fs : List Value} {v : Value} (hdg : decode cc pc = .ok (.getfield i, 3)) (hw : ws[q]? = some (a, .inr (ci, fs))) (hc : vwCl[ci]? = some (C, T, N)) (hin : ∀ w ∈ u_ws C T N, w ∈ WW) (hf : f < N) (hk : Cond.fieldLink own i ref (T f).2.1 (T f).2.2.1 ∈ WW) (hr : (T f).1 = ref) (hv : fs[f]? = some v) (kk : yyW d G k n Q ws lv (pc + 3) (v :: st)) : yyW d G k n Q ws lv pc (.ref a :: st) :=
  fun H locs ls hP hD hS h => va_get (T := T) (C := C) (N := N) (ref := ref) hC.1 hC.2.1 (fun w hw => hC.w hw) hin hC.2.2.2.1 hC.K hP q hw hc f hf (hC.w hk) (fun _ h9 => hr ▸ h9) hv hdg (kk H locs ls hP hD hS h)
theorem y_getN (hC : yyC d G cc own R nL ret) (q : Nat) (f : Nat) {C ref host : String} {T : u_T} {N ci i : Nat} {a : Nat} {fs : List Value} {v : Value} (hdg : decode cc pc = .ok (.getfield i, 3)) (hw : ws[q]? = some (a, .inr (ci, fs))) (hc : vwCl[ci]? = some (C, T, N)) (hin : ∀ w ∈ u_ws C T N, w ∈ WW) (hf : f < N) (hk : Cond.fieldLinkNest own i ref (T f).2.1 (T f).2.2.1 host ∈ NL) (hr : (T f).1 = ref) (hv : fs[f]? = some v) (kk : yyW d G k n Q ws lv (pc + 3) (v :: st)) : yyW d G k n Q ws lv pc (.ref a :: st) :=
  fun H locs ls hP hD hS h => va_getN (T := T) (C := C) (N := N) (ref := ref) hC.1 hC.2.1 (fun w hw => hC.w hw) hin hC.2.2.2.1 hC.K hP q hw hc f hf (hC.N hk) (fun _ h9 => hr ▸ h9) hv hdg (kk H locs ls hP hD hS h)
theorem y_put (hC : yyC d G cc own R nL ret) (q : Nat) (f : Nat) (ty : FieldType) {C ref : String} {T : u_T} {N ci i : Nat} {a : Nat} {fs : List Value} {v : Value} (hdg : decode cc pc = .ok (.putfield i, 3)) (ty0 : Nat → FieldType) (ws' : va_W) (hw : ws[q]? = some (a, .inr (ci, fs))) (hws : ws.set q (a, .inr (ci, fs.set f v)) = ws') (hc : vwCl[ci]? = some (C, T, N)) (hin : ∀ w ∈ u_ws C T N, w ∈ WW) (hty : ∀ k, k < N → parseFieldDescriptor (T k).2.2.1 = some (ty0 k)) (hnm : ∀ a, a < N → ∀ b, b < N → a ≠ b → (T a).2.1 ≠ (T b).2.1) (hf : f < N) (hk : Cond.fieldLink own i ref (T f).2.1 (T f).2.2.1 ∈ WW) (hr : (T f).1 = ref) (hfin : (T f).2.2.2 = false) (hd : parseFieldDescriptor (T f).2.2.1 = some ty) (hn : narrow ty v = v) (hfit : fits ty v = true) (hl : f < fs.length) (kk : yyW d G k n Q ws' lv (pc + 3) st) : yyW d G k n Q ws lv pc (v :: .ref a :: st) :=
  fun H locs ls hP hD hS h => va_put (T := T) (C := C) (N := N) (ref := ref) hC.1 hC.2.1 (fun w hw => hC.w hw) hin ty0 hty hnm hC.2.2.2.1 hC.K hP hD hS q hw hc f hf (hC.w hk) (fun _ h9 => hr ▸ h9) hfin hd hn hfit hl hdg (fun H1 locs1 a1 a2 a3 => kk H1 locs1 ls (hws ▸ a1) (hws ▸ a2) a3 h)
theorem y_putN (hC : yyC d G cc own R nL ret) (q : Nat) (f : Nat) (ty : FieldType) {C ref host : String} {T : u_T} {N ci i : Nat} {a : Nat} {fs : List Value} {v : Value} (hdg : decode cc pc = .ok (.putfield i, 3)) (ty0 : Nat → FieldType) (ws' : va_W) (hw : ws[q]? = some (a, .inr (ci, fs))) (hws : ws.set q (a, .inr (ci, fs.set f v)) = ws') (hc : vwCl[ci]? = some (C, T, N)) (hin : ∀ w ∈ u_ws C T N, w ∈ WW) (hty : ∀ k, k < N → parseFieldDescriptor (T k).2.2.1 = some (ty0 k)) (hnm : ∀ a, a < N → ∀ b, b < N → a ≠ b → (T a).2.1 ≠ (T b).2.1) (hf : f < N) (hk : Cond.fieldLinkNest own i ref (T f).2.1 (T f).2.2.1 host ∈ NL) (hr : (T f).1 = ref) (hfin : (T f).2.2.2 = false) (hd : parseFieldDescriptor (T f).2.2.1 = some ty) (hn : narrow ty v = v) (hfit : fits ty v = true) (hl : f < fs.length) (kk : yyW d G k n Q ws' lv (pc + 3) st) : yyW d G k n Q ws lv pc (v :: .ref a :: st) :=
  fun H locs ls hP hD hS h => va_putN (T := T) (C := C) (N := N) (ref := ref) hC.1 hC.2.1 (fun w hw => hC.w hw) hin ty0 hty hnm hC.2.2.2.1 hC.K hP hD hS q hw hc f hf (hC.N hk) (fun _ h9 => hr ▸ h9) hfin hd hn hfit hl hdg (fun H1 locs1 a1 a2 a3 => kk H1 locs1 ls (hws ▸ a1) (hws ▸ a2) a3 h)
theorem yy_lt {j n : Nat} (h1 : j < n) (h2 : Nat.blt n 1000000 = true) : j < 2 ^ 31 ∧ n < 2 ^ 31 := by
  have := Nat.blt_eq.mp h2
  omega
theorem y_iald (hC : yyC d G cc own R nL ret) (q : Nat) {a m j : Nat} {f : Nat → Int32} (hdg : decode cc pc = .ok (.iaload, 1)) (v : Int32) (hw : ws[q]? = some (a, aI d m f)) (hj : j < m) (hm : Nat.blt m 1000000 = true) (hv : f j = v) (kk : yyW d G k n Q ws lv (pc + 1) (.int v :: st)) : yyW d G k n Q ws lv pc (.int (nI j) :: .ref a :: st) := by
  intro H locs ls hP hD hS h
  refine va_iald hC.1 hC.2.1 hC.K hP q 0 hw rfl (vp_in_nI hj (yy_lt hj hm).2) hdg ?_
  rw [nI_clamp (yy_lt hj hm).1, hv]
  exact kk H locs ls hP hD hS h
theorem y_zald (hC : yyC d G cc own R nL ret) (q : Nat) {a m j : Nat} {f : Nat → Bool} (hdg : decode cc pc = .ok (.baload, 1)) (v : Int32) (hw : ws[q]? = some (a, aZ d m f)) (hj : j < m) (hm : Nat.blt m 1000000 = true) (hv : bI (f j) = v) (kk : yyW d G k n Q ws lv (pc + 1) (.int v :: st)) : yyW d G k n Q ws lv pc (.int (nI j) :: .ref a :: st) := by
  intro H locs ls hP hD hS h
  refine va_zald hC.1 hC.2.1 hC.K hP q 1 hw rfl (vp_in_nI hj (yy_lt hj hm).2) hdg ?_
  rw [nI_clamp (yy_lt hj hm).1, hv]
  exact kk H locs ls hP hD hS h
theorem y_iast (hC : yyC d G cc own R nL ret) (q : Nat) {a m j : Nat} {f : Nat → Int32} {x : Int32} (hdg : decode cc pc = .ok (.iastore, 1)) (g : Nat → Int32) (ws' : va_W) (hw : ws[q]? = some (a, aI d m f)) (hj : j < m) (hm : Nat.blt m 1000000 = true) (hg : upd f j x = g) (hws : ws.set q (a, aI d m g) = ws') (kk : yyW d G k n Q ws' lv (pc + 1) st) : yyW d G k n Q ws lv pc (.int x :: .int (nI j) :: .ref a :: st) := by
  intro H locs ls hP hD hS h
  subst hg; subst hws
  refine va_iast hC.1 hC.2.1 hC.K hP hD hS q 0 hw rfl (vp_in_nI hj (yy_lt hj hm).2) hdg ?_
  rw [nI_clamp (yy_lt hj hm).1]
  exact fun H1 locs1 a1 a2 a3 => kk H1 locs1 ls a1 a2 a3 h
def updB (f : Nat → Bool) (j : Nat) (b : Bool) : Nat → Bool := fun k => if k = j then b else f k
theorem bI_upd (f : Nat → Bool) (j : Nat) (b : Bool) : upd (fun k => bI (f k)) j (vp_nar .boolean (bI b)) = fun k => bI (updB f j b k) := by
  funext k
  have e : vp_nar .boolean (bI b) = bI b := by cases b <;> rfl
  rw [e]
  unfold upd updB
  by_cases h : k = j
  · rw [if_pos h, if_pos h]
  · rw [if_neg h, if_neg h]
theorem y_zast (hC : yyC d G cc own R nL ret) (q : Nat) {a m j : Nat} {f : Nat → Bool} (hdg : decode cc pc = .ok (.bastore, 1)) (b : Bool) (g : Nat → Bool) (ws' : va_W) (hw : ws[q]? = some (a, aZ d m f)) (hj : j < m) (hm : Nat.blt m 1000000 = true) (hg : updB f j b = g) (hws : ws.set q (a, aZ d m g) = ws') (kk : yyW d G k n Q ws' lv (pc + 1) st) : yyW d G k n Q ws lv pc (.int (bI b) :: .int (nI j) :: .ref a :: st) := by
  intro H locs ls hP hD hS h
  subst hg; subst hws
  refine va_zast hC.1 hC.2.1 hC.K hP hD hS q 1 hw rfl (vp_in_nI hj (yy_lt hj hm).2) hdg ?_
  rw [nI_clamp (yy_lt hj hm).1, bI_upd]
  exact fun H1 locs1 a1 a2 a3 => kk H1 locs1 ls a1 a2 a3 h
theorem y_alen (hC : yyC d G cc own R nL ret) (q : Nat) {a m : Nat} {f : Nat → Int32} (hdg : decode cc pc = .ok (.arraylength, 1)) (hw : ws[q]? = some (a, aI d m f)) (kk : yyW d G k n Q ws lv (pc + 1) (.int (nI m) :: st)) : yyW d G k n Q ws lv pc (.ref a :: st) :=
  fun H locs ls hP hD hS h => va_alen hC.1 hC.2.1 hC.K hP q 0 hw (ty := .int) rfl rfl hdg (kk H locs ls hP hD hS h)
-- the JDK's small ones
theorem y_min (hC : yyC d G cc own R nL ret) {i : Nat} {x y : Int32} (hdg : decode cc pc = .ok (.invokestatic i, 3)) (hk : Cond.methodLink own i Lib.Math.min.name ∈ WW) (h0 : Cond.static Lib.Math.min.name ∈ WW) (h1 : Cond.initialized "java/lang/Math" ∈ WW) (h2 : Cond.code Lib.Math.min.name Lib.Math.min.code 2 (some .int) ∈ WW) (hR : 1 ≤ R.frames ∧ (st.map fun v => v.category).sum + 13 ≤ R.locals ∧ k ≤ R.cells ∧ n ≤ R.slots) (kk : yyW d G k n Q ws lv (pc + 3) (.int (mn x y) :: st)) : yyW d G k n Q ws lv pc (.int y :: .int x :: st) :=
  fun H locs ls hP hD hS h => va_mmin hC.1 hC.2.1 (by rw [hC.2.2.1, h.1, hC.n]) hC.2.2.2.1 (hC.w hk) (hC.w h0) (hC.w h1) (hC.w h2) (by rw [hC.rm]; exact hR.1) (by rw [hC.rm]; exact hR.2.1) (by rw [hC.rm]; exact hR.2.2.1) (by rw [hC.rm]; exact hR.2.2.2) hdg (kk H locs ls hP hD hS h)
theorem y_max (hC : yyC d G cc own R nL ret) {i : Nat} {x y : Int32} (hdg : decode cc pc = .ok (.invokestatic i, 3)) (hk : Cond.methodLink own i Lib.Math.max.name ∈ WW) (h0 : Cond.static Lib.Math.max.name ∈ WW) (h1 : Cond.initialized "java/lang/Math" ∈ WW) (h2 : Cond.code Lib.Math.max.name Lib.Math.max.code 2 (some .int) ∈ WW) (hR : 1 ≤ R.frames ∧ (st.map fun v => v.category).sum + 13 ≤ R.locals ∧ k ≤ R.cells ∧ n ≤ R.slots) (kk : yyW d G k n Q ws lv (pc + 3) (.int (mx x y) :: st)) : yyW d G k n Q ws lv pc (.int y :: .int x :: st) :=
  fun H locs ls hP hD hS h => va_mmax hC.1 hC.2.1 (by rw [hC.2.2.1, h.1, hC.n]) hC.2.2.2.1 (hC.w hk) (hC.w h0) (hC.w h1) (hC.w h2) (by rw [hC.rm]; exact hR.1) (by rw [hC.rm]; exact hR.2.1) (by rw [hC.rm]; exact hR.2.2.1) (by rw [hC.rm]; exact hR.2.2.2) hdg (kk H locs ls hP hD hS h)
theorem y_abs (hC : yyC d G cc own R nL ret) {i : Nat} {x : Int32} (hdg : decode cc pc = .ok (.invokestatic i, 3)) (hk : Cond.methodLink own i Lib.Math.abs.name ∈ WW) (h0 : Cond.static Lib.Math.abs.name ∈ WW) (h1 : Cond.initialized "java/lang/Math" ∈ WW) (h2 : Cond.code Lib.Math.abs.name Lib.Math.abs.code 1 (some .int) ∈ WW) (hR : 1 ≤ R.frames ∧ (st.map fun v => v.category).sum + 13 ≤ R.locals ∧ k ≤ R.cells ∧ n ≤ R.slots) (kk : yyW d G k n Q ws lv (pc + 3) (.int (ab x) :: st)) : yyW d G k n Q ws lv pc (.int x :: st) :=
  fun H locs ls hP hD hS h => va_mabs hC.1 hC.2.1 (by rw [hC.2.2.1, h.1, hC.n]) hC.2.2.2.1 (hC.w hk) (hC.w h0) (hC.w h1) (hC.w h2) (by rw [hC.rm]; exact hR.1) (by rw [hC.rm]; exact hR.2.1) (by rw [hC.rm]; exact hR.2.2.1) (by rw [hC.rm]; exact hR.2.2.2) hdg (kk H locs ls hP hD hS h)
-- moves of a goal
theorem y_ws (ws' : va_W) (h : ws = ws') (kk : yyW d G k n Q ws' lv pc st) : yyW d G k n Q ws lv pc st := h ▸ kk
theorem y_lv (lv' : List (Nat × Value)) (is : List Nat) (h : lv_pick lv is = lv') (kk : yyW d G k n Q ws lv' pc st) : yyW d G k n Q ws lv pc st :=
  fun H locs ls hP hD hS hl => kk H locs ls hP hD hS (lv_sub hl is h)
theorem y_drop (ws' : va_W) (is : List Nat) (hn : va_nd is = true) (h : is.filterMap (fun i => ws[i]?) = ws') (h2 : is.map (fun i => ws[i]?) = ws'.map some) (kk : yyW d G k n Q ws' lv pc st) : yyW d G k n Q ws lv pc st :=
  fun H locs ls hP hD hS hl => kk H locs ls (hP.sub is h) (hD.sub is hn h2) hS hl
theorem y_wide (k' n' : Nat) (hk : k ≤ k') (hn : n ≤ n') (kk : yyW d G k' n' Q ws lv pc st) : yyW d G k n Q ws lv pc st :=
  fun H locs ls hP hD hS hl => W.widen hk hn (kk H locs ls hP hD hS hl)
end YB
