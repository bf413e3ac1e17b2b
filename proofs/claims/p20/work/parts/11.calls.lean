-- CONTRACTS over the layer: cells before, cells behind, the answer; entry, end and call of each form
theorem fm_of {α β : Type} {f : α → Option β} {l : List α} {r : List β} (h : l.map f = r.map some) : l.filterMap f = r := by
  induction l generalizing r with
  | nil => cases r with
    | nil => rfl
    | cons a b => simp at h
  | cons a l ih => cases r with
    | nil => simp at h
    | cons b r =>
      simp only [List.map_cons, List.cons.injEq] at h
      rw [List.filterMap_cons, h.1, ih h.2]
def yyPre (d : yyD) (av : List Value) (w0 : va_W) (sz : Nat) : Array Value → State → Prop := va_Pc av (fun U => U.heap.size = sz ∧ va_P d.1 vwCl w0 U.heap ∧ yyK d U ∧ va_D (fun _ => True) w0)
def yyB (d : yyD) (A : Nat → Prop) (w1 : va_W) (t : State) : Prop := va_P d.1 vwCl w1 t.heap ∧ va_D A w1
theorem yyPre.blind (d : yyD) (av : List Value) (w0 : va_W) (sz : Nat) : FrameBlind (yyPre d av w0 sz) := by
  intro a U g mk q
  obtain ⟨q0, q1, qP, qK, qD⟩ := q
  exact ⟨q0, q1, qP, qK.same rfl, qD⟩
def yyI (l : Launch) (y : MethodName) (cc : ByteArray) (mL : Nat) (ret : Option FieldType) (rm : Room) (d : yyD) (av : List Value) (w0 w1 : va_W) (rv : Int32) : Prop :=
  ∀ sz : Nat, Met l y (Cond.code y cc mL ret :: WW) rm (yyPre d av w0 sz) (va_Qi (fun r (_ : Unit) => r = rv) (fun _ => yyB d (va_A w0 sz) w1) (va_A w0 sz)) rm.cells rm.slots (va_A w0 sz)
def yyL (l : Launch) (y : MethodName) (cc : ByteArray) (mL : Nat) (ret : Option FieldType) (rm : Room) (d : yyD) (av : List Value) (w0 w1 : va_W) (rv : Int64) : Prop :=
  ∀ sz : Nat, Met l y (Cond.code y cc mL ret :: WW) rm (yyPre d av w0 sz) (va_Ql (fun r (_ : Unit) => r = rv) (fun _ => yyB d (va_A w0 sz) w1) (va_A w0 sz)) rm.cells rm.slots (va_A w0 sz)
def yyV {S : Type} (l : Launch) (y : MethodName) (cc : ByteArray) (mL : Nat) (rm : Room) (d : yyD) (av : List Value) (w0 : va_W) (P : S → Prop) (w1 : S → va_W) : Prop :=
  ∀ sz : Nat, Met l y (Cond.code y cc mL none :: WW) rm (yyPre d av w0 sz) (va_Qv P (fun u => yyB d (va_A w0 sz) (w1 u)) (va_A w0 sz)) rm.cells rm.slots (va_A w0 sz)
def yyQI (d : yyD) (G : yyG) (R : Room) (w1 : va_W) (rv : Int32) : State → Prop := MQ (gB G) (va_Qi (fun r (_ : Unit) => r = rv) (fun _ => yyB d (gA G) w1) (gA G)) (gV G) (gS G) R.cells R.slots (gA G)
def yyQL (d : yyD) (G : yyG) (R : Room) (w1 : va_W) (rv : Int64) : State → Prop := MQ (gB G) (va_Ql (fun r (_ : Unit) => r = rv) (fun _ => yyB d (gA G) w1) (gA G)) (gV G) (gS G) R.cells R.slots (gA G)
def yyQV {S : Type} (d : yyD) (G : yyG) (R : Room) (P : S → Prop) (w1 : S → va_W) : State → Prop := MQ (gB G) (va_Qv P (fun u => yyB d (gA G) (w1 u)) (gA G)) (gV G) (gS G) R.cells R.slots (gA G)
/-- Met.ofW for a name of the JDK, too, if no row of the natives bears it -/
theorem yy_ofWF {l : Launch} {y : MethodName} {ws ws' : List Cond} {rm : Room} {Pc : Array Value → State → Prop} {Qc : Array Value → State → Outcome → State → Prop} {mc ms : Nat} {free : Addr → Prop} {cc : ByteArray} {maxL : Nat} {ret : Option FieldType}
    (hy : plainFor y = true) (hw : ws = Cond.code y cc maxL ret :: ws')
    (body : ∀ p e s m args below meth c s₁, BodyLoose p l y (headSpec ws rm) cc maxL ret e s m args below meth c s₁ → c.maxLocals = maxL → Pc args s →
      W p l e (headSpec ws rm).room s m args below meth c s.heap [] 0 0 (MQ below Qc args s mc ms free) (entryFrame m args maxL)) : Met l y ws rm Pc Qc mc ms free := by
  refine MetFree.of_bodySF (code := cc) (maxLocals := maxL) (ret := ret) hy ?_ ?_
  · intro args s m h hn
    obtain ⟨meth, c, h1, h2, h3, h4, h5, h6, -, -⟩ := Cond.code_spec hn (atoms_spec (ws := ws) h _ (by rw [hw]; exact List.mem_cons_self))
    exact ⟨meth, c, h1, h2, h3, h4, h5, h6⟩
  · intro p e s m args below meth c s₁ B hml hP _
    have hh0 : s₁.heap = s.heap := by rw [B.state]; rfl
    obtain ⟨t, a1, o, b1, b2, b3⟩ := body p e s m args below meth c s₁ B hml hP s₁ hh0 (Stand.of_body B)
    exact ⟨t, o, a1, b1, b2, ⟨b3.1, b3.2⟩⟩
section YD
variable {l : Launch} {y : MethodName} {cc : ByteArray} {mL : Nat} {ret : Option FieldType} {rm : Room} {d : yyD} {av : List Value} {w0 : va_W} {own : String}
theorem yyI_of {w1 : va_W} {rv : Int32} (lv0 : List (Nat × Value)) (hy : plainFor y = true) (ho : y.cls = own) (hl : (lg_sl av).length ≤ mL) (hlv : lv_args 0 av = lv0)
    (body : ∀ (G : yyG) (Q : State → Prop), Q = yyQI d G rm w1 rv → gL G = l → yyC d G cc own rm mL ret → (gA G = va_A w0 (gS G).heap.size) → yyW d G 0 0 Q w0 lv0 0 []) : yyI l y cc mL ret rm d av w0 w1 rv := by
  intro sz
  refine yy_ofWF (cc := cc) (maxL := mL) (ret := ret) hy rfl ?_
  intro p e s m args below meth c s₁ B hml hv
  obtain ⟨rfl, hsz, hP, hK, hD0⟩ := hv
  subst hsz
  have hts := atoms_spec (ws := Cond.code y cc mL ret :: WW) B.pre
  have hown : s.vm.findClass own = some m.cls := ho ▸ findClass_of_methodNamed B.named
  rw [lg_entry_eq]
  exact body (p, l, e, rm, s, m, av.toArray, below, meth, c, va_A w0 s.heap.size, mL) _ rfl rfl ⟨B.exec, B.bytes, hml, hown, fun w h => hts w (List.mem_cons_of_mem _ h), hK, B.notSynchronized, fun q h => Or.inr h, rfl, rfl, B.returns⟩ rfl s.heap [] _ hP hD0.self va_S.rf (hlv ▸ lv_entry av hl)
theorem yyL_of {w1 : va_W} {rv : Int64} (lv0 : List (Nat × Value)) (hy : plainFor y = true) (ho : y.cls = own) (hl : (lg_sl av).length ≤ mL) (hlv : lv_args 0 av = lv0)
    (body : ∀ (G : yyG) (Q : State → Prop), Q = yyQL d G rm w1 rv → gL G = l → yyC d G cc own rm mL ret → (gA G = va_A w0 (gS G).heap.size) → yyW d G 0 0 Q w0 lv0 0 []) : yyL l y cc mL ret rm d av w0 w1 rv := by
  intro sz
  refine yy_ofWF (cc := cc) (maxL := mL) (ret := ret) hy rfl ?_
  intro p e s m args below meth c s₁ B hml hv
  obtain ⟨rfl, hsz, hP, hK, hD0⟩ := hv
  subst hsz
  have hts := atoms_spec (ws := Cond.code y cc mL ret :: WW) B.pre
  have hown : s.vm.findClass own = some m.cls := ho ▸ findClass_of_methodNamed B.named
  rw [lg_entry_eq]
  exact body (p, l, e, rm, s, m, av.toArray, below, meth, c, va_A w0 s.heap.size, mL) _ rfl rfl ⟨B.exec, B.bytes, hml, hown, fun w h => hts w (List.mem_cons_of_mem _ h), hK, B.notSynchronized, fun q h => Or.inr h, rfl, rfl, B.returns⟩ rfl s.heap [] _ hP hD0.self va_S.rf (hlv ▸ lv_entry av hl)
theorem yyV_of {S : Type} {P : S → Prop} {w1 : S → va_W} (lv0 : List (Nat × Value)) (hy : plainFor y = true) (ho : y.cls = own) (hl : (lg_sl av).length ≤ mL) (hlv : lv_args 0 av = lv0)
    (body : ∀ (G : yyG) (Q : State → Prop), Q = yyQV d G rm P w1 → gL G = l → yyC d G cc own rm mL none → (gA G = va_A w0 (gS G).heap.size) → ((gT G).name = y.name) → yyW d G 0 0 Q w0 lv0 0 []) : yyV l y cc mL rm d av w0 P w1 := by
  intro sz
  refine yy_ofWF (cc := cc) (maxL := mL) (ret := none) hy rfl ?_
  intro p e s m args below meth c s₁ B hml hv
  obtain ⟨rfl, hsz, hP, hK, hD0⟩ := hv
  subst hsz
  have hts := atoms_spec (ws := Cond.code y cc mL none :: WW) B.pre
  have hown : s.vm.findClass own = some m.cls := ho ▸ findClass_of_methodNamed B.named
  have hin : meth.name = y.name := (name_of_methodNamed B.named B.method).1
  rw [lg_entry_eq]
  exact body (p, l, e, rm, s, m, av.toArray, below, meth, c, va_A w0 s.heap.size, mL) _ rfl rfl ⟨B.exec, B.bytes, hml, hown, fun w h => hts w (List.mem_cons_of_mem _ h), hK, B.notSynchronized, fun q h => Or.inr h, rfl, rfl, B.returns⟩ rfl hin s.heap [] _ hP hD0.self va_S.rf (hlv ▸ lv_entry av hl)
end YD
theorem gww {y : MethodName} {cc : ByteArray} {mL : Nat} {ret : Option FieldType} (hk : Cond.code y cc mL ret ∈ WW) : GoodIn WW (Cond.code y cc mL ret :: WW) := by
  intro w hw
  have h : w ∈ WW := by
    rcases List.mem_cons.mp hw with h | h
    · rw [h]; exact hk
    · exact h
  exact ⟨h, good_of_word (List.mem_filter.mp h).2⟩
theorem gwV {own : String} {i : Nat} {C : String} {y : MethodName} {ws : List Cond} (kl : Cond.methodLink own i y ∈ WW) (ki : Cond.instanceMethod y ∈ WW) (ks : Cond.selects C y y ∈ WW) (kn : Cond.initialized C ∈ WW) (h : GoodIn WW ws) : GoodIn WW (wsV own i C y ws) := by
  intro w hw
  have g : ∀ w ∈ WW, w ∈ WW ∧ ((w.onTables && w.keeps) = true ∨ ∃ ty, w = .arrayClass ty) := fun w h => ⟨h, good_of_word (List.mem_filter.mp h).2⟩
  rcases List.mem_append.mp hw with h1 | h1
  · simp only [List.mem_cons, List.not_mem_nil, or_false] at h1
    rcases h1 with h1 | h1 | h1 | h1 <;> rw [h1] <;> apply g <;> assumption
  · exact h w h1
theorem gwS {own : String} {i : Nat} {y : MethodName} {ws : List Cond} (kl : Cond.methodLink own i y ∈ WW) (ki : Cond.static y ∈ WW) (kn : Cond.initialized y.cls ∈ WW) (h : GoodIn WW ws) : GoodIn WW (va_wsS own i y ws) := by
  intro w hw
  have g : ∀ w ∈ WW, w ∈ WW ∧ ((w.onTables && w.keeps) = true ∨ ∃ ty, w = .arrayClass ty) := fun w h => ⟨h, good_of_word (List.mem_filter.mp h).2⟩
  rcases List.mem_append.mp hw with h1 | h1
  · simp only [List.mem_cons, List.not_mem_nil, or_false] at h1
    rcases h1 with h1 | h1 | h1 <;> rw [h1] <;> apply g <;> assumption
  · exact h w h1
/-- a world cut in two: the callee's cells by places, the rest by places -/
abbrev yyCut (ws wc wr : va_W) (is rs : List Nat) : Prop := is.map (fun i => ws[i]?) = wc.map some ∧ va_nd is = true ∧ rs.map (fun i => ws[i]?) = wr.map some ∧ va_nd rs = true ∧ ∀ i ∈ rs, i ∉ is
/-- and put together again -/
abbrev yyPut (wr w1 ws' : va_W) (pm : List Nat) : Prop := pm.map (fun i => (wr ++ w1)[i]?) = ws'.map some ∧ va_nd pm = true
section YE
variable {d : yyD} {G : yyG} {cc : ByteArray} {own : String} {R : Room} {nL : Nat} {ret : Option FieldType} {k n : Nat} {Q : State → Prop} {ws : va_W} {lv : List (Nat × Value)} {pc : Nat} {st st0 : List Value} {H : Heap} {locs : List Loc} {ls : Array Slot} {wc wr : va_W} {is rs : List Nat} {mc ms : Nat} {a : Array Value}
theorem yyC.kw (hC : yyC d G cc own R nL ret) : yyK d (gS G) := hC.2.2.2.2.2.1
theorem yy_pre (hC : yyC d G cc own R nL ret) (hcut : yyCut ws wc wr is rs) (hP : va_P d.1 vwCl ws H) (hD : va_D (gA G) ws) (As : List Value) : PreS (gS G) H (yyPre d As wc H.size) As :=
  ⟨yyPre.blind _ _ _ _, fun U hU hW => ⟨rfl, by rw [hU], by rw [hU]; exact hP.sub is (fm_of hcut.1), hC.kw.warm hW, (hD.sub is hcut.2.1 hcut.1).weaken (fun _ _ _ _ => trivial)⟩⟩
theorem yy_preV (hC : yyC d G cc own R nL ret) (hcut : yyCut ws wc wr is rs) (hP : va_P d.1 vwCl ws H) (hD : va_D (gA G) ws) {b : Nat} (As : List Value) {C : String} {T : u_T} {N ci : Nat} {fs : List Value} (q0 : Nat) (hq : wc[q0]? = some (b, .inr (ci, fs))) (hc : vwCl[ci]? = some (C, T, N)) : PreV (gS G) H C b (yyPre d (.ref b :: As) wc H.size) As :=
  ⟨yyPre.blind _ _ _ _, va_recv (q := (C, T, N)) hC.K (hP.sub is (fm_of hcut.1)) hc hq, (yy_pre hC hcut hP hD (.ref b :: As)).2⟩
theorem yy_afterI {w1 ws' : va_W} {rv : Int32} {pm : List Nat} (hC : yyC d G cc own R nL ret) (hP : va_P d.1 vwCl ws H) (hD : va_D (gA G) ws) (hS : va_S (gA G) (gS G).heap H locs) (hl : lv_has ls (gN G) lv) (hcut : yyCut ws wc wr is rs) (hput : yyPut wr w1 ws' pm)
    (hr : va_Run (gP G) (gL G) (gE G) (gR G) (gS G) (gM G) (gV G) (gB G) (gT G) (gC G) H locs k n mc ms (F0 (gM G) pc ls st0) st (va_Qi (fun r (_ : Unit) => r = rv) (fun _ => yyB d (va_A wc H.size) w1) (va_A wc H.size) a) (va_A wc H.size))
    (kk : yyW d G (k + mc) (n + ms) Q ws' lv (pc + 3) (.int rv :: st)) : W (gP G) (gL G) (gE G) (gR G) (gS G) (gM G) (gV G) (gB G) (gT G) (gC G) H locs k n Q (F0 (gM G) pc ls st0) := by
  have hFc := va_free (wc := wc) hD hS hC.A is hcut.1
  refine va_calli hr hS (fun q _ h => hFc q h) hFc (fun r u t H1 locs1 ht hvm hw hB hz1 hk1 hS1 => ?_)
  obtain ⟨hP1, hD1⟩ := hB
  rw [ht] at hP1
  obtain ⟨hP2, hD2⟩ := va_join (wr := wr) (w1 := w1) hP hD is rs hcut.1 hcut.2.2.1 hcut.2.2.2.1 hcut.2.2.2.2 hk1 hFc hP1 hD1
  have hw' : r = rv := hw
  rw [hw']
  exact kk H1 locs1 ls (hP2.sub pm (fm_of hput.1)) (hD2.sub pm hput.2 hput.1) hS1 hl
theorem yy_afterL {w1 ws' : va_W} {rv : Int64} {pm : List Nat} (hC : yyC d G cc own R nL ret) (hP : va_P d.1 vwCl ws H) (hD : va_D (gA G) ws) (hS : va_S (gA G) (gS G).heap H locs) (hl : lv_has ls (gN G) lv) (hcut : yyCut ws wc wr is rs) (hput : yyPut wr w1 ws' pm)
    (hr : va_Run (gP G) (gL G) (gE G) (gR G) (gS G) (gM G) (gV G) (gB G) (gT G) (gC G) H locs k n mc ms (F0 (gM G) pc ls st0) st (va_Ql (fun r (_ : Unit) => r = rv) (fun _ => yyB d (va_A wc H.size) w1) (va_A wc H.size) a) (va_A wc H.size))
    (kk : yyW d G (k + mc) (n + ms) Q ws' lv (pc + 3) (.long rv :: st)) : W (gP G) (gL G) (gE G) (gR G) (gS G) (gM G) (gV G) (gB G) (gT G) (gC G) H locs k n Q (F0 (gM G) pc ls st0) := by
  have hFc := va_free (wc := wc) hD hS hC.A is hcut.1
  refine va_calll hr hS (fun q _ h => hFc q h) hFc (fun r u t H1 locs1 ht hvm hw hB hz1 hk1 hS1 => ?_)
  obtain ⟨hP1, hD1⟩ := hB
  rw [ht] at hP1
  obtain ⟨hP2, hD2⟩ := va_join (wr := wr) (w1 := w1) hP hD is rs hcut.1 hcut.2.2.1 hcut.2.2.2.1 hcut.2.2.2.2 hk1 hFc hP1 hD1
  have hw' : r = rv := hw
  rw [hw']
  exact kk H1 locs1 ls (hP2.sub pm (fm_of hput.1)) (hD2.sub pm hput.2 hput.1) hS1 hl
theorem yy_afterV {S : Type} {P : S → Prop} {w1 ws' : S → va_W} {pm : List Nat} (hC : yyC d G cc own R nL ret) (hP : va_P d.1 vwCl ws H) (hD : va_D (gA G) ws) (hS : va_S (gA G) (gS G).heap H locs) (hl : lv_has ls (gN G) lv) (hcut : yyCut ws wc wr is rs) (hput : ∀ u, yyPut wr (w1 u) (ws' u) pm)
    (hr : va_Run (gP G) (gL G) (gE G) (gR G) (gS G) (gM G) (gV G) (gB G) (gT G) (gC G) H locs k n mc ms (F0 (gM G) pc ls st0) st (va_Qv P (fun u => yyB d (va_A wc H.size) (w1 u)) (va_A wc H.size) a) (va_A wc H.size))
    (kk : ∀ u, P u → yyW d G (k + mc) (n + ms) Q (ws' u) lv (pc + 3) st) : W (gP G) (gL G) (gE G) (gR G) (gS G) (gM G) (gV G) (gB G) (gT G) (gC G) H locs k n Q (F0 (gM G) pc ls st0) := by
  have hFc := va_free (wc := wc) hD hS hC.A is hcut.1
  refine va_callv hr hS (fun q _ h => hFc q h) hFc (fun u t H1 locs1 ht hvm hw hB hz1 hk1 hS1 => ?_)
  obtain ⟨hP1, hD1⟩ := hB
  rw [ht] at hP1
  obtain ⟨hP2, hD2⟩ := va_join (wr := wr) (w1 := w1 u) hP hD is rs hcut.1 hcut.2.2.1 hcut.2.2.2.1 hcut.2.2.2.2 hk1 hFc hP1 hD1
  exact kk u hw H1 locs1 ls (hP2.sub pm (fm_of (hput u).1)) (hD2.sub pm (hput u).2 (hput u).1) hS1 hl
end YE
section YF
variable {d : yyD} {G : yyG} {cc : ByteArray} {own : String} {R : Room} {nL : Nat} {ret : Option FieldType} {k n : Nat} {Q : State → Prop} {ws : va_W} {lv : List (Nat × Value)} {pc : Nat} {st st0 : List Value} {wc wr : va_W} {is rs : List Nat}
variable {y : MethodName} {cy : ByteArray} {mL : Nat} {rt : Option FieldType} {rm : Room} {b : Nat} {As : List Value} {i : Nat} {C host : String}
/-- what a callee's name says: its class, its number of arguments -/
abbrev yyN (y : MethodName) (C : String) (n : Nat) : Prop := y.cls = C ∧ y.cls ≠ "java/lang/invoke/MethodHandle" ∧ y.cls ≠ "java/lang/invoke/VarHandle" ∧ (parseMethodDescriptor y.desc).map (fun d => d.parameters.length) = some n
/-- the room of a callee in its caller's -/
abbrev yyR (rm R : Room) (mL k n : Nat) (st : List Value) : Prop := (rm.frames + 1 ≤ R.frames ∧ 8 + (mL + 11) + rm.locals ≤ R.locals) ∧ (k + rm.cells ≤ R.cells ∧ n + rm.slots ≤ R.slots) ∧ (st.map fun v => v.category).sum ≤ 8
theorem y_cI {w1 : va_W} {rv : Int32} (hC : yyC d G cc own R nL ret) (hM : yyI (gL G) y cy mL rt rm d (.ref b :: As) wc w1 rv) (kc : Cond.code y cy mL rt ∈ WW) (kl : Cond.methodLink own i y ∈ WW) (ki : Cond.instanceMethod y ∈ WW) (ks : Cond.selects C y y ∈ WW) (kn : Cond.initialized C ∈ WW)
    (hy : yyN y C As.length) (hR : yyR rm R mL k n st) (is rs pm : List Nat) (q0 : Nat) {ci N : Nat} {fs : List Value} {T : u_T} (wr ws' : va_W) (hq : wc[q0]? = some (b, .inr (ci, fs))) (hc : vwCl[ci]? = some (C, T, N)) (hcut : yyCut ws wc wr is rs) (hput : yyPut wr w1 ws' pm) (hs0 : st0 = As.reverse ++ .ref b :: st)
    (hdg : decode cc pc = .ok (.invokevirtual i, 3)) (kk : yyW d G (k + rm.cells) (n + rm.slots) Q ws' lv (pc + 3) (.int rv :: st)) : yyW d G k n Q ws lv pc st0 := by
  intro H locs ls hP hD hS hl
  subst hs0
  have hRR := hC.rm
  subst hRR
  refine yy_afterI hC hP hD hS hl hcut hput (va_runV (As := As) (rest := st) ⟨hC.1, hC.2.1, hC.2.2.1, hC.2.2.2.1, hC.2.2.2.2.1⟩ (hM H.size) (cwV As.length hC.2.2.2.2.1 (gwV kl ki ks kn (gww kc)) rfl rfl rfl hy hR.1) (yy_preV hC hcut hP hD As q0 hq hc) rfl rfl (hl.1.trans hC.n) rfl (lv_room hR.2.2) hdg hR.2.1) kk
theorem y_cL {w1 : va_W} {rv : Int64} (hC : yyC d G cc own R nL ret) (hM : yyL (gL G) y cy mL rt rm d (.ref b :: As) wc w1 rv) (kc : Cond.code y cy mL rt ∈ WW) (kl : Cond.methodLink own i y ∈ WW) (ki : Cond.instanceMethod y ∈ WW) (ks : Cond.selects C y y ∈ WW) (kn : Cond.initialized C ∈ WW)
    (hy : yyN y C As.length) (hR : yyR rm R mL k n st) (is rs pm : List Nat) (q0 : Nat) {ci N : Nat} {fs : List Value} {T : u_T} (wr ws' : va_W) (hq : wc[q0]? = some (b, .inr (ci, fs))) (hc : vwCl[ci]? = some (C, T, N)) (hcut : yyCut ws wc wr is rs) (hput : yyPut wr w1 ws' pm) (hs0 : st0 = As.reverse ++ .ref b :: st)
    (hdg : decode cc pc = .ok (.invokevirtual i, 3)) (kk : yyW d G (k + rm.cells) (n + rm.slots) Q ws' lv (pc + 3) (.long rv :: st)) : yyW d G k n Q ws lv pc st0 := by
  intro H locs ls hP hD hS hl
  subst hs0
  have hRR := hC.rm
  subst hRR
  refine yy_afterL hC hP hD hS hl hcut hput (va_runV (As := As) (rest := st) ⟨hC.1, hC.2.1, hC.2.2.1, hC.2.2.2.1, hC.2.2.2.2.1⟩ (hM H.size) (cwV As.length hC.2.2.2.2.1 (gwV kl ki ks kn (gww kc)) rfl rfl rfl hy hR.1) (yy_preV hC hcut hP hD As q0 hq hc) rfl rfl (hl.1.trans hC.n) rfl (lv_room hR.2.2) hdg hR.2.1) kk
theorem y_cV {S : Type} {P : S → Prop} {w1 : S → va_W} (hC : yyC d G cc own R nL ret) (hM : yyV (gL G) y cy mL rm d (.ref b :: As) wc P w1) (kc : Cond.code y cy mL none ∈ WW) (kl : Cond.methodLink own i y ∈ WW) (ki : Cond.instanceMethod y ∈ WW) (ks : Cond.selects C y y ∈ WW) (kn : Cond.initialized C ∈ WW)
    (hy : yyN y C As.length) (hR : yyR rm R mL k n st) (is rs pm : List Nat) (q0 : Nat) {ci N : Nat} {fs : List Value} {T : u_T} (wr : va_W) (ws' : S → va_W) (hq : wc[q0]? = some (b, .inr (ci, fs))) (hc : vwCl[ci]? = some (C, T, N)) (hcut : yyCut ws wc wr is rs) (hput : ∀ u, yyPut wr (w1 u) (ws' u) pm) (hs0 : st0 = As.reverse ++ .ref b :: st)
    (hdg : decode cc pc = .ok (.invokevirtual i, 3)) (kk : ∀ u, P u → yyW d G (k + rm.cells) (n + rm.slots) Q (ws' u) lv (pc + 3) st) : yyW d G k n Q ws lv pc st0 := by
  intro H locs ls hP hD hS hl
  subst hs0
  have hRR := hC.rm
  subst hRR
  refine yy_afterV hC hP hD hS hl hcut hput (va_runV (As := As) (rest := st) ⟨hC.1, hC.2.1, hC.2.2.1, hC.2.2.2.1, hC.2.2.2.2.1⟩ (hM H.size) (cwV As.length hC.2.2.2.2.1 (gwV kl ki ks kn (gww kc)) rfl rfl rfl hy hR.1) (yy_preV hC hcut hP hD As q0 hq hc) rfl rfl (hl.1.trans hC.n) rfl (lv_room hR.2.2) hdg hR.2.1) kk
/-- a private method of a nest mate -/
theorem y_nI {w1 : va_W} {rv : Int32} (hC : yyC d G cc own R nL ret) (hM : yyI (gL G) y cy mL rt rm d (.ref b :: As) wc w1 rv) (kc : Cond.code y cy mL rt ∈ WW) (kl : Cond.methodLinkNest own i y host ∈ NL) (ki : Cond.instanceMethod y ∈ WW) (ks : Cond.selects C y y ∈ WW) (kn : Cond.initialized y.cls ∈ WW)
    (hy : yyN y C As.length) (hR : yyR rm R mL k n st) (is rs pm : List Nat) (q0 : Nat) {ci N : Nat} {fs : List Value} {T : u_T} (wr ws' : va_W) (hq : wc[q0]? = some (b, .inr (ci, fs))) (hc : vwCl[ci]? = some (C, T, N)) (hcut : yyCut ws wc wr is rs) (hput : yyPut wr w1 ws' pm) (hs0 : st0 = As.reverse ++ .ref b :: st)
    (hdg : decode cc pc = .ok (.invokevirtual i, 3)) (kk : yyW d G (k + rm.cells) (n + rm.slots) Q ws' lv (pc + 3) (.int rv :: st)) : yyW d G k n Q ws lv pc st0 := by
  intro H locs ls hP hD hS hl
  subst hs0
  have hRR := hC.rm
  subst hRR
  refine yy_afterI hC hP hD hS hl hcut hput (va_runVN (As := As) (rest := st) ⟨hC.1, hC.2.1, hC.2.2.1, hC.2.2.2.1, hC.2.2.2.2.1⟩ (hM H.size) ⟨va_cnB As.length hC.2.2.2.2.1 (gww kc) rfl rfl rfl (hC.kw.2.1 _ kl) (hC.w kn) hy.2 hR.1, hC.w ki, hC.w ks⟩ (yy_preV hC hcut hP hD As q0 hq hc) rfl rfl (hl.1.trans hC.n) rfl (lv_room hR.2.2) hdg hR.2.1) kk
/-- a static method of the class itself -/
theorem y_sI {w1 : va_W} {rv : Int32} (hC : yyC d G cc own R nL ret) (hM : yyI (gL G) y cy mL rt rm d As wc w1 rv) (kc : Cond.code y cy mL rt ∈ WW) (kl : Cond.methodLink own i y ∈ WW) (ki : Cond.static y ∈ WW) (kn : Cond.initialized y.cls ∈ WW)
    (hy : yyN y C As.length) (hR : yyR rm R mL k n st) (is rs pm : List Nat) (wr ws' : va_W) (hcut : yyCut ws wc wr is rs) (hput : yyPut wr w1 ws' pm) (hs0 : st0 = As.reverse ++ st)
    (hdg : decode cc pc = .ok (.invokestatic i, 3)) (kk : yyW d G (k + rm.cells) (n + rm.slots) Q ws' lv (pc + 3) (.int rv :: st)) : yyW d G k n Q ws lv pc st0 := by
  intro H locs ls hP hD hS hl
  subst hs0
  have hRR := hC.rm
  subst hRR
  refine yy_afterI hC hP hD hS hl hcut hput (va_runS (As := As) (rest := st) ⟨hC.1, hC.2.1, hC.2.2.1, hC.2.2.2.1, hC.2.2.2.2.1⟩ (hM H.size) (va_cwS As.length hC.2.2.2.2.1 (gwS kl ki kn (gww kc)) rfl rfl rfl hy.2 hR.1) (yy_pre hC hcut hP hD As) rfl rfl (hl.1.trans hC.n) rfl (lv_room hR.2.2) hdg hR.2.1) kk
theorem y_snI {w1 : va_W} {rv : Int32} (hC : yyC d G cc own R nL ret) (hM : yyI (gL G) y cy mL rt rm d As wc w1 rv) (kc : Cond.code y cy mL rt ∈ WW) (kl : Cond.methodLinkNest own i y host ∈ NL) (ki : Cond.static y ∈ WW) (kn : Cond.initialized y.cls ∈ WW)
    (hy : yyN y C As.length) (hR : yyR rm R mL k n st) (is rs pm : List Nat) (wr ws' : va_W) (hcut : yyCut ws wc wr is rs) (hput : yyPut wr w1 ws' pm) (hs0 : st0 = As.reverse ++ st)
    (hdg : decode cc pc = .ok (.invokestatic i, 3)) (kk : yyW d G (k + rm.cells) (n + rm.slots) Q ws' lv (pc + 3) (.int rv :: st)) : yyW d G k n Q ws lv pc st0 := by
  intro H locs ls hP hD hS hl
  subst hs0
  have hRR := hC.rm
  subst hRR
  refine yy_afterI hC hP hD hS hl hcut hput (va_runSN (As := As) (rest := st) ⟨hC.1, hC.2.1, hC.2.2.1, hC.2.2.2.1, hC.2.2.2.2.1⟩ (hM H.size) ⟨va_cnB As.length hC.2.2.2.2.1 (gww kc) rfl rfl rfl (hC.kw.2.1 _ kl) (hC.w kn) hy.2 hR.1, hC.w ki, trivial⟩ (yy_pre hC hcut hP hD As) rfl rfl (hl.1.trans hC.n) rfl (lv_room hR.2.2) hdg hR.2.1) kk
/-- a constructor -/
theorem y_iV {S : Type} {P : S → Prop} {w1 : S → va_W} (hC : yyC d G cc own R nL ret) (hM : yyV (gL G) y cy mL rm d (.ref b :: As) wc P w1) (kc : Cond.code y cy mL none ∈ WW) (kl : Cond.methodLink own i y ∈ WW) (ki : Cond.instanceMethod y ∈ WW) (kn : Cond.initialized y.cls ∈ WW) (hin : y.name = "<init>")
    (hy : yyN y C As.length) (hR : yyR rm R mL k n st) (is rs pm : List Nat) (wr : va_W) (ws' : S → va_W) (hcut : yyCut ws wc wr is rs) (hput : ∀ u, yyPut wr (w1 u) (ws' u) pm) (hs0 : st0 = As.reverse ++ .ref b :: st)
    (hdg : decode cc pc = .ok (.invokespecial i, 3)) (kk : ∀ u, P u → yyW d G (k + rm.cells) (n + rm.slots) Q (ws' u) lv (pc + 3) st) : yyW d G k n Q ws lv pc st0 := by
  intro H locs ls hP hD hS hl
  subst hs0
  have hRR := hC.rm
  subst hRR
  refine yy_afterV hC hP hD hS hl hcut hput (va_runI (As := As) (rest := st) ⟨hC.1, hC.2.1, hC.2.2.1, hC.2.2.2.1, hC.2.2.2.2.1⟩ (hM H.size) (cwI As.length hC.2.2.2.2.1 (gww kc) rfl rfl rfl (hC.w kn) (hC.w kl) (hC.w ki) hin hy.2 hR.1) (yy_pre hC hcut hP hD (.ref b :: As)) rfl rfl (hl.1.trans hC.n) rfl (lv_room hR.2.2) hdg hR.2.1) kk
theorem y_inV {S : Type} {P : S → Prop} {w1 : S → va_W} (hC : yyC d G cc own R nL ret) (hM : yyV (gL G) y cy mL rm d (.ref b :: As) wc P w1) (kc : Cond.code y cy mL none ∈ WW) (kl : Cond.methodLinkNest own i y host ∈ NL) (ki : Cond.instanceMethod y ∈ WW) (kn : Cond.initialized y.cls ∈ WW) (hin : y.name = "<init>")
    (hy : yyN y C As.length) (hR : yyR rm R mL k n st) (is rs pm : List Nat) (wr : va_W) (ws' : S → va_W) (hcut : yyCut ws wc wr is rs) (hput : ∀ u, yyPut wr (w1 u) (ws' u) pm) (hs0 : st0 = As.reverse ++ .ref b :: st)
    (hdg : decode cc pc = .ok (.invokespecial i, 3)) (kk : ∀ u, P u → yyW d G (k + rm.cells) (n + rm.slots) Q (ws' u) lv (pc + 3) st) : yyW d G k n Q ws lv pc st0 := by
  intro H locs ls hP hD hS hl
  subst hs0
  have hRR := hC.rm
  subst hRR
  refine yy_afterV hC hP hD hS hl hcut hput (va_runIN (As := As) (rest := st) ⟨hC.1, hC.2.1, hC.2.2.1, hC.2.2.2.1, hC.2.2.2.2.1⟩ (hM H.size) ⟨va_cnB As.length hC.2.2.2.2.1 (gww kc) rfl rfl rfl (hC.kw.2.1 _ kl) (hC.w kn) hy.2 hR.1, hin, hC.w ki⟩ (yy_pre hC hcut hP hD (.ref b :: As)) rfl rfl (hl.1.trans hC.n) rfl (lv_room hR.2.2) hdg hR.2.1) kk
-- ends
theorem y_iret {ty : FieldType} {w1 : va_W} {rv v : Int32} (hC : yyC d G cc own R nL (some ty)) (hQ : Q = yyQI d G R w1 rv) (hty : narrow ty (.int v) = .int v) (hw : ws = w1) (hv : v = rv) (hk : k ≤ R.cells) (hn : n ≤ R.slots) (hdg : decode cc pc = .ok (.ireturn, 1)) : yyW d G k n Q ws lv pc [.int v] := by
  subst hw; subst hv; subst hQ
  intro H locs ls hP hD hS h
  refine W.widen hk hn ?_
  exact W.zret hC.1 hC.2.1 hC.r hty (fun t ht hW => ⟨⟨v, (), rfl, rfl, by rw [ht]; exact hP, hD⟩, hS.F ht⟩) hS.2.2 hdg hC.lk
theorem y_lret {w1 : va_W} {rv v : Int64} (hC : yyC d G cc own R nL (some .long)) (hQ : Q = yyQL d G R w1 rv) (hw : ws = w1) (hv : v = rv) (hk : k ≤ R.cells) (hn : n ≤ R.slots) (hdg : decode cc pc = .ok (.lreturn, 1)) : yyW d G k n Q ws lv pc [.long v] := by
  subst hw; subst hv; subst hQ
  intro H locs ls hP hD hS h
  refine W.widen hk hn ?_
  exact W.lret hC.1 hC.2.1 hC.r (fun t ht hW => ⟨⟨v, (), rfl, rfl, by rw [ht]; exact hP, hD⟩, hS.F ht⟩) hS.2.2 hdg hC.lk
theorem y_vret {S : Type} {P : S → Prop} {w1 : S → va_W} (u : S) (hC : yyC d G cc own R nL none) (hQ : Q = yyQV d G R P w1) (hu : P u) (hw : ws = w1 u) (hk : k ≤ R.cells) (hn : n ≤ R.slots) (hdg : decode cc pc = .ok (.return_, 1)) : yyW d G k n Q ws lv pc [] := by
  subst hw; subst hQ
  intro H locs ls hP hD hS h
  refine W.widen hk hn ?_
  exact W.vret hC.1 hC.2.1 hC.r (fun t ht hW => ⟨⟨u, rfl, hu, by rw [ht]; exact hP, hD⟩, hS.F ht⟩) hS.2.2 hdg hC.lk
/-- Object's own constructor -/
theorem y_obj (hC : yyC d G cc own R nL ret) (kl : Cond.methodLink own i Lib.objectInit ∈ WW) (ki : Cond.instanceMethod Lib.objectInit ∈ WW) (kc : Cond.code Lib.objectInit ⟨#[0xb1]⟩ 1 none ∈ WW) (hR : 1 ≤ R.frames ∧ (st.map fun v => v.category).sum + 12 ≤ R.locals) (hdg : decode cc pc = .ok (.invokespecial i, 3)) (kk : yyW d G k n Q ws lv (pc + 3) st) : yyW d G k n Q ws lv pc (.ref b :: st) := by
  intro H locs ls hP hD hS hl
  refine W.objInit hC.1 hC.2.1 hC.2.2.2.1 (hC.w kl) (hC.w ki) (hC.w kc) rfl ((hl.1.trans hC.n).trans hC.2.2.1.symm) rfl hdg (by rw [hC.rm]; exact hR.1) (by rw [hC.rm]; show 2 * 0 + _ + 12 ≤ _; omega) ?_
  exact kk H locs ls hP hD hS hl
end YF
