-- FURTHER CALLS: answers that are new rows, worlds that are one of many, the script ahead; further rows
theorem fl_1 (w : va_W) : fl [w] = w := List.append_nil w
theorem fl_2 (a b : va_W) : fl [a, b] = a ++ b := by show a ++ (b ++ []) = a ++ b; rw [List.append_nil]
theorem up2_s (F : Nat → Nat → Int32) (k j : Nat) (x : Int32) : up2 F k j x k j = x := by unfold up2; rw [if_pos rfl]; exact pk_us
theorem up2_j {F : Nat → Nat → Int32} {k j j' : Nat} {x : Int32} (h : j' ≠ j) : up2 F k j x k j' = F k j' := by unfold up2; rw [if_pos rfl]; exact pk_un h
theorem up2_k {F : Nat → Nat → Int32} {k k' j j' : Nat} {x : Int32} (h : k' ≠ k) : up2 F k j x k' j' = F k' j' := by unfold up2; rw [if_neg h]
/-- what the law's helpers stand upon: the statics of a throw, the script -/
def yyF (b L : Nat) (xs : Nat → Int32) (A : Nat → Prop) (U : State) : Prop := yyZ A U U.heap ∧ va_X b L xs U U.heap ∧ b < U.heap.size ∧ ¬ A b
def yyPreF (b L : Nat) (xs : Nat → Int32) (d : yyD) (av : List Value) (w0 : va_W) (sz : Nat) : Array Value → State → Prop := va_Pc av (fun U => U.heap.size = sz ∧ va_P d.1 vwCl w0 U.heap ∧ yyK d U ∧ va_D (fun _ => True) w0 ∧ yyF b L xs (va_A w0 sz) U)
theorem yyPreF.blind (b L : Nat) (xs : Nat → Int32) (d : yyD) (av : List Value) (w0 : va_W) (sz : Nat) : FrameBlind (yyPreF b L xs d av w0 sz) := by
  intro a U g mk q
  obtain ⟨q0, q1, qP, qK, qD, qZ, qX, qb, qA⟩ := q
  exact ⟨q0, q1, qP, qK.same rfl, qD, ⟨vx_Zq.moved (U := U.calling g mk a) (Vm.Alike.refl U.vm) qZ.1, vx_Zq.moved (U := U.calling g mk a) (Vm.Alike.refl U.vm) qZ.2⟩, va_X.moved (U := U.calling g mk a) (Vm.Alike.refl U.vm) qX, qb, qA⟩
/-- an int is answered under the premise of the script -/
def yyIX (b L : Nat) (xs : Nat → Int32) (l : Launch) (y : MethodName) (cc : ByteArray) (mL : Nat) (ret : Option FieldType) (rm : Room) (d : yyD) (av : List Value) (w0 w1 : va_W) (rv : Int32) : Prop :=
  ∀ sz : Nat, Met l y (Cond.code y cc mL ret :: WW) rm (yyPreF b L xs d av w0 sz) (va_Qi (fun r (_ : Unit) => r = rv) (fun _ => yyB d (va_A w0 sz) w1) (va_A w0 sz)) rm.cells rm.slots (va_A w0 sz)
/-- an int, a world of many, under a table -/
def yyJ {S : Type} (b L : Nat) (xs : Nat → Int32) (l : Launch) (y : MethodName) (cc : ByteArray) (mL : Nat) (ret : Option FieldType) (hh : List (Nat × Nat × Nat × Nat)) (rm : Room) (d : yyD) (av : List Value) (w0 : va_W) (P : S → Prop) (w1 : S → va_W) (rv : Int32) : Prop :=
  ∀ sz : Nat, Met l y (Cond.codeWith y cc mL ret hh :: WW) rm (yyPreF b L xs d av w0 sz) (va_Qi (fun r (u : S) => r = rv ∧ P u) (fun u => yyB d (va_A w0 sz) (w1 u)) (va_A w0 sz)) rm.cells rm.slots (va_A w0 sz)
/-- a cell is answered, a world of many -/
def yyJr {S : Type} (b L : Nat) (xs : Nat → Int32) (l : Launch) (y : MethodName) (cc : ByteArray) (mL : Nat) (ret : Option FieldType) (rm : Room) (d : yyD) (av : List Value) (w0 : va_W) (P : S → Prop) (w1 : S → Nat → va_W) : Prop :=
  ∀ sz : Nat, Met l y (Cond.code y cc mL ret :: WW) rm (yyPreF b L xs d av w0 sz) (va_Qr P (fun u a => yyB d (va_A w0 sz) (w1 u a)) (va_A w0 sz)) rm.cells rm.slots (va_A w0 sz)
/-- a new row is answered -/
def yyA (l : Launch) (y : MethodName) (cc : ByteArray) (mL : Nat) (ret : Option FieldType) (rm : Room) (d : yyD) (av : List Value) (w0 : va_W) (w1 : Nat → va_W) : Prop :=
  ∀ sz : Nat, Met l y (Cond.code y cc mL ret :: WW) rm (yyPre d av w0 sz) (va_Qr (fun _ : Unit => True) (fun _ a => yyB d (va_A w0 sz) (w1 a)) (va_A w0 sz)) rm.cells rm.slots (va_A w0 sz)
def yyQJ {S : Type} (d : yyD) (G : yyG) (R : Room) (P : S → Prop) (w1 : S → va_W) (rv : Int32) : State → Prop := MQ (gB G) (va_Qi (fun r (u : S) => r = rv ∧ P u) (fun u => yyB d (gA G) (w1 u)) (gA G)) (gV G) (gS G) R.cells R.slots (gA G)
def yyQJr {S : Type} (d : yyD) (G : yyG) (R : Room) (P : S → Prop) (w1 : S → Nat → va_W) : State → Prop := MQ (gB G) (va_Qr P (fun u a => yyB d (gA G) (w1 u a)) (gA G)) (gV G) (gS G) R.cells R.slots (gA G)
section YD
variable {b L : Nat} {xs : Nat → Int32} {l : Launch} {y : MethodName} {cc : ByteArray} {mL : Nat} {ret : Option FieldType} {rm : Room} {d : yyD} {av : List Value} {w0 : va_W} {own : String} {hh : List (Nat × Nat × Nat × Nat)}
theorem yyA_of {w1 : Nat → va_W} (lv0 : List (Nat × Value)) (hy : plainFor y = true) (ho : y.cls = own) (hl : (lg_sl av).length ≤ mL) (hlv : lv_args 0 av = lv0)
    (body : ∀ (G : yyG) (Q : State → Prop), Q = yyQJr (S := Unit) d G rm (fun _ => True) (fun _ => w1) → gL G = l → yyC d G cc own rm mL ret → yyW d G 0 0 Q w0 lv0 0 []) : yyA l y cc mL ret rm d av w0 w1 := by
  intro sz
  refine yy_ofWF (cc := cc) (maxL := mL) (ret := ret) hy rfl ?_
  intro p e s m args below meth c s₁ B hml hv
  obtain ⟨rfl, hsz, hP, hK, hD0⟩ := hv
  subst hsz
  have hts := atoms_spec (ws := Cond.code y cc mL ret :: WW) B.pre
  have hown : s.vm.findClass own = some m.cls := ho ▸ findClass_of_methodNamed B.named
  rw [lg_entry_eq]
  exact body (p, l, e, rm, s, m, av.toArray, below, meth, c, va_A w0 s.heap.size, mL) _ rfl rfl ⟨B.exec, B.bytes, hml, hown, fun w h => hts w (List.mem_cons_of_mem _ h), hK, B.notSynchronized, fun q h => Or.inr h, rfl, rfl, B.returns⟩ s.heap [] _ hP hD0.self va_S.rf (hlv ▸ lv_entry av hl)
theorem yyIX_of {w1 : va_W} {rv : Int32} (lv0 : List (Nat × Value)) (hy : plainFor y = true) (ho : y.cls = own) (hl : (lg_sl av).length ≤ mL) (hlv : lv_args 0 av = lv0)
    (body : ∀ (G : yyG) (Q : State → Prop), Q = yyQI d G rm w1 rv → gL G = l → yyC d G cc own rm mL ret → yyF b L xs (gA G) (gS G) → yyW d G 0 0 Q w0 lv0 0 []) : yyIX b L xs l y cc mL ret rm d av w0 w1 rv := by
  intro sz
  refine yy_ofWF (cc := cc) (maxL := mL) (ret := ret) hy rfl ?_
  intro p e s m args below meth c s₁ B hml hv
  obtain ⟨rfl, hsz, hP, hK, hD0, hF⟩ := hv
  subst hsz
  have hts := atoms_spec (ws := Cond.code y cc mL ret :: WW) B.pre
  have hown : s.vm.findClass own = some m.cls := ho ▸ findClass_of_methodNamed B.named
  rw [lg_entry_eq]
  exact body (p, l, e, rm, s, m, av.toArray, below, meth, c, va_A w0 s.heap.size, mL) _ rfl rfl ⟨B.exec, B.bytes, hml, hown, fun w h => hts w (List.mem_cons_of_mem _ h), hK, B.notSynchronized, fun q h => Or.inr h, rfl, rfl, B.returns⟩ hF s.heap [] _ hP hD0.self va_S.rf (hlv ▸ lv_entry av hl)
theorem yyJr_of {S : Type} {P : S → Prop} {w1 : S → Nat → va_W} (lv0 : List (Nat × Value)) (hy : plainFor y = true) (ho : y.cls = own) (hl : (lg_sl av).length ≤ mL) (hlv : lv_args 0 av = lv0)
    (body : ∀ (G : yyG) (Q : State → Prop), Q = yyQJr d G rm P w1 → gL G = l → yyC d G cc own rm mL ret → yyF b L xs (gA G) (gS G) → yyW d G 0 0 Q w0 lv0 0 []) : yyJr b L xs l y cc mL ret rm d av w0 P w1 := by
  intro sz
  refine yy_ofWF (cc := cc) (maxL := mL) (ret := ret) hy rfl ?_
  intro p e s m args below meth c s₁ B hml hv
  obtain ⟨rfl, hsz, hP, hK, hD0, hF⟩ := hv
  subst hsz
  have hts := atoms_spec (ws := Cond.code y cc mL ret :: WW) B.pre
  have hown : s.vm.findClass own = some m.cls := ho ▸ findClass_of_methodNamed B.named
  rw [lg_entry_eq]
  exact body (p, l, e, rm, s, m, av.toArray, below, meth, c, va_A w0 s.heap.size, mL) _ rfl rfl ⟨B.exec, B.bytes, hml, hown, fun w h => hts w (List.mem_cons_of_mem _ h), hK, B.notSynchronized, fun q h => Or.inr h, rfl, rfl, B.returns⟩ hF s.heap [] _ hP hD0.self va_S.rf (hlv ▸ lv_entry av hl)
theorem yy_ofWH {l : Launch} {y : MethodName} {ws ws' : List Cond} {rm : Room} {Pc : Array Value → State → Prop} {Qc : Array Value → State → Outcome → State → Prop} {mc ms : Nat} {free : Addr → Prop} {cc : ByteArray} {maxL : Nat} {ret : Option FieldType} {hh : List (Nat × Nat × Nat × Nat)}
    (hy : plainName y.cls = true) (hw : ws = Cond.codeWith y cc maxL ret hh :: ws')
    (body : ∀ p e s m args below meth c s₁, BodyLoose p l y (headSpec ws rm) cc maxL ret e s m args below meth c s₁ → c.maxLocals = maxL → c.exceptionTable.toList = tableOf hh → Pc args s →
      W p l e (headSpec ws rm).room s m args below meth c s.heap [] 0 0 (MQ below Qc args s mc ms free) (entryFrame m args maxL)) : Met l y ws rm Pc Qc mc ms free := by
  refine MetFree.of_bodyS (code := cc) (maxLocals := maxL) (ret := ret) hy ?_ ?_
  · intro args s m h hn
    obtain ⟨m9, meth, c, hn9, h1, h2, h3, h4, -, h5, h6, -⟩ := Cond.codeWith_spec (atoms_spec (ws := ws) h _ (by rw [hw]; exact List.mem_cons_self))
    cases hn.symm.trans hn9
    exact ⟨meth, c, h1, h2, h3, h4, h5, h6⟩
  · intro p e s m args below meth c s₁ B hml hP _
    have hh0 : s₁.heap = s.heap := by rw [B.state]; rfl
    have hcw : (Cond.codeWith y cc maxL ret hh).before args s = true := atoms_spec (ws := ws) B.pre _ (by rw [hw]; exact List.mem_cons_self)
    obtain ⟨t, a1, o, b1, b2, b3⟩ := body p e s m args below meth c s₁ B hml (vx_table (x := y) B hcw) hP s₁ hh0 (Stand.of_body B)
    exact ⟨t, o, a1, b1, b2, ⟨b3.1, b3.2⟩⟩
theorem yyJ_of {S : Type} {P : S → Prop} {w1 : S → va_W} {rv : Int32} (lv0 : List (Nat × Value)) (hy : plainName y.cls = true) (ho : y.cls = own) (hl : (lg_sl av).length ≤ mL) (hlv : lv_args 0 av = lv0)
    (body : ∀ (G : yyG) (Q : State → Prop), Q = yyQJ d G rm P w1 rv → gL G = l → yyC d G cc own rm mL ret → yyF b L xs (gA G) (gS G) → (gC G).exceptionTable.toList = tableOf hh → yyW d G 0 0 Q w0 lv0 0 []) : yyJ b L xs l y cc mL ret hh rm d av w0 P w1 rv := by
  intro sz
  refine yy_ofWH (cc := cc) (maxL := mL) (ret := ret) (hh := hh) hy rfl ?_
  intro p e s m args below meth c s₁ B hml htab hv
  obtain ⟨rfl, hsz, hP, hK, hD0, hF⟩ := hv
  subst hsz
  have hts := atoms_spec (ws := Cond.codeWith y cc mL ret hh :: WW) B.pre
  have hown : s.vm.findClass own = some m.cls := ho ▸ findClass_of_methodNamed B.named
  rw [lg_entry_eq]
  exact body (p, l, e, rm, s, m, av.toArray, below, meth, c, va_A w0 s.heap.size, mL) _ rfl rfl ⟨B.exec, B.bytes, hml, hown, fun w h => hts w (List.mem_cons_of_mem _ h), hK, B.notSynchronized, fun q h => Or.inr h, rfl, rfl, B.returns⟩ hF htab s.heap [] _ hP hD0.self va_S.rf (hlv ▸ lv_entry av hl)
end YD
theorem gwwH {y : MethodName} {cc : ByteArray} {mL : Nat} {ret : Option FieldType} {hh : List (Nat × Nat × Nat × Nat)} (hk : Cond.codeWith y cc mL ret hh ∈ WW) : GoodIn WW (Cond.codeWith y cc mL ret hh :: WW) := by
  intro w hw
  have h : w ∈ WW := by
    rcases List.mem_cons.mp hw with h | h
    · rw [h]; exact hk
    · exact h
  exact ⟨h, good_of_word (List.mem_filter.mp h).2⟩
section YL
variable {d : yyD} {G : yyG} {cc : ByteArray} {own : String} {R : Room} {nL : Nat} {ret : Option FieldType} {k n : Nat} {Q : State → Prop} {ws : va_W} {lv : List (Nat × Value)} {pc : Nat} {st st0 : List Value} {wc wr : va_W} {is rs : List Nat} {b L : Nat} {xs : Nat → Int32} {H : Heap} {locs : List Loc}
variable {y : MethodName} {cy : ByteArray} {mL : Nat} {rt : Option FieldType} {rm : Room} {As : List Value} {i : Nat} {C : String}
theorem yyF.at (hF : yyF b L xs (gA G) (gS G)) (hC : yyC d G cc own R nL ret) (hcut : yyCut ws wc wr is rs) (hD : va_D (gA G) ws) (hS : va_S (gA G) (gS G).heap H locs) {U : State} (hU : U.heap = H) (hW : (gS G).WarmedH U.vm) : yyF b L xs (va_A wc H.size) U := by
  have hFc := va_free (wc := wc) hD hS hC.A is hcut.1
  refine ⟨hF.1.at hC hcut hD hS hU hW, ?_, ?_, fun h => hF.2.2.2 (hFc b h)⟩
  · rw [hU]
    exact va_X.moved hW.alike (hF.2.1.kept (hS.2.1 b hF.2.2.1 hF.2.2.2))
  · rw [hU]
    exact Nat.lt_of_lt_of_le hF.2.2.1 hS.1
/-- a callee throws, and a clause here catches it -/
theorem y_cTIc {E : String} {b : Nat} {hh : List (Nat × Nat × Nat × Nat)} (hC : yyC d G cc own R nL ret) (hZ : yyZ (gA G) (gS G) (gS G).heap) (hM : yyTI (gL G) y cy mL rt rm d (.ref b :: As) wc E) (kc : Cond.code y cy mL rt ∈ WW) (kl : Cond.methodLink own i y ∈ WW) (ki : Cond.instanceMethod y ∈ WW) (ks : Cond.selects C y y ∈ WW) (kn : Cond.initialized C ∈ WW)
    (hy : yyN y C As.length) (hR : yyR rm R mL k n st) (q0 : Nat) {ci N : Nat} {fs : List Value} {T : u_T} (hq : wc[q0]? = some (b, .inr (ci, fs))) (hc : vwCl[ci]? = some (C, T, N)) (hs0 : st0 = As.reverse ++ .ref b :: st)
    (hdg : decode cc pc = .ok (.invokevirtual i, 3)) (htab : (gC G).exceptionTable.toList = tableOf hh) (pre : List ExceptionTableEntry) (x : ExceptionTableEntry) (suf : List ExceptionTableEntry) (hsp : tableOf hh = pre ++ x :: suf)
    (hpass : ∀ z ∈ pre, covers z pc = false) (hx : covers x pc = true) (h0 : x.catchType ≠ 0) (hlk : Cond.classLink own x.catchType E ∈ WW) (hca : Cond.castable E E ∈ NL)
    (kk : ∀ q9, yyW d G (k + rm.cells) (n + rm.slots) Q (wc ++ wr) lv x.handlerPc [.ref q9]) : yyW d G k n Q (wc ++ wr) lv pc st0 := by
  intro H locs ls hP hD hS hls
  subst hs0
  have hRR := hC.rm
  subst hRR
  have hcut := cut_app wc wr
  have hFc := va_free (wc := wc) hD hS hC.A _ hcut.1
  refine vx_calli (vx_runV (As := As) (rest := st) ⟨hC.1, hC.2.1, hC.2.2.1, hC.2.2.2.1, hC.2.2.2.2.1⟩ (hM H.size) (cwV As.length hC.2.2.2.2.1 (gwV kl ki ks kn (gww kc)) rfl rfl rfl hy hR.1) ⟨yyPreT.blind _ _ _ _, va_recv (q := (C, T, N)) hC.K (hP.sub _ (fm_of hcut.1)) hc hq, fun U hU hW => ⟨rfl, by rw [hU], by rw [hU]; exact hP.sub _ (fm_of hcut.1), hC.kw.warm hW, (hD.sub _ hcut.2.1 hcut.1).weaken (fun _ _ _ _ => trivial), hZ.at hC hcut hD hS hU hW⟩⟩ rfl rfl (hls.1.trans hC.n) rfl (lv_room hR.2.2) hdg hR.2.1) hS (fun q _ h => hFc q h) hFc (fun q _ h => hFc q h) ?_ (fun r u t H1 locs1 _ _ hf => hf.elim)
  intro E' ce q9 u t H1 locs1 ht hvm _ hB hz1 hk1 hS1 hce hv hcl
  obtain ⟨e1, hP1, hD1⟩ := hB
  subst e1
  rw [ht] at hP1
  obtain ⟨hP2, hD2⟩ := va_join (wr := wr) (w1 := wc) hP hD _ _ hcut.1 hcut.2.2.1 hcut.2.2.2.1 hcut.2.2.2.2 hk1 hFc hP1 hD1
  exact vx_catch hC.2.2.2.1 pre x suf (htab.trans hsp) (fun z hz => Or.inl (hpass z hz)) hx h0 (hC.w hlk) (hC.N hca) hce hv hcl (kk q9 H1 locs1 ls (wP_perm List.perm_append_comm hP2) (wD_perm List.perm_append_comm hD2) hS1 hls)
theorem yb_sJ {S : Type} {P : S → Prop} {w1 : S → va_W} {rv : Int32} {hh : List (Nat × Nat × Nat × Nat)} (hC : yyC d G cc own R nL ret) (hF : yyF b L xs (gA G) (gS G)) (hM : yyJ b L xs (gL G) y cy mL rt hh rm d As wc P w1 rv) (kc : Cond.codeWith y cy mL rt hh ∈ WW) (kl : Cond.methodLink own i y ∈ WW) (ki : Cond.static y ∈ WW) (kn : Cond.initialized y.cls ∈ WW)
    (hy : yyN y C As.length) (hR : yyR rm R mL k n st) (hs0 : st0 = As.reverse ++ st)
    (hdg : decode cc pc = .ok (.invokestatic i, 3)) (kk : ∀ u, P u → yyW d G (k + rm.cells) (n + rm.slots) Q (w1 u ++ wr) lv (pc + 3) (.int rv :: st)) : yyW d G k n Q (wc ++ wr) lv pc st0 := by
  intro H locs ls hP hD hS hl
  subst hs0
  have hRR := hC.rm
  subst hRR
  have hcut := cut_app wc wr
  have hFc := va_free (wc := wc) hD hS hC.A _ hcut.1
  refine va_calli (vx_runSW (As := As) (rest := st) ⟨hC.1, hC.2.1, hC.2.2.1, hC.2.2.2.1, hC.2.2.2.2.1⟩ (hM H.size) (vx_cwSW As.length hC.2.2.2.2.1 (gwS kl ki kn (gwwH kc)) rfl rfl rfl hy.2 hR.1) ⟨yyPreF.blind _ _ _ _ _ _ _, fun U hU hW => ⟨rfl, by rw [hU], by rw [hU]; exact hP.sub _ (fm_of hcut.1), hC.kw.warm hW, (hD.sub _ hcut.2.1 hcut.1).weaken (fun _ _ _ _ => trivial), hF.at hC hcut hD hS hU hW⟩⟩ rfl rfl (hl.1.trans hC.n) rfl (lv_room hR.2.2) hdg hR.2.1) hS (fun q _ h => hFc q h) hFc (fun r u t H1 locs1 ht hvm hw hB hz1 hk1 hS1 => ?_)
  obtain ⟨hP1, hD1⟩ := hB
  rw [ht] at hP1
  obtain ⟨hP2, hD2⟩ := va_join (wr := wr) (w1 := w1 u) hP hD _ _ hcut.1 hcut.2.2.1 hcut.2.2.2.1 hcut.2.2.2.2 hk1 hFc hP1 hD1
  obtain ⟨hw', hPu⟩ : r = rv ∧ P u := hw
  rw [hw']
  exact kk u hPu H1 locs1 ls (wP_perm List.perm_append_comm hP2) (wD_perm List.perm_append_comm hD2) hS1 hl
theorem yb_sJr {S : Type} {P : S → Prop} {w1 : S → Nat → va_W} (hC : yyC d G cc own R nL ret) (hF : yyF b L xs (gA G) (gS G)) (hM : yyJr b L xs (gL G) y cy mL rt rm d As wc P w1) (kc : Cond.code y cy mL rt ∈ WW) (kl : Cond.methodLink own i y ∈ WW) (ki : Cond.static y ∈ WW) (kn : Cond.initialized y.cls ∈ WW)
    (hy : yyN y C As.length) (hR : yyR rm R mL k n st) (hs0 : st0 = As.reverse ++ st)
    (hdg : decode cc pc = .ok (.invokestatic i, 3)) (kk : ∀ u a, P u → yyW d G (k + rm.cells) (n + rm.slots) Q (w1 u a ++ wr) lv (pc + 3) (.ref a :: st)) : yyW d G k n Q (wc ++ wr) lv pc st0 := by
  intro H locs ls hP hD hS hl
  subst hs0
  have hRR := hC.rm
  subst hRR
  have hcut := cut_app wc wr
  have hFc := va_free (wc := wc) hD hS hC.A _ hcut.1
  refine va_callr (va_runS (As := As) (rest := st) ⟨hC.1, hC.2.1, hC.2.2.1, hC.2.2.2.1, hC.2.2.2.2.1⟩ (hM H.size) (va_cwS As.length hC.2.2.2.2.1 (gwS kl ki kn (gww kc)) rfl rfl rfl hy.2 hR.1) ⟨yyPreF.blind _ _ _ _ _ _ _, fun U hU hW => ⟨rfl, by rw [hU], by rw [hU]; exact hP.sub _ (fm_of hcut.1), hC.kw.warm hW, (hD.sub _ hcut.2.1 hcut.1).weaken (fun _ _ _ _ => trivial), hF.at hC hcut hD hS hU hW⟩⟩ rfl rfl (hl.1.trans hC.n) rfl (lv_room hR.2.2) hdg hR.2.1) hS (fun q _ h => hFc q h) hFc (fun u ra t H1 locs1 ht hvm hw hB hz1 hk1 hS1 => ?_)
  obtain ⟨hP1, hD1⟩ := hB
  rw [ht] at hP1
  obtain ⟨hP2, hD2⟩ := va_join (wr := wr) (w1 := w1 u ra) hP hD _ _ hcut.1 hcut.2.2.1 hcut.2.2.2.1 hcut.2.2.2.2 hk1 hFc hP1 hD1
  exact kk u ra hw H1 locs1 ls (wP_perm List.perm_append_comm hP2) (wD_perm List.perm_append_comm hD2) hS1 hl
theorem yb_sIX {w1 : va_W} {rv : Int32} (hC : yyC d G cc own R nL ret) (hF : yyF b L xs (gA G) (gS G)) (hM : yyIX b L xs (gL G) y cy mL rt rm d As wc w1 rv) (kc : Cond.code y cy mL rt ∈ WW) (kl : Cond.methodLink own i y ∈ WW) (ki : Cond.static y ∈ WW) (kn : Cond.initialized y.cls ∈ WW)
    (hy : yyN y C As.length) (hR : yyR rm R mL k n st) (hs0 : st0 = As.reverse ++ st)
    (hdg : decode cc pc = .ok (.invokestatic i, 3)) (kk : yyW d G (k + rm.cells) (n + rm.slots) Q (w1 ++ wr) lv (pc + 3) (.int rv :: st)) : yyW d G k n Q (wc ++ wr) lv pc st0 := by
  intro H locs ls hP hD hS hl
  subst hs0
  have hRR := hC.rm
  subst hRR
  have hcut := cut_app wc wr
  have hFc := va_free (wc := wc) hD hS hC.A _ hcut.1
  refine va_calli (va_runS (As := As) (rest := st) ⟨hC.1, hC.2.1, hC.2.2.1, hC.2.2.2.1, hC.2.2.2.2.1⟩ (hM H.size) (va_cwS As.length hC.2.2.2.2.1 (gwS kl ki kn (gww kc)) rfl rfl rfl hy.2 hR.1) ⟨yyPreF.blind _ _ _ _ _ _ _, fun U hU hW => ⟨rfl, by rw [hU], by rw [hU]; exact hP.sub _ (fm_of hcut.1), hC.kw.warm hW, (hD.sub _ hcut.2.1 hcut.1).weaken (fun _ _ _ _ => trivial), hF.at hC hcut hD hS hU hW⟩⟩ rfl rfl (hl.1.trans hC.n) rfl (lv_room hR.2.2) hdg hR.2.1) hS (fun q _ h => hFc q h) hFc (fun r u t H1 locs1 ht hvm hw hB hz1 hk1 hS1 => ?_)
  obtain ⟨hP1, hD1⟩ := hB
  rw [ht] at hP1
  obtain ⟨hP2, hD2⟩ := va_join (wr := wr) (w1 := w1) hP hD _ _ hcut.1 hcut.2.2.1 hcut.2.2.2.1 hcut.2.2.2.2 hk1 hFc hP1 hD1
  have hw' : r = rv := hw
  rw [hw']
  exact kk H1 locs1 ls (wP_perm List.perm_append_comm hP2) (wD_perm List.perm_append_comm hD2) hS1 hl
theorem yb_sA {w1 : Nat → va_W} (hC : yyC d G cc own R nL ret) (hM : yyA (gL G) y cy mL rt rm d As wc w1) (kc : Cond.code y cy mL rt ∈ WW) (kl : Cond.methodLink own i y ∈ WW) (ki : Cond.static y ∈ WW) (kn : Cond.initialized y.cls ∈ WW)
    (hy : yyN y C As.length) (hR : yyR rm R mL k n st) (hs0 : st0 = As.reverse ++ st)
    (hdg : decode cc pc = .ok (.invokestatic i, 3)) (kk : ∀ a, yyW d G (k + rm.cells) (n + rm.slots) Q (w1 a ++ wr) lv (pc + 3) (.ref a :: st)) : yyW d G k n Q (wc ++ wr) lv pc st0 := by
  intro H locs ls hP hD hS hl
  subst hs0
  have hRR := hC.rm
  subst hRR
  have hcut := cut_app wc wr
  have hFc := va_free (wc := wc) hD hS hC.A _ hcut.1
  refine va_callr (va_runS (As := As) (rest := st) ⟨hC.1, hC.2.1, hC.2.2.1, hC.2.2.2.1, hC.2.2.2.2.1⟩ (hM H.size) (va_cwS As.length hC.2.2.2.2.1 (gwS kl ki kn (gww kc)) rfl rfl rfl hy.2 hR.1) (yy_pre hC hcut hP hD As) rfl rfl (hl.1.trans hC.n) rfl (lv_room hR.2.2) hdg hR.2.1) hS (fun q _ h => hFc q h) hFc (fun u ra t H1 locs1 ht hvm hw hB hz1 hk1 hS1 => ?_)
  obtain ⟨hP1, hD1⟩ := hB
  rw [ht] at hP1
  obtain ⟨hP2, hD2⟩ := va_join (wr := wr) (w1 := w1 ra) hP hD _ _ hcut.1 hcut.2.2.1 hcut.2.2.2.1 hcut.2.2.2.2 hk1 hFc hP1 hD1
  exact kk ra H1 locs1 ls (wP_perm List.perm_append_comm hP2) (wD_perm List.perm_append_comm hD2) hS1 hl
theorem yb_cA {b : Nat} {w1 : Nat → va_W} (hC : yyC d G cc own R nL ret) (hM : yyA (gL G) y cy mL rt rm d (.ref b :: As) wc w1) (kc : Cond.code y cy mL rt ∈ WW) (kl : Cond.methodLink own i y ∈ WW) (ki : Cond.instanceMethod y ∈ WW) (ks : Cond.selects C y y ∈ WW) (kn : Cond.initialized C ∈ WW)
    (hy : yyN y C As.length) (hR : yyR rm R mL k n st) (q0 : Nat) {ci N : Nat} {fs : List Value} {T : u_T} (hq : wc[q0]? = some (b, .inr (ci, fs))) (hc : vwCl[ci]? = some (C, T, N)) (hs0 : st0 = As.reverse ++ .ref b :: st)
    (hdg : decode cc pc = .ok (.invokevirtual i, 3)) (kk : ∀ a, yyW d G (k + rm.cells) (n + rm.slots) Q (w1 a ++ wr) lv (pc + 3) (.ref a :: st)) : yyW d G k n Q (wc ++ wr) lv pc st0 := by
  intro H locs ls hP hD hS hl
  subst hs0
  have hRR := hC.rm
  subst hRR
  have hcut := cut_app wc wr
  have hFc := va_free (wc := wc) hD hS hC.A _ hcut.1
  refine va_callr (va_runV (As := As) (rest := st) ⟨hC.1, hC.2.1, hC.2.2.1, hC.2.2.2.1, hC.2.2.2.2.1⟩ (hM H.size) (cwV As.length hC.2.2.2.2.1 (gwV kl ki ks kn (gww kc)) rfl rfl rfl hy hR.1) (yy_preV hC hcut hP hD As q0 hq hc) rfl rfl (hl.1.trans hC.n) rfl (lv_room hR.2.2) hdg hR.2.1) hS (fun q _ h => hFc q h) hFc (fun u ra t H1 locs1 ht hvm hw hB hz1 hk1 hS1 => ?_)
  obtain ⟨hP1, hD1⟩ := hB
  rw [ht] at hP1
  obtain ⟨hP2, hD2⟩ := va_join (wr := wr) (w1 := w1 ra) hP hD _ _ hcut.1 hcut.2.2.1 hcut.2.2.2.1 hcut.2.2.2.2 hk1 hFc hP1 hD1
  exact kk ra H1 locs1 ls (wP_perm List.perm_append_comm hP2) (wD_perm List.perm_append_comm hD2) hS1 hl
theorem y_cM {b : Nat} {w1 : va_W} {rv : UInt64} (hC : yyC d G cc own R nL ret) (hM : yyM (gL G) y cy mL rt rm d (.ref b :: As) wc w1 rv) (kc : Cond.code y cy mL rt ∈ WW) (kl : Cond.methodLink own i y ∈ WW) (ki : Cond.instanceMethod y ∈ WW) (ks : Cond.selects C y y ∈ WW) (kn : Cond.initialized C ∈ WW)
    (hy : yyN y C As.length) (hR : yyR rm R mL k n st) (q0 : Nat) {ci N : Nat} {fs : List Value} {T : u_T} (hq : wc[q0]? = some (b, .inr (ci, fs))) (hc : vwCl[ci]? = some (C, T, N)) (hs0 : st0 = As.reverse ++ .ref b :: st)
    (hdg : decode cc pc = .ok (.invokevirtual i, 3)) (kk : yyW d G (k + rm.cells) (n + rm.slots) Q (w1 ++ wr) lv (pc + 3) (.double rv :: st)) : yyW d G k n Q (wc ++ wr) lv pc st0 := by
  intro H locs ls hP hD hS hl
  subst hs0
  have hRR := hC.rm
  subst hRR
  have hcut := cut_app wc wr
  have hFc := va_free (wc := wc) hD hS hC.A _ hcut.1
  refine va_calld (va_runV (As := As) (rest := st) ⟨hC.1, hC.2.1, hC.2.2.1, hC.2.2.2.1, hC.2.2.2.2.1⟩ (hM H.size) (cwV As.length hC.2.2.2.2.1 (gwV kl ki ks kn (gww kc)) rfl rfl rfl hy hR.1) (yy_preV hC hcut hP hD As q0 hq hc) rfl rfl (hl.1.trans hC.n) rfl (lv_room hR.2.2) hdg hR.2.1) hS (fun q _ h => hFc q h) hFc (fun r u t H1 locs1 ht hvm hw hB hz1 hk1 hS1 => ?_)
  obtain ⟨hP1, hD1⟩ := hB
  rw [ht] at hP1
  obtain ⟨hP2, hD2⟩ := va_join (wr := wr) (w1 := w1) hP hD _ _ hcut.1 hcut.2.2.1 hcut.2.2.2.1 hcut.2.2.2.2 hk1 hFc hP1 hD1
  have hw' : r = rv := hw
  rw [hw']
  exact kk H1 locs1 ls (wP_perm List.perm_append_comm hP2) (wD_perm List.perm_append_comm hD2) hS1 hl
-- ends
theorem y_aretJ {S : Type} {P : S → Prop} {w1 : S → Nat → va_W} {ft : FieldType} {v : Nat} (u : S) (hC : yyC d G cc own R nL (some ft)) (hft : (∃ n, ft = .object n) ∨ ∃ t, ft = .array t) (hQ : Q = yyQJr d G R P w1) (hP0 : P u) (hw : ws = w1 u v) (hk : k ≤ R.cells) (hn : n ≤ R.slots) (hdg : decode cc pc = .ok (.areturn, 1)) : yyW d G k n Q ws lv pc [.ref v] := by
  subst hw; subst hQ
  intro H locs ls hP hD hS h
  refine W.widen hk hn ?_
  exact W.aret hC.1 hC.2.1 hC.r hft (Or.inr ⟨v, rfl⟩) (fun t ht hW => ⟨⟨u, v, rfl, hP0, by rw [ht]; exact hP, hD⟩, hS.F ht⟩) hS.2.2 hdg hC.lk
theorem y_iretJ {S : Type} {ty : FieldType} {P : S → Prop} {w1 : S → va_W} {rv v : Int32} (u : S) (hC : yyC d G cc own R nL (some ty)) (hQ : Q = yyQJ d G R P w1 rv) (hty : narrow ty (.int v) = .int v) (hP0 : P u) (hw : ws = w1 u) (hv : v = rv) (hk : k ≤ R.cells) (hn : n ≤ R.slots) (hdg : decode cc pc = .ok (.ireturn, 1)) : yyW d G k n Q ws lv pc [.int v] := by
  subst hw; subst hv; subst hQ
  intro H locs ls hP hD hS h
  refine W.widen hk hn ?_
  exact W.zret hC.1 hC.2.1 hC.r hty (fun t ht hW => ⟨⟨v, u, rfl, ⟨rfl, hP0⟩, by rw [ht]; exact hP, hD⟩, hS.F ht⟩) hS.2.2 hdg hC.lk
-- instructions
theorem y_sld (hC : yyC d G cc own R nL ret) (hF : yyF b L xs (gA G) (gS G)) {j : Nat} (hdg : decode cc pc = .ok (.iaload, 1)) (v : Int32) (hL : L ≤ 260) (hj : j < L) (hv : xs j = v) (kk : yyW d G k n Q ws lv (pc + 1) (.int v :: st)) : yyW d G k n Q ws lv pc (.int (nI j) :: .ref b :: st) := by
  intro H locs ls hP hD hS h
  refine va_sld hC.1 hC.2.1 hF.2.1 hF.2.2.1 hF.2.2.2 hS (vp_in_nI hj (by omega)) hdg ?_
  rw [nI_clamp (by omega), hv]
  exact kk H locs ls hP hD hS h
theorem y_slen (hC : yyC d G cc own R nL ret) (hF : yyF b L xs (gA G) (gS G)) (hdg : decode cc pc = .ok (.arraylength, 1)) (kk : yyW d G k n Q ws lv (pc + 1) (.int (nI L) :: st)) : yyW d G k n Q ws lv pc (.ref b :: st) :=
  fun H locs ls hP hD hS h => va_slen hC.1 hC.2.1 hF.2.1 hF.2.2.1 hF.2.2.2 hS hdg (kk H locs ls hP hD hS h)
theorem y_ldc (hC : yyC d G cc own R nL ret) {i : Nat} {v : Int32} (hdg : decode cc pc = .ok (.ldc i, 2)) (hw : Cond.constant own i v ∈ WW) (kk : yyW d G k n Q ws lv (pc + 2) (.int v :: st)) : yyW d G k n Q ws lv pc st :=
  fun H locs ls hP hD hS h => lv_ldc hC.1 hC.2.1 hC.2.2.2.1 (hC.w hw) hdg (kk H locs ls hP hD hS h)
theorem y_ishr (hC : yyC d G cc own R nL ret) {x y : Int32} (hdg : decode cc pc = .ok (.ishr, 1)) (z : Int32) (hz : x >>> (y &&& 31) = z) (kk : yyW d G k n Q ws lv (pc + 1) (.int z :: st)) : yyW d G k n Q ws lv pc (.int y :: .int x :: st) :=
  fun H locs ls hP hD hS h => lv_ishr hC.1 hC.2.1 hdg (hz ▸ kk H locs ls hP hD hS h)
theorem y_lload (hC : yyC d G cc own R nL ret) (j : Nat) {i : Nat} {x : Int64} (hdg : decode cc pc = .ok (.lload i, 2)) (hl : lv[j]? = some (i, .long x)) (kk : yyW d G k n Q ws lv (pc + 2) (.long x :: st)) : yyW d G k n Q ws lv pc st :=
  fun H locs ls hP hD hS h => lv_lload hC.1 hC.2.1 hdg (lv_at h j hl) (kk H locs ls hP hD hS h)
theorem y_lstore (hC : yyC d G cc own R nL ret) {i : Nat} {x : Int64} (hdg : decode cc pc = .ok (.lstore i, 2)) (lv' : List (Nat × Value)) (hl : (i, Value.long x) :: lv.filter (fun q => !(q.1 == i) && (!(q.1 == i + 1) && !(q.1 + 1 == i && q.2.category == 2))) = lv') (hn : i + 1 < nL) (kk : yyW d G k n Q ws lv' (pc + 2) st) : yyW d G k n Q ws lv pc (.long x :: st) :=
  fun H locs _ hP hD hS h => lv_lstore hC.1 hC.2.1 hdg h (hC.n ▸ hn) hl (fun ls' h' => kk H locs ls' hP hD hS h')
theorem y_lcmp_e (hC : yyC d G cc own R nL ret) {x y : Int64} (hdg : decode cc pc = .ok (.lcmp, 1)) (h : x = y) (kk : yyW d G k n Q ws lv (pc + 1) (.int 0 :: st)) : yyW d G k n Q ws lv pc (.long y :: .long x :: st) := by
  subst h
  intro H locs ls hP hD hS hl
  refine W.lcmp hC.1 hC.2.1 hdg ?_
  have e : lg_cmp x x = 0 := by simp [lg_cmp]
  rw [e]
  exact kk H locs ls hP hD hS hl
theorem y_dcmp (hC : yyC d G cc own R nL ret) {x y : UInt64} {op : CmpOp} (hdg : decode cc pc = .ok (.dcmp op, 1)) (kk : yyW d G k n Q ws lv (pc + 1) (.int (Op.cmpValue (FP.dcmp x y) op) :: st)) : yyW d G k n Q ws lv pc (.double y :: .double x :: st) :=
  fun H locs ls hP hD hS h => lv_dcmp hC.1 hC.2.1 hdg (kk H locs ls hP hD hS h)
theorem y_ifnonnull (hC : yyC d G cc own R nL ret) {x : Nat} {off : Int} (hdg : decode cc pc = .ok (.ifnonnull off, 3)) (tgt : Nat) (ht : (pc : Int) + off = (tgt : Int)) (kk : yyW d G k n Q ws lv tgt st) : yyW d G k n Q ws lv pc (.ref x :: st) :=
  fun H locs ls hP hD hS h => lv_ifnonnull hC.1 hC.2.1 hdg ht (kk H locs ls hP hD hS h)
/-- two ways that meet -/
theorem y_mrg {x z : Int32} (h : z = x) (kk : yyW d G k n Q ws lv pc (.int x :: st)) : yyW d G k n Q ws lv pc (.int z :: st) := h ▸ kk
theorem y_newaV (hC : yyC d G cc own R nL ret) {x : Int32} (hdg : decode cc pc = .ok (.newarray .int, 2)) (m : Nat) (ws' : Nat → va_W) (hx : x = nI m) (hm : m < 1000) (kw : Cond.arrayClass .int ∈ WW) (hR : k + 1 ≤ R.cells ∧ n + m ≤ R.slots) (hws : ∀ q, ws ++ [(q, aI d m (fun _ => 0))] = ws' q) (kk : ∀ q, yyW d G (k + 1) (n + m) Q (ws' q) lv (pc + 2) (.ref q :: st)) : yyW d G k n Q ws lv pc (.int x :: st) := by
  intro H locs ls hP hD hS hl
  subst hx
  have hR2 := hR
  rw [← hC.rm] at hR2
  refine va_newa (atype := .int) (ty := .int) (N' := m) (a0 := (m, .inl (fun _ => 0))) hC.1 hC.2.1 (hC.w kw) rfl hC.K hP hD hS hC.A (fun _ => rfl) (nI_pos (by omega)) (nI_clamp (by omega)) (by show m * 4 ≤ 536870912; omega) hR2.1 hR2.2 hdg (fun q cA H1 a1 a2 a3 a4 => ?_)
  have e : cA = d.2.1 := ra_eq rfl (a1.2 3 (cA, .int) rfl).2 (hC.K.2 0 (d.2.1, .int) rfl).2
  subst e
  exact kk q H1 locs ls ((hws q) ▸ a2) ((hws q) ▸ a3) a4 hl
theorem mna_in (cA : ClassId) (m : Nat) : Jvm.Free.Multi.innerC cA m (defaultValue .int) = vp_cell cA (m, .inl (fun _ => 0)) := by
  show ({ cls := cA, slots := Array.replicate m (.int 0), vm := .none } : Cell) = arrV cA m (fun _ => .int 0)
  rw [arrV_new]
theorem y_mna (hC : yyC d G cc own R nL ret) {BB : List va_W} {x z : Int32} {i : Nat} (hdg : decode cc pc = .ok (.multianewarray i 2, 4)) (N m : Nat) (hx : x = nI N) (hz : z = nI m) (hN : N < 1000) (hm : m < 1000) (kw : Cond.classLink own i "[[I" ∈ WW) (ka : Cond.arrayClass .int ∈ WW) (hR : k + (1 + N) ≤ R.cells ∧ n + (N + N * m) ≤ R.slots)
    (kk : ∀ (q : Nat) (r : Nat → Nat), yyW d G (k + 1 + N) (n + N + N * m) Q (fl ([(q, aR d N (fun i => some (r i)))] :: (BB ++ [sg d m r (fun _ _ => 0) N]))) lv (pc + 4) (.ref q :: st)) : yyW d G k n Q (fl BB) lv pc (.int z :: .int x :: st) := by
  intro H locs ls hP hD hS hl
  subst hx; subst hz
  have hR2 := hR
  rw [← hC.rm] at hR2
  have e1 : (gS G).vm.findClass (FieldType.array .int).toString = some d.2.1 := (hC.K.2 0 (d.2.1, .int) rfl).2
  have hP0 : va_P d.1 vwCl (fl BB ++ va_pl [] (fun _ => aI d 0 (fun _ => 0))) H := by
    show va_P d.1 vwCl (fl BB ++ []) H
    rw [List.append_nil]
    exact hP
  have hD0 : va_D (gA G) (fl BB ++ va_pl [] (fun _ => aI d 0 (fun _ => 0))) := by
    show va_D (gA G) (fl BB ++ [])
    rw [List.append_nil]
    exact hD
  refine va_mna (ty := .int) (cy := d.2.1) (X := fl BB) (L := []) (f := fun _ => aI d 0 (fun _ => 0)) (z := (m, .inl (fun _ => 0))) (N' := N) (K' := m) hC.1 hC.2.1 hC.2.2.2.1 (hC.w kw) (hC.kw.2.2 : va_AOA .int (gS G)) (hC.w ka) e1 hC.K hP0 hD0 hS hC.A (nI_pos (by omega)) (nI_pos (by omega)) (nI_clamp (by omega)) (nI_clamp (by omega)) (by omega) (by show m * 4 ≤ _; omega) (by omega) rfl rfl hR2.1 hR2.2 (fun c => mna_in c m) hdg (fun q r cA H1 h1 _ a1 a2 a3 a4 => ?_)
  have g1 : (gS G).vm.findClass ("[" ++ (FieldType.array .int).toString) = some cA := (a1.2 3 (cA, .array .int) rfl).2
  have g2 : (gS G).vm.findClass ("[" ++ (FieldType.array .int).toString) = some d.2.2.2 := (hC.K.2 2 (d.2.2.2, .array .int) rfl).2
  have e : cA = d.2.2.2 := Option.some.inj (g1.symm.trans g2)
  subst e
  have erow : va_pl ([] ++ (List.range N).map r) (vr_up (fun _ => aI d 0 (fun _ => 0)) ((List.range N).map r) (.inl (d.2.1, (m, .inl (fun _ => 0))))) = sg d m r (fun _ _ => 0) N := by
    unfold va_pl sg
    rw [List.nil_append, List.map_map]
    refine List.map_congr_left (fun j hj => ?_)
    show (r j, vr_up _ _ _ (r j)) = (r j, aI d m (fun _ => 0))
    rw [vr_up_in (List.mem_map.mpr ⟨j, hj, rfl⟩)]
  rw [erow] at a2 a3
  have pm : List.Perm ((fl BB ++ [(q, (.inl (d.2.2.2, N, .inr (.inr (.inr (.inr (fun i => if i < N then some (r i) else none))))) : va_E))]) ++ sg d m r (fun _ _ => 0) N) (fl ([(q, aR d N (fun i => if i < N then some (r i) else none))] :: (BB ++ [sg d m r (fun _ _ => 0) N]))) := by
    show List.Perm _ ([(q, aR d N (fun i => if i < N then some (r i) else none))] ++ fl (BB ++ [sg d m r (fun _ _ => 0) N]))
    rw [fl_app, fl_1, ← List.append_assoc]
    exact List.Perm.append_right _ List.perm_append_comm
  have kk2 : yyW d G (k + 1 + N) (n + N + N * m) Q (fl ([(q, aR d N (fun i => if i < N then some (r i) else none))] :: (BB ++ [sg d m r (fun _ _ => 0) N]))) lv (pc + 4) (.ref q :: st) :=
    yb_aRx 0 (fun i => some (r i)) _ rfl (fun j hj => if_pos hj) rfl (kk q r)
  exact kk2 H1 locs ls (wP_perm pm a2) (wD_perm pm a3) a4 hl
end YL
