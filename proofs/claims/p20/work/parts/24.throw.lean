-- METHODS THAT THROW: contracts of the calls that end so, over the layer
theorem vx142 : ∀ w ∈ (vx_at0 RX4 142 "java/lang/IllegalArgumentException" ["java/lang/RuntimeException", "java/lang/Exception"]).filter goodWord, w ∈ lw_tbl := by decide +kernel
theorem vx145 : ∀ w ∈ (vx_at0 RX4 145 "java/lang/IllegalStateException" ["java/lang/RuntimeException", "java/lang/Exception"]).filter goodWord, w ∈ lw_tbl := by decide +kernel
theorem vx148 : ∀ w ∈ (vx_at0 RX4 148 "java/lang/IndexOutOfBoundsException" ["java/lang/RuntimeException", "java/lang/Exception"]).filter goodWord, w ∈ lw_tbl := by decide +kernel
theorem vx142b : ∀ w ∈ (vx_at0 RX4 142 "java/lang/IllegalArgumentException" ["java/lang/RuntimeException", "java/lang/Exception"]).filter (fun w => !goodWord w), w ∈ NL := by decide +kernel
theorem vx145b : ∀ w ∈ (vx_at0 RX4 145 "java/lang/IllegalStateException" ["java/lang/RuntimeException", "java/lang/Exception"]).filter (fun w => !goodWord w), w ∈ NL := by decide +kernel
theorem vx148b : ∀ w ∈ (vx_at0 RX4 148 "java/lang/IndexOutOfBoundsException" ["java/lang/RuntimeException", "java/lang/Exception"]).filter (fun w => !goodWord w), w ∈ NL := by decide +kernel
theorem vx142g : ∀ w ∈ Cond.classLink RX4 140 "java/lang/IllegalArgumentException" :: Cond.initialized "java/lang/IllegalArgumentException" :: vx_at0 RX4 142 "java/lang/IllegalArgumentException" ["java/lang/RuntimeException", "java/lang/Exception"], vx_ot w = true := by decide +kernel
theorem vx145g : ∀ w ∈ Cond.classLink RX4 143 "java/lang/IllegalStateException" :: Cond.initialized "java/lang/IllegalStateException" :: vx_at0 RX4 145 "java/lang/IllegalStateException" ["java/lang/RuntimeException", "java/lang/Exception"], vx_ot w = true := by decide +kernel
theorem vx148g : ∀ w ∈ Cond.classLink RX4 146 "java/lang/IndexOutOfBoundsException" :: Cond.initialized "java/lang/IndexOutOfBoundsException" :: vx_at0 RX4 148 "java/lang/IndexOutOfBoundsException" ["java/lang/RuntimeException", "java/lang/Exception"], vx_ot w = true := by decide +kernel
theorem vx_all {args : Array Value} {s : State} {L : List Cond} (h1 : ∀ w ∈ L.filter goodWord, w ∈ lw_tbl) (h2 : ∀ w ∈ L.filter (fun w => !goodWord w), w ∈ NL) (hW : ∀ w ∈ WW, w.before args s = true) (hN : ∀ w ∈ NL, va_Nw w s) : ∀ w ∈ L, w.before args s = true :=
  vx_hat (fun w h => hW w (List.mem_filter.mpr ⟨h1 w h, (List.mem_filter.mp h).2⟩)) h2 (fun w h => va_Nw.use (nest_on (NL_nest w h)) (hN w h))
/-- the two statics that a new Throwable reads lie outside the world -/
def yyZ (A : Nat → Prop) (U : State) (H : Heap) : Prop := vx_Zq Bundle.tN "UNASSIGNED_STACK" Bundle.steD A U H ∧ vx_Zq Bundle.tN "SUPPRESSED_SENTINEL" Bundle.listD A U H
def yyPreT (d : yyD) (av : List Value) (w0 : va_W) (sz : Nat) : Array Value → State → Prop := va_Pc av (fun U => U.heap.size = sz ∧ va_P d.1 vwCl w0 U.heap ∧ yyK d U ∧ va_D (fun _ => True) w0 ∧ yyZ (va_A w0 sz) U U.heap)
theorem yyPreT.blind (d : yyD) (av : List Value) (w0 : va_W) (sz : Nat) : FrameBlind (yyPreT d av w0 sz) := by
  intro a U g mk q
  obtain ⟨q0, q1, qP, qK, qD, qZ⟩ := q
  exact ⟨q0, q1, qP, qK.same rfl, qD, vx_Zq.moved (U := U.calling g mk a) (Vm.Alike.refl U.vm) qZ.1, vx_Zq.moved (U := U.calling g mk a) (Vm.Alike.refl U.vm) qZ.2⟩
/-- thrown: an E, the world as it was -/
def yyXC (d : yyD) (A : Nat → Prop) (w0 : va_W) (E : String) : String → State → State → Prop := vx_X (fun _ : Unit => True) (fun E' _ t => E' = E ∧ yyB d A w0 t) A
def yyTV (l : Launch) (y : MethodName) (cc : ByteArray) (mL : Nat) (rm : Room) (d : yyD) (av : List Value) (w0 : va_W) (E : String) : Prop :=
  ∀ sz : Nat, vx_Met l y (Cond.code y cc mL none :: WW) rm (yyPreT d av w0 sz) (va_Qv (fun _ : Unit => False) (fun _ _ => True) (va_A w0 sz)) (yyXC d (va_A w0 sz) w0 E) rm.cells rm.slots (va_A w0 sz)
def yyTI (l : Launch) (y : MethodName) (cc : ByteArray) (mL : Nat) (ret : Option FieldType) (rm : Room) (d : yyD) (av : List Value) (w0 : va_W) (E : String) : Prop :=
  ∀ sz : Nat, vx_Met l y (Cond.code y cc mL ret :: WW) rm (yyPreT d av w0 sz) (va_Qi (fun _ (_ : Unit) => False) (fun _ _ => True) (va_A w0 sz)) (yyXC d (va_A w0 sz) w0 E) rm.cells rm.slots (va_A w0 sz)
def yyQTV (d : yyD) (G : yyG) (R : Room) (w0 : va_W) (E : String) : State → Prop := vx_MQ (gB G) (va_Qv (fun _ : Unit => False) (fun _ _ => True) (gA G)) (yyXC d (gA G) w0 E) (gV G) (gS G) R.cells R.slots (gA G)
def yyQTI (d : yyD) (G : yyG) (R : Room) (w0 : va_W) (E : String) : State → Prop := vx_MQ (gB G) (va_Qi (fun _ (_ : Unit) => False) (fun _ _ => True) (gA G)) (yyXC d (gA G) w0 E) (gV G) (gS G) R.cells R.slots (gA G)
def yyNX (G : yyG) : Prop := ∀ x ∈ (gC G).exceptionTable.toList, False
section YT
variable {l : Launch} {y : MethodName} {cc : ByteArray} {mL : Nat} {ret : Option FieldType} {rm : Room} {d : yyD} {av : List Value} {w0 : va_W} {own : String}
theorem yyTV_of {E : String} (lv0 : List (Nat × Value)) (hy : plainName y.cls = true) (ho : y.cls = own) (hl : (lg_sl av).length ≤ mL) (hlv : lv_args 0 av = lv0)
    (body : ∀ (G : yyG) (Q : State → Prop), Q = yyQTV d G rm w0 E → gL G = l → yyC d G cc own rm mL none → yyZ (gA G) (gS G) (gS G).heap → yyNX G → yyW d G 0 0 Q w0 lv0 0 []) : yyTV l y cc mL rm d av w0 E := by
  intro sz
  refine vx_ofW (cc := cc) (maxL := mL) (ret := none) hy rfl ?_
  intro p e s m args below meth c s₁ B hml hex hv
  obtain ⟨rfl, hsz, hP, hK, hD0, hZ⟩ := hv
  subst hsz
  have hts := atoms_spec (ws := Cond.code y cc mL none :: WW) B.pre
  have hown : s.vm.findClass own = some m.cls := ho ▸ findClass_of_methodNamed B.named
  rw [lg_entry_eq]
  exact body (p, l, e, rm, s, m, av.toArray, below, meth, c, va_A w0 s.heap.size, mL) _ rfl rfl ⟨B.exec, B.bytes, hml, hown, fun w h => hts w (List.mem_cons_of_mem _ h), hK, B.notSynchronized, fun q h => Or.inr h, rfl, rfl, B.returns⟩ hZ hex s.heap [] _ hP hD0.self va_S.rf (hlv ▸ lv_entry av hl)
theorem yyTI_of {E : String} (lv0 : List (Nat × Value)) (hy : plainName y.cls = true) (ho : y.cls = own) (hl : (lg_sl av).length ≤ mL) (hlv : lv_args 0 av = lv0)
    (body : ∀ (G : yyG) (Q : State → Prop), Q = yyQTI d G rm w0 E → gL G = l → yyC d G cc own rm mL ret → yyZ (gA G) (gS G) (gS G).heap → yyNX G → yyW d G 0 0 Q w0 lv0 0 []) : yyTI l y cc mL ret rm d av w0 E := by
  intro sz
  refine vx_ofW (cc := cc) (maxL := mL) (ret := ret) hy rfl ?_
  intro p e s m args below meth c s₁ B hml hex hv
  obtain ⟨rfl, hsz, hP, hK, hD0, hZ⟩ := hv
  subst hsz
  have hts := atoms_spec (ws := Cond.code y cc mL ret :: WW) B.pre
  have hown : s.vm.findClass own = some m.cls := ho ▸ findClass_of_methodNamed B.named
  rw [lg_entry_eq]
  exact body (p, l, e, rm, s, m, av.toArray, below, meth, c, va_A w0 s.heap.size, mL) _ rfl rfl ⟨B.exec, B.bytes, hml, hown, fun w h => hts w (List.mem_cons_of_mem _ h), hK, B.notSynchronized, fun q h => Or.inr h, rfl, rfl, B.returns⟩ hZ hex s.heap [] _ hP hD0.self va_S.rf (hlv ▸ lv_entry av hl)
end YT
section YU
variable {d : yyD} {G : yyG} {cc : ByteArray} {own : String} {R : Room} {nL : Nat} {ret : Option FieldType} {k n : Nat} {Q : State → Prop} {ws : va_W} {lv : List (Nat × Value)} {pc : Nat} {st st0 : List Value} {wc wr : va_W} {is rs : List Nat} {H : Heap} {locs : List Loc}
theorem yyZ.at (hZ : yyZ (gA G) (gS G) (gS G).heap) (hC : yyC d G cc own R nL ret) (hcut : yyCut ws wc wr is rs) (hD : va_D (gA G) ws) (hS : va_S (gA G) (gS G).heap H locs) {U : State} (hU : U.heap = H) (hW : (gS G).WarmedH U.vm) : yyZ (va_A wc H.size) U U.heap := by
  have hFc := va_free (wc := wc) hD hS hC.A is hcut.1
  rw [hU]
  exact ⟨vx_Zq.moved hW.alike ((hZ.1.kept hS.2.1).narrow hFc), vx_Zq.moved hW.alike ((hZ.2.kept hS.2.1).narrow hFc)⟩
/-- a new exception, thrown where no table covers it -/
theorem y_throw {E : String} {w0 : va_W} {names : List String} {ik ic : Nat} (hC : yyC d G cc own R nL none) (hl : (gL G).stackTraces = false) (hQ : Q = yyQTV d G R w0 E) (hZ : yyZ (gA G) (gS G) (gS G).heap) (hX : yyNX G) (hcls : Bundle.fit E = true) (hnames : ∀ n ∈ names, Bundle.fit n = true)
    (k1 : Cond.classLink own ik E ∈ WW) (k2 : Cond.initialized E ∈ WW) (h1 : ∀ w ∈ (vx_at0 own ic E names).filter goodWord, w ∈ lw_tbl) (h2 : ∀ w ∈ (vx_at0 own ic E names).filter (fun w => !goodWord w), w ∈ NL) (hg : ∀ w ∈ Cond.classLink own ik E :: Cond.initialized E :: vx_at0 own ic E names, vx_ot w = true)
    (hw : ws = w0) (d0 : decode cc pc = .ok (.new ik, 3)) (d3 : decode cc (pc + 3) = .ok (.dup, 1)) (d4 : decode cc (pc + 4) = .ok (.invokespecial ic, 3)) (d7 : decode cc (pc + 7) = .ok (.athrow, 1)) (hR : names.length + 3 < R.frames ∧ (st.map fun v => v.category).sum + (13 * (names.length + 1) + 42) ≤ R.locals ∧ k + 1 ≤ R.cells ∧ n + 6 ≤ R.slots) : yyW d G k n Q ws lv pc st := by
  intro H locs ls hP hD hS hls
  subst hw; subst hQ
  have hRR := hC.rm
  subst hRR
  refine vx_throw0 hC.1 hC.2.1 hl hC.2.2.2.1 hcls hnames (hC.w k1) (hC.w k2) (vx_all h1 h2 (fun w h => hC.w h) hC.kw.2.1) hg hZ.1 hZ.2 hS ((hls.1.trans hC.n).trans hC.2.2.1.symm) d0 d3 d4 d7 (fun x hx => absurd (hX x hx) id) hR.1 hR.2.1 hR.2.2.1 hR.2.2.2 hC.lk ?_ hS.2.2 hR.2.2.1 hR.2.2.2
  intro t hvm hsz hkeep
  refine ⟨(), trivial, ⟨rfl, hP.kept (fun k q hq => hkeep q.1 (hP k q hq).lt), hD⟩, Nat.le_trans hS.1 hsz, fun q hq hn => ?_⟩
  rw [hkeep q (Nat.lt_of_lt_of_le hq hS.1)]
  exact hS.2.1 q hq hn
/-- a static callee that throws, nothing here catching it -/
theorem yy_outT {E : String} {w0 : va_W} {mc ms : Nat} {pc' : Nat} {Qc : Array Value → State → Outcome → State → Prop} {rest : List Value} {ls : Array Slot} (hC : yyC d G cc own R nL ret) (hX : yyNX G) (hcut : yyCut ws wc wr is rs) {pm : List Nat} (hput : yyPut wr wc w0 pm) (hP : va_P d.1 vwCl ws H) (hD : va_D (gA G) ws) (hS : va_S (gA G) (gS G).heap H locs)
    (hc : k + mc ≤ R.cells) (hs : n + ms ≤ R.slots) {E' : String} {ce : Cell} {q9 : Addr} {t : State} {H1 : Heap} {locs1 : List Loc} (ht : t.heap = H1) (hB : E' = E ∧ yyB d (va_A wc H.size) wc t) (hk1 : ∀ q : Nat, q < H.size → ¬ va_A wc H.size q → H1[q]? = H[q]?) (hS1 : va_S (gA G) (gS G).heap H1 locs1) (hce : H1[q9]? = some ce) (hv : ce.vm = .none) (hcl : (gS G).vm.findClass E' = some ce.cls) :
    vx_W (gP G) (gL G) (gE G) (gR G) (gS G) (gM G) (gV G) (gB G) (gT G) (gC G) H1 locs1 (k + mc) (n + ms) (vx_MQ (gB G) Qc (yyXC d (gA G) w0 E) (gV G) (gS G) R.cells R.slots (gA G)) (F0 (gM G) pc' ls rest) q9 := by
  have hFc := va_free (wc := wc) hD hS hC.A is hcut.1
  obtain ⟨e1, hP1, hD1⟩ := hB
  subst e1
  rw [ht] at hP1
  obtain ⟨hP2, hD2⟩ := va_join (wr := wr) (w1 := wc) hP hD is rs hcut.1 hcut.2.2.1 hcut.2.2.2.1 hcut.2.2.2.2 hk1 hFc hP1 hD1
  refine vx_out (fun x hx => absurd (hX x hx) id) hC.lk hce hv hcl (fun u hu hal => ?_) hS1.2.2 hc hs
  exact ⟨(), trivial, ⟨rfl, by rw [hu]; exact hP2.sub pm (fm_of hput.1), hD2.sub pm hput.2 hput.1⟩, by rw [hu]; exact hS1.1, fun q hq hn => by rw [hu]; exact hS1.2.1 q hq hn⟩
variable {y : MethodName} {cy : ByteArray} {mL : Nat} {rt : Option FieldType} {rm : Room} {b : Nat} {As : List Value} {i : Nat} {C host : String} {E : String} {w0 : va_W}
/-- in a method that answers an int: a static void callee throws -/
theorem y_sTV (hC : yyC d G cc own R nL ret) (hQ : Q = yyQTI d G R w0 E) (hZ : yyZ (gA G) (gS G) (gS G).heap) (hX : yyNX G) (hM : yyTV (gL G) y cy mL rm d As wc E) (kc : Cond.code y cy mL none ∈ WW) (kl : Cond.methodLink own i y ∈ WW) (ki : Cond.static y ∈ WW) (kn : Cond.initialized y.cls ∈ WW)
    (hy : yyN y C As.length) (hR : yyR rm R mL k n st) (is rs pm : List Nat) (wr : va_W) (hcut : yyCut ws wc wr is rs) (hput : yyPut wr wc w0 pm) (hs0 : st0 = As.reverse ++ st)
    (hdg : decode cc pc = .ok (.invokestatic i, 3)) : yyW d G k n Q ws lv pc st0 := by
  intro H locs ls hP hD hS hls
  subst hs0; subst hQ
  have hRR := hC.rm
  subst hRR
  have hFc := va_free (wc := wc) hD hS hC.A is hcut.1
  refine vx_callv (vx_runS (As := As) (rest := st) ⟨hC.1, hC.2.1, hC.2.2.1, hC.2.2.2.1, hC.2.2.2.2.1⟩ (hM H.size) (va_cwS As.length hC.2.2.2.2.1 (gwS kl ki kn (gww kc)) rfl rfl rfl hy.2 hR.1) ⟨yyPreT.blind _ _ _ _, fun U hU hW => ⟨rfl, by rw [hU], by rw [hU]; exact hP.sub is (fm_of hcut.1), hC.kw.warm hW, (hD.sub is hcut.2.1 hcut.1).weaken (fun _ _ _ _ => trivial), hZ.at hC hcut hD hS hU hW⟩⟩ rfl rfl (hls.1.trans hC.n) rfl (lv_room hR.2.2) hdg hR.2.1) hS (fun q _ h => hFc q h) hFc (fun q _ h => hFc q h) ?_ (fun u t H1 locs1 _ _ hf => hf.elim)
  intro E' ce q9 u t H1 locs1 ht hvm _ hB hz1 hk1 hS1 hce hv hcl
  exact yy_outT hC hX hcut hput hP hD hS hR.2.1.1 hR.2.1.2 ht hB hk1 hS1 hce hv hcl
end YU
-- the four that refuse
set_option maxRecDepth 100000 in
theorem vxnm : ∀ n ∈ ["java/lang/RuntimeException", "java/lang/Exception"], Bundle.fit n = true := by decide +kernel
