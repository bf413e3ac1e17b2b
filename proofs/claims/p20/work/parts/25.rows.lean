-- rows for what refuses; contracts whose end leaves something open
section YV
variable {d : yyD} {G : yyG} {cc : ByteArray} {own : String} {R : Room} {nL : Nat} {ret : Option FieldType} {k n : Nat} {Q : State → Prop} {ws : va_W} {lv : List (Nat × Value)} {pc : Nat} {st st0 : List Value}
theorem y_if_lt_f (hC : yyC d G cc own R nL ret) {x : Int32} {off : Int} (hdg : decode cc pc = .ok (.ifCond .lt off, 3)) (tgt : Nat) (ht : (pc : Int) + off = (tgt : Int)) (h : ¬ x < 0) (kf : yyW d G k n Q ws lv (pc + 3) st) : yyW d G k n Q ws lv pc (.int x :: st) :=
  y_if_lt hC hdg tgt ht (fun c => absurd c h) (fun _ => kf)
theorem y_cmp_lt_t (hC : yyC d G cc own R nL ret) {x y : Int32} {off : Int} (hdg : decode cc pc = .ok (.if_icmp .lt off, 3)) (tgt : Nat) (ht : (pc : Int) + off = (tgt : Int)) (h : x < y) (kt : yyW d G k n Q ws lv tgt st) : yyW d G k n Q ws lv pc (.int y :: .int x :: st) :=
  y_cmp_lt hC hdg tgt ht (fun _ => kt) (fun c => absurd h c)
theorem y_if_lt_tt (hC : yyC d G cc own R nL ret) {x : Int32} {off : Int} (hdg : decode cc pc = .ok (.ifCond .lt off, 3)) (tgt : Nat) (ht : (pc : Int) + off = (tgt : Int)) (h : x < 0) (kt : yyW d G k n Q ws lv tgt st) : yyW d G k n Q ws lv pc (.int x :: st) :=
  y_if_lt hC hdg tgt ht (fun _ => kt) (fun c => absurd h c)
theorem y_cmp_lt_f (hC : yyC d G cc own R nL ret) {x y : Int32} {off : Int} (hdg : decode cc pc = .ok (.if_icmp .lt off, 3)) (tgt : Nat) (ht : (pc : Int) + off = (tgt : Int)) (h : ¬ x < y) (kf : yyW d G k n Q ws lv (pc + 3) st) : yyW d G k n Q ws lv pc (.int y :: .int x :: st) :=
  y_cmp_lt hC hdg tgt ht (fun c => absurd c h) (fun _ => kf)
theorem y_bne_t (hC : yyC d G cc own R nL ret) {off : Int} (hdg : decode cc pc = .ok (.ifCond .ne off, 3)) (tgt : Nat) (ht : (pc : Int) + off = (tgt : Int)) (kt : yyW d G k n Q ws lv tgt st) : yyW d G k n Q ws lv pc (.int (bI true) :: st) :=
  y_if_ne hC hdg tgt ht (fun _ => kt) (fun c => absurd c (by decide))
theorem y_bne_f (hC : yyC d G cc own R nL ret) {off : Int} (hdg : decode cc pc = .ok (.ifCond .ne off, 3)) (tgt : Nat) (ht : (pc : Int) + off = (tgt : Int)) (kf : yyW d G k n Q ws lv (pc + 3) st) : yyW d G k n Q ws lv pc (.int (bI false) :: st) :=
  y_if_ne hC hdg tgt ht (fun c => absurd rfl c) (fun _ => kf)
end YV
/-- an int is answered, and the cells behind are one of many pictures -/
def yyIE {S : Type} (l : Launch) (y : MethodName) (cc : ByteArray) (mL : Nat) (ret : Option FieldType) (rm : Room) (d : yyD) (av : List Value) (w0 : va_W) (w1 : S → va_W) (rv : Int32) : Prop :=
  ∀ sz : Nat, Met l y (Cond.code y cc mL ret :: WW) rm (yyPre d av w0 sz) (va_Qi (fun r (_ : S) => r = rv) (fun u => yyB d (va_A w0 sz) (w1 u)) (va_A w0 sz)) rm.cells rm.slots (va_A w0 sz)
def yyQIE {S : Type} (d : yyD) (G : yyG) (R : Room) (w1 : S → va_W) (rv : Int32) : State → Prop := MQ (gB G) (va_Qi (fun r (_ : S) => r = rv) (fun u => yyB d (gA G) (w1 u)) (gA G)) (gV G) (gS G) R.cells R.slots (gA G)
theorem yyIE_of {S : Type} {l : Launch} {y : MethodName} {cc : ByteArray} {mL : Nat} {ret : Option FieldType} {rm : Room} {d : yyD} {av : List Value} {w0 : va_W} {own : String} {w1 : S → va_W} {rv : Int32} (lv0 : List (Nat × Value)) (hy : plainFor y = true) (ho : y.cls = own) (hl : (lg_sl av).length ≤ mL) (hlv : lv_args 0 av = lv0)
    (body : ∀ (G : yyG) (Q : State → Prop), Q = yyQIE d G rm w1 rv → gL G = l → yyC d G cc own rm mL ret → (gA G = va_A w0 (gS G).heap.size) → yyW d G 0 0 Q w0 lv0 0 []) : yyIE l y cc mL ret rm d av w0 w1 rv := by
  intro sz
  refine yy_ofWF (cc := cc) (maxL := mL) (ret := ret) hy rfl ?_
  intro p e s m args below meth c s₁ B hml hv
  obtain ⟨rfl, hsz, hP, hK, hD0⟩ := hv
  subst hsz
  have hts := atoms_spec (ws := Cond.code y cc mL ret :: WW) B.pre
  have hown : s.vm.findClass own = some m.cls := ho ▸ findClass_of_methodNamed B.named
  rw [lg_entry_eq]
  exact body (p, l, e, rm, s, m, av.toArray, below, meth, c, va_A w0 s.heap.size, mL) _ rfl rfl ⟨B.exec, B.bytes, hml, hown, fun w h => hts w (List.mem_cons_of_mem _ h), hK, B.notSynchronized, fun q h => Or.inr h, rfl, rfl, B.returns⟩ rfl s.heap [] _ hP hD0.self va_S.rf (hlv ▸ lv_entry av hl)
section YW
variable {d : yyD} {G : yyG} {cc : ByteArray} {own : String} {R : Room} {nL : Nat} {ret : Option FieldType} {k n : Nat} {Q : State → Prop} {ws : va_W} {lv : List (Nat × Value)} {pc : Nat} {st st0 : List Value} {wc wr : va_W} {is rs : List Nat}
variable {y : MethodName} {cy : ByteArray} {mL : Nat} {rt : Option FieldType} {rm : Room} {b : Nat} {As : List Value} {i : Nat} {C host : String}
theorem y_cIE {S : Type} {w1 : S → va_W} {rv : Int32} (hC : yyC d G cc own R nL ret) (hM : yyIE (gL G) y cy mL rt rm d (.ref b :: As) wc w1 rv) (kc : Cond.code y cy mL rt ∈ WW) (kl : Cond.methodLink own i y ∈ WW) (ki : Cond.instanceMethod y ∈ WW) (ks : Cond.selects C y y ∈ WW) (kn : Cond.initialized C ∈ WW)
    (hy : yyN y C As.length) (hR : yyR rm R mL k n st) (is rs pm : List Nat) (q0 : Nat) {ci N : Nat} {fs : List Value} {T : u_T} (wr : va_W) (ws' : S → va_W) (hq : wc[q0]? = some (b, .inr (ci, fs))) (hc : vwCl[ci]? = some (C, T, N)) (hcut : yyCut ws wc wr is rs) (hput : ∀ u, yyPut wr (w1 u) (ws' u) pm) (hs0 : st0 = As.reverse ++ .ref b :: st)
    (hdg : decode cc pc = .ok (.invokevirtual i, 3)) (kk : ∀ u, yyW d G (k + rm.cells) (n + rm.slots) Q (ws' u) lv (pc + 3) (.int rv :: st)) : yyW d G k n Q ws lv pc st0 := by
  intro H locs ls hP hD hS hl
  subst hs0
  have hRR := hC.rm
  subst hRR
  have hFc := va_free (wc := wc) hD hS hC.A is hcut.1
  refine va_calli (va_runV (As := As) (rest := st) ⟨hC.1, hC.2.1, hC.2.2.1, hC.2.2.2.1, hC.2.2.2.2.1⟩ (hM H.size) (cwV As.length hC.2.2.2.2.1 (gwV kl ki ks kn (gww kc)) rfl rfl rfl hy hR.1) (yy_preV hC hcut hP hD As q0 hq hc) rfl rfl (hl.1.trans hC.n) rfl (lv_room hR.2.2) hdg hR.2.1) hS (fun q _ h => hFc q h) hFc (fun r u t H1 locs1 ht hvm hw hB hz1 hk1 hS1 => ?_)
  obtain ⟨hP1, hD1⟩ := hB
  rw [ht] at hP1
  obtain ⟨hP2, hD2⟩ := va_join (wr := wr) (w1 := w1 u) hP hD is rs hcut.1 hcut.2.2.1 hcut.2.2.2.1 hcut.2.2.2.2 hk1 hFc hP1 hD1
  have hw' : r = rv := hw
  rw [hw']
  exact kk u H1 locs1 ls (hP2.sub pm (fm_of (hput u).1)) (hD2.sub pm (hput u).2 (hput u).1) hS1 hl
theorem y_iretE {S : Type} {ty : FieldType} {w1 : S → va_W} {rv v : Int32} (u : S) (hC : yyC d G cc own R nL (some ty)) (hQ : Q = yyQIE d G R w1 rv) (hty : narrow ty (.int v) = .int v) (hw : ws = w1 u) (hv : v = rv) (hk : k ≤ R.cells) (hn : n ≤ R.slots) (hdg : decode cc pc = .ok (.ireturn, 1)) : yyW d G k n Q ws lv pc [.int v] := by
  subst hw; subst hv; subst hQ
  intro H locs ls hP hD hS h
  refine W.widen hk hn ?_
  exact W.zret hC.1 hC.2.1 hC.r hty (fun t ht hW => ⟨⟨v, u, rfl, rfl, by rw [ht]; exact hP, hD⟩, hS.F ht⟩) hS.2.2 hdg hC.lk
end YW
section YY2
variable {d : yyD} {G : yyG} {cc : ByteArray} {own : String} {R : Room} {nL : Nat} {ret : Option FieldType} {k n : Nat} {Q : State → Prop} {ws : va_W} {lv : List (Nat × Value)} {pc : Nat} {st st0 : List Value} {wc : va_W}
variable {y : MethodName} {cy : ByteArray} {mL : Nat} {rm : Room} {As : List Value} {i : Nat} {C : String}
theorem y_sV {S : Type} {P : S → Prop} {w1 : S → va_W} (hC : yyC d G cc own R nL ret) (hM : yyV (gL G) y cy mL rm d As wc P w1) (kc : Cond.code y cy mL none ∈ WW) (kl : Cond.methodLink own i y ∈ WW) (ki : Cond.static y ∈ WW) (kn : Cond.initialized y.cls ∈ WW)
    (hy : yyN y C As.length) (hR : yyR rm R mL k n st) (is rs pm : List Nat) (wr : va_W) (ws' : S → va_W) (hcut : yyCut ws wc wr is rs) (hput : ∀ u, yyPut wr (w1 u) (ws' u) pm) (hs0 : st0 = As.reverse ++ st)
    (hdg : decode cc pc = .ok (.invokestatic i, 3)) (kk : ∀ u, P u → yyW d G (k + rm.cells) (n + rm.slots) Q (ws' u) lv (pc + 3) st) : yyW d G k n Q ws lv pc st0 := by
  intro H locs ls hP hD hS hl
  subst hs0
  have hRR := hC.rm
  subst hRR
  refine yy_afterV hC hP hD hS hl hcut hput (va_runS (As := As) (rest := st) ⟨hC.1, hC.2.1, hC.2.2.1, hC.2.2.2.1, hC.2.2.2.2.1⟩ (hM H.size) (va_cwS As.length hC.2.2.2.2.1 (gwS kl ki kn (gww kc)) rfl rfl rfl hy.2 hR.1) (yy_pre hC hcut hP hD As) rfl rfl (hl.1.trans hC.n) rfl (lv_room hR.2.2) hdg hR.2.1) kk
end YY2
