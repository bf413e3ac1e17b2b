section
-- ===== PART A: goes FIRST, ahead of the names: the tables' words, and 'selects' of the private methods out of them =====
/-- a private method of a class that the tables say can be made, by its rows of tables_1 -/
def lw_okq (q : MethodName × Nat) : Prop := (q.1.cls ≠ "java/lang/invoke/MethodHandle" ∧ q.1.cls ≠ "java/lang/invoke/VarHandle") ∧ Cond.instantiable q.1.cls q.2 ∈ tables_1 ∧ Cond.privateMethod q.1 ∈ tables_1 ∧ Cond.instanceMethod q.1 ∈ tables_1
theorem lw_p0 : lw_okq (⟨"HailLeague$Vineyards", "sum", "([I)I"⟩, 8) := ⟨⟨by decide +kernel, by decide +kernel⟩, List.mem_of_getElem? (i := 31) (by decide +kernel), List.mem_of_getElem? (i := 152) (by decide +kernel), List.mem_of_getElem? (i := 153) (by decide +kernel)⟩
theorem lw_p1 : lw_okq (⟨"HailLeague$Vineyards", "howManyAre", "([Z)I"⟩, 8) := ⟨⟨by decide +kernel, by decide +kernel⟩, List.mem_of_getElem? (i := 31) (by decide +kernel), List.mem_of_getElem? (i := 179) (by decide +kernel), List.mem_of_getElem? (i := 180) (by decide +kernel)⟩
theorem lw_p2 : lw_okq (⟨"HailLeague", "digestOfVineyards", "(J)J"⟩, 2) := ⟨⟨by decide +kernel, by decide +kernel⟩, List.mem_of_getElem? (i := 17) (by decide +kernel), List.mem_of_getElem? (i := 195) (by decide +kernel), List.mem_of_getElem? (i := 196) (by decide +kernel)⟩
theorem lw_p3 : lw_okq (⟨"HailLeague", "digestOfCannons", "(J)J"⟩, 2) := ⟨⟨by decide +kernel, by decide +kernel⟩, List.mem_of_getElem? (i := 17) (by decide +kernel), List.mem_of_getElem? (i := 203) (by decide +kernel), List.mem_of_getElem? (i := 204) (by decide +kernel)⟩
theorem lw_p4 : lw_okq (⟨"HailLeague$Cannons", "target", "(ILHailLeague$Clouds;)I"⟩, 5) := ⟨⟨by decide +kernel, by decide +kernel⟩, List.mem_of_getElem? (i := 66) (by decide +kernel), List.mem_of_getElem? (i := 211) (by decide +kernel), List.mem_of_getElem? (i := 212) (by decide +kernel)⟩
theorem lw_p5 : lw_okq (⟨"HailLeague", "digestOfClouds", "(J)J"⟩, 2) := ⟨⟨by decide +kernel, by decide +kernel⟩, List.mem_of_getElem? (i := 17) (by decide +kernel), List.mem_of_getElem? (i := 222) (by decide +kernel), List.mem_of_getElem? (i := 223) (by decide +kernel)⟩
theorem lw_p6 : lw_okq (⟨"java/lang/Throwable", "fillInStackTrace", "(I)Ljava/lang/Throwable;"⟩, 6) := ⟨⟨by decide +kernel, by decide +kernel⟩, List.mem_of_getElem? (i := 283) (by decide +kernel), List.mem_of_getElem? (i := 281) (by decide +kernel), List.mem_of_getElem? (i := 282) (by decide +kernel)⟩
theorem lw_p7 : lw_okq (⟨"HailLeague", "lostWith", "(III)I"⟩, 2) := ⟨⟨by decide +kernel, by decide +kernel⟩, List.mem_of_getElem? (i := 17) (by decide +kernel), List.mem_of_getElem? (i := 536) (by decide +kernel), List.mem_of_getElem? (i := 537) (by decide +kernel)⟩
theorem lw_p8 : lw_okq (⟨"HailLeagueModel", "no", "(I)I"⟩, 12) := ⟨⟨by decide +kernel, by decide +kernel⟩, List.mem_of_getElem? (i := 547) (by decide +kernel), List.mem_of_getElem? (i := 666) (by decide +kernel), List.mem_of_getElem? (i := 667) (by decide +kernel)⟩
theorem lw_p9 : lw_okq (⟨"HailLeagueModel", "isYard", "(I)Z"⟩, 12) := ⟨⟨by decide +kernel, by decide +kernel⟩, List.mem_of_getElem? (i := 547) (by decide +kernel), List.mem_of_getElem? (i := 674) (by decide +kernel), List.mem_of_getElem? (i := 675) (by decide +kernel)⟩
theorem lw_p10 : lw_okq (⟨"HailLeagueModel", "isCannon", "(I)Z"⟩, 12) := ⟨⟨by decide +kernel, by decide +kernel⟩, List.mem_of_getElem? (i := 547) (by decide +kernel), List.mem_of_getElem? (i := 686) (by decide +kernel), List.mem_of_getElem? (i := 687) (by decide +kernel)⟩
theorem lw_p11 : lw_okq (⟨"HailLeagueModel", "yardTold", "(II)I"⟩, 12) := ⟨⟨by decide +kernel, by decide +kernel⟩, List.mem_of_getElem? (i := 547) (by decide +kernel), List.mem_of_getElem? (i := 703) (by decide +kernel), List.mem_of_getElem? (i := 704) (by decide +kernel)⟩
theorem lw_p12 : lw_okq (⟨"HailLeagueModel", "cannonTold", "(II)I"⟩, 12) := ⟨⟨by decide +kernel, by decide +kernel⟩, List.mem_of_getElem? (i := 547) (by decide +kernel), List.mem_of_getElem? (i := 711) (by decide +kernel), List.mem_of_getElem? (i := 712) (by decide +kernel)⟩
theorem lw_p13 : lw_okq (⟨"HailLeagueModel", "cloudTold", "(II)I"⟩, 12) := ⟨⟨by decide +kernel, by decide +kernel⟩, List.mem_of_getElem? (i := 547) (by decide +kernel), List.mem_of_getElem? (i := 733) (by decide +kernel), List.mem_of_getElem? (i := 734) (by decide +kernel)⟩
theorem lw_p14 : lw_okq (⟨"HailLeagueModel$State", "sum", "([II)I"⟩, 12) := ⟨⟨by decide +kernel, by decide +kernel⟩, List.mem_of_getElem? (i := 553) (by decide +kernel), List.mem_of_getElem? (i := 746) (by decide +kernel), List.mem_of_getElem? (i := 747) (by decide +kernel)⟩
theorem lw_p15 : lw_okq (⟨"HailLeagueModel$State", "shoot", "(I)V"⟩, 12) := ⟨⟨by decide +kernel, by decide +kernel⟩, List.mem_of_getElem? (i := 553) (by decide +kernel), List.mem_of_getElem? (i := 767) (by decide +kernel), List.mem_of_getElem? (i := 768) (by decide +kernel)⟩
def lw_privs_1 : List (MethodName × Nat) := [(⟨"HailLeague$Vineyards", "sum", "([I)I"⟩, 8), (⟨"HailLeague$Vineyards", "howManyAre", "([Z)I"⟩, 8), (⟨"HailLeague", "digestOfVineyards", "(J)J"⟩, 2), (⟨"HailLeague", "digestOfCannons", "(J)J"⟩, 2), (⟨"HailLeague$Cannons", "target", "(ILHailLeague$Clouds;)I"⟩, 5), (⟨"HailLeague", "digestOfClouds", "(J)J"⟩, 2), (⟨"java/lang/Throwable", "fillInStackTrace", "(I)Ljava/lang/Throwable;"⟩, 6), (⟨"HailLeague", "lostWith", "(III)I"⟩, 2), (⟨"HailLeagueModel", "no", "(I)I"⟩, 12), (⟨"HailLeagueModel", "isYard", "(I)Z"⟩, 12), (⟨"HailLeagueModel", "isCannon", "(I)Z"⟩, 12), (⟨"HailLeagueModel", "yardTold", "(II)I"⟩, 12), (⟨"HailLeagueModel", "cannonTold", "(II)I"⟩, 12), (⟨"HailLeagueModel", "cloudTold", "(II)I"⟩, 12), (⟨"HailLeagueModel$State", "sum", "([II)I"⟩, 12), (⟨"HailLeagueModel$State", "shoot", "(I)V"⟩, 12)]
theorem lw_r1 : ∀ q ∈ lw_privs_1, lw_okq q := List.forall_mem_cons.mpr ⟨lw_p0, List.forall_mem_cons.mpr ⟨lw_p1, List.forall_mem_cons.mpr ⟨lw_p2, List.forall_mem_cons.mpr ⟨lw_p3, List.forall_mem_cons.mpr ⟨lw_p4, List.forall_mem_cons.mpr ⟨lw_p5, List.forall_mem_cons.mpr ⟨lw_p6, List.forall_mem_cons.mpr ⟨lw_p7, List.forall_mem_cons.mpr ⟨lw_p8, List.forall_mem_cons.mpr ⟨lw_p9, List.forall_mem_cons.mpr ⟨lw_p10, List.forall_mem_cons.mpr ⟨lw_p11, List.forall_mem_cons.mpr ⟨lw_p12, List.forall_mem_cons.mpr ⟨lw_p13, List.forall_mem_cons.mpr ⟨lw_p14, List.forall_mem_cons.mpr ⟨lw_p15, fun _ h => absurd h List.not_mem_nil⟩⟩⟩⟩⟩⟩⟩⟩⟩⟩⟩⟩⟩⟩⟩⟩
theorem lw_p16 : lw_okq (⟨"HailLeagueModel$State", "drop", "(I)V"⟩, 12) := ⟨⟨by decide +kernel, by decide +kernel⟩, List.mem_of_getElem? (i := 553) (by decide +kernel), List.mem_of_getElem? (i := 773) (by decide +kernel), List.mem_of_getElem? (i := 774) (by decide +kernel)⟩
theorem lw_p17 : lw_okq (⟨"HailLeagueModel$State", "settle", "(I)V"⟩, 12) := ⟨⟨by decide +kernel, by decide +kernel⟩, List.mem_of_getElem? (i := 553) (by decide +kernel), List.mem_of_getElem? (i := 778) (by decide +kernel), List.mem_of_getElem? (i := 779) (by decide +kernel)⟩
theorem lw_p18 : lw_okq (⟨"HailLeagueModel$State", "copy", "([I[I)V"⟩, 12) := ⟨⟨by decide +kernel, by decide +kernel⟩, List.mem_of_getElem? (i := 553) (by decide +kernel), List.mem_of_getElem? (i := 791) (by decide +kernel), List.mem_of_getElem? (i := 792) (by decide +kernel)⟩
theorem lw_p19 : lw_okq (⟨"HailLeagueModel", "lostWith", "(III)I"⟩, 12) := ⟨⟨by decide +kernel, by decide +kernel⟩, List.mem_of_getElem? (i := 547) (by decide +kernel), List.mem_of_getElem? (i := 805) (by decide +kernel), List.mem_of_getElem? (i := 806) (by decide +kernel)⟩
def lw_privs_2 : List (MethodName × Nat) := [(⟨"HailLeagueModel$State", "drop", "(I)V"⟩, 12), (⟨"HailLeagueModel$State", "settle", "(I)V"⟩, 12), (⟨"HailLeagueModel$State", "copy", "([I[I)V"⟩, 12), (⟨"HailLeagueModel", "lostWith", "(III)I"⟩, 12)]
theorem lw_r2 : ∀ q ∈ lw_privs_2, lw_okq q := List.forall_mem_cons.mpr ⟨lw_p16, List.forall_mem_cons.mpr ⟨lw_p17, List.forall_mem_cons.mpr ⟨lw_p18, List.forall_mem_cons.mpr ⟨lw_p19, fun _ h => absurd h List.not_mem_nil⟩⟩⟩⟩
def lw_privs : List (MethodName × Nat) := lw_privs_1 ++ (lw_privs_2)
def lw_tbl : List Cond := k2_sels lw_privs ++ tables_1
theorem lw_privs_ok : ∀ q ∈ lw_privs, lw_okq q := by
  show ∀ q ∈ lw_privs_1 ++ (lw_privs_2), lw_okq q
  exact List.forall_mem_append.mpr ⟨lw_r1, lw_r2⟩
/-- the streams that the claim lets the run draw from -/
abbrev lw_cs : List Choice := [Jvm.Choice.named "NaN.bits"]
theorem lw_bits : nanBits ∈ lw_cs := by first | decide | exact List.mem_cons_self | simp [lw_cs, nanBits]
/-! ===== BEGIN words of one list among another's, by their places ===== -/
theorem goodIn_r {big : List Cond} (ws : List Cond) (ps : List Nat) (hp : ws = ps.filterMap (fun i => big[i]?)) (h : ws.all goodWord = true) : GoodIn big ws := by
  intro w hw
  have h1 := List.all_eq_true.mp h w hw
  rw [hp] at hw
  obtain ⟨i, -, hi⟩ := List.mem_filterMap.mp hw
  have hm : w ∈ big := by first | exact List.mem_of_getElem? hi | exact List.getElem?_mem hi
  exact ⟨hm, good_of_word h1⟩
theorem goodIn_app {big a b : List Cond} (ha : GoodIn big a) (hb : GoodIn big b) : GoodIn big (a ++ b) := fun w h => (List.mem_append.mp h).elim (ha w) (hb w)
theorem goodIn_ca {big a b : List Cond} {c : Cond} (ha : GoodIn big (c :: a)) (hb : GoodIn big b) : GoodIn big (c :: (a ++ b)) := fun w h => (List.mem_cons.mp h).elim (fun e => ha w (List.mem_cons.mpr (Or.inl e))) (fun h => (List.mem_append.mp h).elim (fun h => ha w (List.mem_cons.mpr (Or.inr h))) (hb w))
theorem goodIn_sub {big ws : List Cond} (hm : ∀ w ∈ ws, w ∈ big) (h : ws.all goodWord = true) : GoodIn big ws := fun w hw => ⟨hm w hw, good_of_word (List.all_eq_true.mp h w hw)⟩
/-! ===== END ===== -/

/-! ===== BEGIN exceptions that leave a method, and their catching by the caller (launches without stack traces) ===== -/
section VXA
/-! The laws vx_back, vx_callV, vx_callS, vx_callSW, vx_throw0, vx_throwS follow proofs of the library, with one case more: JvmDerived/Free/Laws.lean (Back.of_free), Shelf42/LK1.lean (callV, callS), Shelf/KitTraced.lean (throwNew0V, throwNewS). -/
/-- where a method has thrown q: the class by its name, the cell, what was written, the world -/
def vx_T (XC : String → State → State → Prop) (st : State) (q : Addr) (t : State) (mc ms : Nat) (free : Addr → Prop) : Prop :=
  ∃ (E : String) (ce : Cell) (L : List Loc), XC E st t ∧ t.heap[q]? = some ce ∧ ce.vm = .none ∧ st.vm.findClass E = some ce.cls ∧ st.WarmedH t.vm ∧ st.sameButNew ({ t with vm := st.vm } : State) L mc ms ∧ ∀ z ∈ L, free z.base
def vx_Q (Qc : Array Value → State → Outcome → State → Prop) (XC : String → State → State → Prop) (mc ms : Nat) (free : Addr → Prop) : Array Value → State → Outcome → State → Prop := fun a st o t =>
  (Qc a st o t ∧ ∃ L, FrameEnd st o t L mc ms ∧ ∀ q ∈ L, free q.base) ∨ ∃ q, o = .threw q ∧ vx_T XC st q t mc ms free
/-- a callee that returns or throws -/
def vx_Met (l : Launch) (y : MethodName) (ws : List Cond) (rm : Room) (Pc : Array Value → State → Prop) (Qc : Array Value → State → Outcome → State → Prop) (XC : String → State → State → Prop) (mc ms : Nat) (free : Addr → Prop) : Prop :=
  MetFree l y (headSpec ws rm) Pc (fun _ _ _ _ _ => True) (vx_Q Qc XC mc ms free)
def vx_Post (XC : String → State → State → Prop) (mc ms : Nat) (free : Addr → Prop) : Pt → Array Value → Addr → Pt → Prop := fun A a q B =>
  ∃ (g : JFrame) (mk : MethodId) (t : State) (L : List Loc) (E : String) (ce : Cell), B.U.heap = t.heap ∧ B.U.vm = t.vm ∧ XC E (A.U.calling g mk a) t ∧ t.heap[q]? = some ce ∧ ce.vm = .none ∧ A.U.vm.findClass E = some ce.cls ∧ B.locs = A.locs ++ L ∧ (∀ z ∈ L, free z.base) ∧ B.cells = A.cells + mc ∧ B.slots = A.slots + ms
def vx_Back (l : Launch) (R : Room) (p : Program) (e : Env) (below : List Frame) (s : State) (sargs : Array Value) (y : MethodName) (len W9 : Nat)
    (Pre : Pt → Array Value → Prop) (Post : Pt → Array Value → Option Value → Pt → Prop) (PostX : Pt → Array Value → Addr → Pt → Prop) : Prop :=
  ∀ (m : MethodId) (meth : Method) (c : Code) (A : Pt) (g : JFrame) (ig : Instr) (mk : MethodId) (a : Array Value),
    Stand p l e R s m sargs below meth c A.U A.locs A.cells A.slots → g.method = m → g.locals.size = c.maxLocals → decode c.code g.pc = .ok (ig, len) →
    2 * g.monitorRoom + (g.stack.map fun v => v.category).sum ≤ W9 → A.U.methodNamed? y = some mk → Pre A a →
    (∃ (v : Option Value) (B : Pt), Stand p l e R s m sargs below meth c B.U B.locs B.cells B.slots ∧ Post A a v B ∧
      Steps p.tables e below (doInvoke e (A.U.setTop g) [] mk a).1 (B.U.setTop { g with pc := g.pc + len, stack := v.toList ++ g.stack })) ∨
    (∃ (q : Addr) (B : Pt), Stand p l e R s m sargs below meth c B.U B.locs B.cells B.slots ∧ PostX A a q B ∧
      Steps p.tables e below (doInvoke e (A.U.setTop g) [] mk a).1 ((B.U.setTop g).pushFrame (.throwing q)))
section Payer
variable {l : Launch} {R : Room} {p : Program} {e : Env} {below : List Frame} {s : State} {sargs : Array Value} {y : MethodName} {len W9 : Nat}
theorem vx_back {ws : List Cond} {rm : Room} {Pc : Array Value → State → Prop} {Qc : Array Value → State → Outcome → State → Prop} {XC : String → State → State → Prop} {mc ms : Nat} {free : Addr → Prop} {bytes : ByteArray} {maxL : Nat} {ret : Option FieldType}
    (hM : vx_Met l y ws rm Pc Qc XC mc ms free) (hblind : FrameBlind Pc) (hrc : rm.cells = mc) (hrs : rm.slots = ms)
    (hframes : rm.frames + 1 ≤ R.frames) (hlocals : W9 + (maxL + 11) + rm.locals ≤ R.locals)
    (hws : ∀ w ∈ ws, ∀ a' U, s.WarmedH U.vm → w.before a' U = true) (hcode : Cond.code y bytes maxL ret ∈ ws) (hinit : ∀ a' U, s.WarmedH U.vm → (Cond.initialized y.cls).before a' U = true) :
    vx_Back l R p e below s sargs y len W9 (PreOf R mc ms Pc) (PostOf Qc mc ms free) (vx_Post XC mc ms free) := by
  intro m meth c A g ig mk a X hg hsize hdg hW hn hp
  have h1 : (headSpec ws rm).pre.before a A.U = true := atoms_intro fun w hw => hws w hw _ _ X.warmed
  have h2 : (Cond.code y bytes maxL ret).before a A.U = true := hws _ hcode _ _ X.warmed
  have h3 : (Cond.initialized y.cls).before a A.U = true := hinit _ _ X.warmed
  have h4 : A.cells + (headSpec ws rm).room.cells ≤ R.cells := by rw [show (headSpec ws rm).room.cells = mc from hrc]; exact hp.1
  have h5 : A.slots + (headSpec ws rm).room.slots ≤ R.slots := by rw [show (headSpec ws rm).room.slots = ms from hrs]; exact hp.2.1
  have hPc : Pc a (A.U.calling g mk a) := hblind _ _ _ _ hp.2.2
  obtain ⟨U, Ls, c0, s0⟩ := A
  dsimp only [Pt.U, Pt.locs, Pt.cells, Pt.slots] at h1 h2 h3 h4 h5 X hn hPc ⊢
  obtain ⟨methY, cY, hmY, hcY, -, hlY, -, -, -, -⟩ := Cond.code_spec hn h2
  obtain ⟨kY, hkY, -⟩ := className_of_methodNamed hn
  have hinitY : kY.init = .initialized := Cond.initialized_spec (findClass_of_methodNamed hn) hkY h3
  have h : At U g.method c below := by rw [hg]; exact X.here
  have hlocals9 : W9 + (maxL + 11) + (headSpec ws rm).room.locals ≤ R.locals := hlocals
  have happ : (headSpec ws rm).appliesLoose y e.platform (U.calling g mk a) = true :=
    Spec.appliesLoose_calling (g := g) h hdg hn hkY hinitY
      (X.room_calling (g := g) (R' := (headSpec ws rm).room) hsize hmY hcY hframes (by rw [hlY]; omega) h4 h5) h1
  obtain ⟨mid, hmid⟩ := h.above
  have hfr : (U.setTop g).frames = (.java g :: mid) ++ below := by rw [State.frames_setTop' g h.top, hmid]; rfl
  obtain ⟨o, s₂, hsteps, -, hend, hq⟩ := Steps.callFree hM p X.admits X.cas X.clock (acts := []) hfr happ hPc trivial
  have hq' : vx_Q Qc XC mc ms free a (U.calling g mk a) o s₂ := hq
  rw [State.frames_setTop' g h.top] at hend
  obtain ⟨g₀, hg0⟩ := Option.isSome_iff_exists.mp h.top
  obtain ⟨r, hr⟩ := State.topJava?_eq_some.mp hg0
  have hr' : (({ U with heap := s₂.heap, slotsUsed := s₂.slotsUsed } : State).setVm s₂.vm).frames = .java g₀ :: r := hr
  rcases hq' with ⟨hqc, L, hfe, hL⟩ | ⟨q, rfl, E, ce, L, hx, hce, hcv, hcl, hW₂, hsm, hL⟩
  · obtain ⟨⟨v, rfl⟩, hW₂, e2, q2, q3, q4, q5, q6⟩ := id hfe
    have e3 : s₂ = ({ (U.calling g mk a).setFrames s₂.frames with heap := s₂.heap, slotsUsed := s₂.slotsUsed } : State).setVm s₂.vm := by
      have : s₂ = ({ s₂ with vm := (U.calling g mk a).vm } : State).setVm s₂.vm := rfl
      rw [e2] at this
      exact this
    obtain ⟨c₂, i₂, len₂, hc₂, hd₂, hf₂⟩ := hend
    have hW' : U.WarmedH s₂.vm := hW₂
    have hcc : c₂ = c := by
      have h1 : s₂.code? g.method = U.code? g.method := by
        rw [State.code?_eq, State.code?_eq, hW'.alike.method?]
      exact Option.some.inj (hc₂.symm.trans (h1.trans h.code))
    subst hcc
    have hlen : len₂ = len := by rw [hdg] at hd₂; cases hd₂; rfl
    subst hlen
    have hs₂ : s₂ = (({ U with heap := s₂.heap, slotsUsed := s₂.slotsUsed } : State).setVm s₂.vm).setTop { g with pc := g.pc + len₂, stack := v.toList ++ g.stack } := by
      refine e3.trans ?_
      rw [hf₂, State.calling_eq h.top, State.setFrames_setFrames, State.setTop_of_frames _ hr', hr]
      rfl
    have hsame : U.sameButNew ({ U with heap := s₂.heap, slotsUsed := s₂.slotsUsed } : State) L mc ms := by
      refine ⟨?_, q2, q3, q4, q5, q6⟩
      obtain ⟨t, ht, -⟩ := State.frames_cons hr
      show ({ U with heap := s₂.heap, slotsUsed := s₂.slotsUsed } : State) = { U.setFrames U.frames with heap := s₂.heap, slotsUsed := s₂.slotsUsed }
      rw [State.setFrames_self ht]
    subst hg
    refine Or.inl ⟨v, ⟨(({ U with heap := s₂.heap, slotsUsed := s₂.slotsUsed } : State).setVm s₂.vm), Ls ++ L, c0 + mc, s0 + ms⟩,
      ⟨X.admits, X.cas, X.clock, X.frames, X.room, X.hears, X.method, X.code, (X.here.setHeapUsed s₂.heap s₂.slotsUsed).setVm hW'.alike, X.tail, State.WarmedH.trans X.warmed hW', X.limits, X.bytes, X.same.trans (hsame.setVm s.vm)⟩,
      ⟨g, mk, s₂, L, rfl, rfl, hqc, rfl, hL, rfl, rfl⟩, ?_⟩
    show Steps p.tables e below _ ((({ U with heap := s₂.heap, slotsUsed := s₂.slotsUsed } : State).setVm s₂.vm).setTop { g with pc := g.pc + len₂, stack := v.toList ++ g.stack })
    rw [← hs₂]
    exact hsteps
  · obtain ⟨e2, q2, q3, q4, q5, q6⟩ := id hsm
    have e3 : s₂ = ({ (U.calling g mk a).setFrames s₂.frames with heap := s₂.heap, slotsUsed := s₂.slotsUsed } : State).setVm s₂.vm := by
      have : s₂ = ({ s₂ with vm := (U.calling g mk a).vm } : State).setVm s₂.vm := rfl
      rw [e2] at this
      exact this
    have hf₂ : s₂.frames = .throwing q :: .java g :: U.frames.tail := hend
    have hW' : U.WarmedH s₂.vm := hW₂
    have hs₂ : s₂ = ((({ U with heap := s₂.heap, slotsUsed := s₂.slotsUsed } : State).setVm s₂.vm).setTop g).pushFrame (.throwing q) := by
      refine e3.trans ?_
      rw [hf₂, State.calling_eq h.top, State.setFrames_setFrames, State.pushFrame, State.frames_setTop _ hr', State.setTop_of_frames _ hr', State.setFrames_setFrames, hr]
      rfl
    have hsame : U.sameButNew ({ U with heap := s₂.heap, slotsUsed := s₂.slotsUsed } : State) L mc ms := by
      refine ⟨?_, q2, q3, q4, q5, q6⟩
      obtain ⟨t, ht, -⟩ := State.frames_cons hr
      show ({ U with heap := s₂.heap, slotsUsed := s₂.slotsUsed } : State) = { U.setFrames U.frames with heap := s₂.heap, slotsUsed := s₂.slotsUsed }
      rw [State.setFrames_self ht]
    subst hg
    refine Or.inr ⟨q, ⟨(({ U with heap := s₂.heap, slotsUsed := s₂.slotsUsed } : State).setVm s₂.vm), Ls ++ L, c0 + mc, s0 + ms⟩,
      ⟨X.admits, X.cas, X.clock, X.frames, X.room, X.hears, X.method, X.code, (X.here.setHeapUsed s₂.heap s₂.slotsUsed).setVm hW'.alike, X.tail, State.WarmedH.trans X.warmed hW', X.limits, X.bytes, X.same.trans (hsame.setVm s.vm)⟩,
      ⟨g, mk, s₂, L, E, ce, rfl, rfl, hx, hce, hcv, hcl, rfl, hL, rfl, rfl⟩, ?_⟩
    show Steps p.tables e below _ (((({ U with heap := s₂.heap, slotsUsed := s₂.slotsUsed } : State).setVm s₂.vm).setTop g).pushFrame (.throwing q))
    rw [← hs₂]
    exact hsteps
end Payer
section Calls
variable {p : Program} {l : Launch} {e : Env} {R : Room} {s : State} {m : MethodId} {args : Array Value} {below : List Frame} {meth : Method} {c : Code} {T : State} {locs : List Loc} {cells slots : Nat}
theorem vx_callV (X : Stand p l e R s m args below meth c T locs cells slots) (hexec : p.tables.exec = Jvm.exec) {own C : String} {index : Nat} {y : MethodName} {bytes : ByteArray} {maxL : Nat} {ret : Option FieldType}
    (hown : s.vm.findClass own = some m.cls) (hlink : (Cond.methodLink own index y).before args s = true) (hinst : (Cond.instanceMethod y).before args s = true) (hsel : (Cond.selects C y y).before args s = true)
    (hcode : (Cond.code y bytes maxL ret).before args s = true) (hy : y.cls ≠ "java/lang/invoke/MethodHandle" ∧ y.cls ≠ "java/lang/invoke/VarHandle")
    {W9 : Nat} {Pre : Pt → Array Value → Prop} {Post : Pt → Array Value → Option Value → Pt → Prop} {PostX : Pt → Array Value → Addr → Pt → Prop} (hK : vx_Back l R p e below s args y 3 W9 Pre Post PostX)
    {b : Addr} {cellB : Cell} (hcell : T.heap[b]? = some cellB) (hobj : cellB.vm.isStatics = false) (hcls : s.vm.findClass C = some cellB.cls)
    {g : JFrame} (hg : g.method = m) (hsize : g.locals.size = c.maxLocals) {argsL rest : List Value} (hlen : ∀ sig, parseMethodDescriptor y.desc = some sig → argsL.length = sig.parameters.length)
    (hstack : g.stack = argsL.reverse ++ .ref b :: rest) (hW : 2 * g.monitorRoom + (rest.map fun v => v.category).sum ≤ W9) (hdg : decode c.code g.pc = .ok (.invokevirtual index, 3))
    (hpre : ∀ vm₁, s.WarmedH vm₁ → Pre ⟨T.setVm vm₁, locs, cells, slots⟩ (Value.ref b :: argsL).toArray) :
    (∃ (v : Option Value) (vm₁ : Vm) (B : Pt), s.WarmedH vm₁ ∧ Stand p l e R s m args below meth c B.U B.locs B.cells B.slots ∧ Post ⟨T.setVm vm₁, locs, cells, slots⟩ (Value.ref b :: argsL).toArray v B ∧
      ∀ target, Steps p.tables e below (B.U.setTop { g with pc := g.pc + 3, stack := v.toList ++ rest }) target → Steps p.tables e below (T.setTop g) target) ∨
    (∃ (q : Addr) (vm₁ : Vm) (B : Pt), s.WarmedH vm₁ ∧ Stand p l e R s m args below meth c B.U B.locs B.cells B.slots ∧ PostX ⟨T.setVm vm₁, locs, cells, slots⟩ (Value.ref b :: argsL).toArray q B ∧
      Steps p.tables e below (T.setTop g) ((B.U.setTop { g with stack := rest }).pushFrame (.throwing q))) := by
  obtain ⟨mk, methM, hnamed, hmethM, hstM, habM⟩ := Cond.instanceMethod_spec hinst
  obtain ⟨methM', cM, hmethM', -, -, -, -, -, -, hsigM⟩ := Cond.code_spec hnamed hcode
  cases hmethM.symm.trans hmethM'
  obtain ⟨c2, r2, m2, q1, q2, q3, q4, kP, hkP, hkPi⟩ := Cond.selects_spec hsel
  cases hcls.symm.trans q1
  cases (State.methodFound?_of_named hnamed hy).symm.trans q2
  cases hnamed.symm.trans q3
  have hselP : selectMethod e.platform s.vm cellB.cls mk = .method mk := by rw [Launch.admits_selectMethod X.admits]; exact q4
  obtain ⟨vm₁, X₁, hstep₁⟩ := X.invokevirtual hexec hown hlink hnamed hmethM hstM hkP hkPi hy (a := b) (cell := cellB) hcell
    (fun z h => by rw [h] at hobj; cases hobj) hselP hmethM habM hkP hkPi (g := g) hg (argsL := argsL) (rest := rest) (hlen _ hsigM) hstack hdg
  rcases hK m meth c ⟨T.setVm vm₁, locs, cells, slots⟩ { g with stack := rest } (.invokevirtual index) mk (Value.ref b :: argsL).toArray X₁ hg hsize hdg hW (X₁.named hnamed) (hpre vm₁ X₁.warmed) with ⟨v, B, X', hpost, hsteps⟩ | ⟨q, B, X', hpost, hsteps⟩
  · exact Or.inl ⟨v, vm₁, B, X₁.warmed, X', hpost, fun target h => hstep₁ _ fun acts => by rw [doInvoke_state]; exact hsteps.trans h⟩
  · exact Or.inr ⟨q, vm₁, B, X₁.warmed, X', hpost, hstep₁ _ fun acts => by rw [doInvoke_state]; exact hsteps⟩
theorem vx_callS (X : Stand p l e R s m args below meth c T locs cells slots) (hexec : p.tables.exec = Jvm.exec) {own : String} {index : Nat} {y : MethodName} {bytes : ByteArray} {maxL : Nat} {ret : Option FieldType}
    (hown : s.vm.findClass own = some m.cls) (hlink : (Cond.methodLink own index y).before args s = true) (hstat : (Cond.static y).before args s = true) (hinit : (Cond.initialized y.cls).before args s = true)
    (hcode : (Cond.code y bytes maxL ret).before args s = true) (hy : y.cls ≠ "java/lang/invoke/MethodHandle" ∧ y.cls ≠ "java/lang/invoke/VarHandle")
    {W9 : Nat} {Pre : Pt → Array Value → Prop} {Post : Pt → Array Value → Option Value → Pt → Prop} {PostX : Pt → Array Value → Addr → Pt → Prop} (hK : vx_Back l R p e below s args y 3 W9 Pre Post PostX)
    {g : JFrame} (hg : g.method = m) (hsize : g.locals.size = c.maxLocals) {argsL rest : List Value} (hlen : ∀ sig, parseMethodDescriptor y.desc = some sig → argsL.length = sig.parameters.length)
    (hstack : g.stack = argsL.reverse ++ rest) (hW : 2 * g.monitorRoom + (rest.map fun v => v.category).sum ≤ W9) (hdg : decode c.code g.pc = .ok (.invokestatic index, 3))
    (hpre : ∀ vm₁, s.WarmedH vm₁ → Pre ⟨T.setVm vm₁, locs, cells, slots⟩ argsL.toArray) :
    (∃ (v : Option Value) (vm₁ : Vm) (B : Pt), s.WarmedH vm₁ ∧ Stand p l e R s m args below meth c B.U B.locs B.cells B.slots ∧ Post ⟨T.setVm vm₁, locs, cells, slots⟩ argsL.toArray v B ∧
      ∀ target, Steps p.tables e below (B.U.setTop { g with pc := g.pc + 3, stack := v.toList ++ rest }) target → Steps p.tables e below (T.setTop g) target) ∨
    (∃ (q : Addr) (vm₁ : Vm) (B : Pt), s.WarmedH vm₁ ∧ Stand p l e R s m args below meth c B.U B.locs B.cells B.slots ∧ PostX ⟨T.setVm vm₁, locs, cells, slots⟩ argsL.toArray q B ∧
      Steps p.tables e below (T.setTop g) ((B.U.setTop { g with stack := rest }).pushFrame (.throwing q))) := by
  obtain ⟨mk, hnamed⟩ := Cond.code_named hcode
  obtain ⟨methM, cM, hmethM, -, -, -, -, -, -, hsigM⟩ := Cond.code_spec hnamed hcode
  have hstatic : methM.isStatic = true := Cond.static_spec hnamed hmethM hstat
  obtain ⟨kP, hkP, -⟩ := className_of_methodNamed hnamed
  have hinitP : kP.init = .initialized := Cond.initialized_spec (findClass_of_methodNamed hnamed) hkP hinit
  obtain ⟨vm₁, X₁, hstep₁⟩ := X.invokestatic hexec hown hlink hnamed hmethM hstatic hkP hinitP hy (g := g) hg (argsL := argsL) (rest := rest) (hlen _ hsigM) hstack hdg
  rcases hK m meth c ⟨T.setVm vm₁, locs, cells, slots⟩ { g with stack := rest } (.invokestatic index) mk argsL.toArray X₁ hg hsize hdg hW (X₁.named hnamed) (hpre vm₁ X₁.warmed) with ⟨v, B, X', hpost, hsteps⟩ | ⟨q, B, X', hpost, hsteps⟩
  · exact Or.inl ⟨v, vm₁, B, X₁.warmed, X', hpost, fun target h => hstep₁ _ fun acts => by rw [doInvoke_state]; exact hsteps.trans h⟩
  · exact Or.inr ⟨q, vm₁, B, X₁.warmed, X', hpost, hstep₁ _ fun acts => by rw [doInvoke_state]; exact hsteps⟩
end Calls
theorem vx_cls {s : State} {T : State} {vm₁ : Vm} {E : String} {k : ClassId} (hW : s.WarmedH vm₁) (h : (T.setVm vm₁).vm.findClass E = some k) : s.vm.findClass E = some k := by
  have h1 : vm₁.findClass E = some k := h
  rw [hW.alike.findClass] at h1
  exact h1
/-- the method's frame g, with q thrown over it -/
def vx_W (p : Program) (l : Launch) (e : Env) (R : Room) (s : State) (m : MethodId) (args : Array Value) (below : List Frame) (meth : Method) (c : Code) (H : Heap) (locs : List Loc) (cells slots : Nat) (Q : State → Prop) (g : JFrame) (q : Addr) : Prop :=
  ∀ T : State, T.heap = H → Stand p l e R s m args below meth c T locs cells slots → ∃ t, Steps p.tables e below ((T.setTop g).pushFrame (.throwing q)) t ∧ Q t
def vx_Run (p : Program) (l : Launch) (e : Env) (R : Room) (s : State) (m : MethodId) (args : Array Value) (below : List Frame) (meth : Method) (c : Code) (H : Heap) (locs : List Loc) (cells slots mc ms : Nat) (g : JFrame) (rest : List Value) (Qa : State → Outcome → State → Prop) (XC : String → State → State → Prop) (free : Addr → Prop) : Prop :=
  ∀ T : State, T.heap = H → Stand p l e R s m args below meth c T locs cells slots →
    (∃ (v : Option Value) (st₀ t T' : State) (L : List Loc), st₀.heap = H ∧ Stand p l e R s m args below meth c T' (locs ++ L) (cells + mc) (slots + ms) ∧ (∀ q ∈ L, free q.base) ∧ T'.heap = t.heap ∧ T'.vm = t.vm ∧ Qa st₀ (.returned v) t ∧
      Goes p e below T g T' { g with pc := g.pc + 3, stack := v.toList ++ rest }) ∨
    (∃ (q : Addr) (st₀ t T' : State) (L : List Loc) (E : String) (ce : Cell), st₀.heap = H ∧ Stand p l e R s m args below meth c T' (locs ++ L) (cells + mc) (slots + ms) ∧ (∀ z ∈ L, free z.base) ∧ T'.heap = t.heap ∧ T'.vm = t.vm ∧ XC E st₀ t ∧ t.heap[q]? = some ce ∧ ce.vm = .none ∧ s.vm.findClass E = some ce.cls ∧
      Steps p.tables e below (T.setTop g) ((T'.setTop { g with stack := rest }).pushFrame (.throwing q)))
def vx_X {S : Type} (px : S → Prop) (B : String → S → State → Prop) (A : Nat → Prop) : String → State → State → Prop := fun E st t => ∃ u : S, px u ∧ B E u t ∧ va_F A st t
section Runs
variable {p : Program} {l : Launch} {e : Env} {R : Room} {s : State} {m : MethodId} {args : Array Value} {below : List Frame} {meth : Method} {c : Code} {H : Heap} {locs : List Loc} {cells slots : Nat}
variable {y : MethodName} {bytes cc : ByteArray} {maxL nL mc ms n index : Nat} {ret : Option FieldType} {ws : List Cond} {rm : Room} {Pc : Array Value → State → Prop} {Qc : Array Value → State → Outcome → State → Prop} {XC : String → State → State → Prop} {free : Addr → Prop} {Ts : List Cond} {own C : String} {b : Addr} {As rest : List Value} {g : JFrame}
theorem vx_callBack (cb : CallB R s args own index y bytes maxL ret ws rm mc ms n) (hM : vx_Met l y ws rm Pc Qc XC mc ms free) (hbl : FrameBlind Pc) : vx_Back l R p e below s args y 3 8 (PreOf R mc ms Pc) (PostOf Qc mc ms free) (vx_Post XC mc ms free) := by
  obtain ⟨hrc, hrs, hfr, hlo, hws, hcw, -, hini, -⟩ := cb
  exact vx_back (bytes := bytes) (maxL := maxL) (ret := ret) hM hbl hrc hrs hfr hlo hws hcw (fun a' U hW => word_at hW (Or.inl (by first | rfl | simp [Cond.onTables, Cond.keeps, Cond.steady])) hini)
theorem vx_runV (S : CallFix p m c cc nL s args Ts own) (hM : vx_Met l y ws rm Pc Qc XC mc ms free) (cw : CallW R s args own C index y bytes maxL ret ws rm mc ms n) (hp : PreV s H C b Pc As)
    (hg : g.method = m) (hn : As.length = n) (hsize : g.locals.size = nL) (hstack : g.stack = As.reverse ++ .ref b :: rest) (hW : 2 * g.monitorRoom + (rest.map fun v => v.category).sum ≤ 8) (hdg : decode cc g.pc = .ok (.invokevirtual index, 3)) (hf : cells + mc ≤ R.cells ∧ slots + ms ≤ R.slots) :
    vx_Run p l e R s m args below meth c H locs cells slots mc ms g rest (Qc (Value.ref b :: As).toArray) XC free := by
  have hK : vx_Back l R p e below s args y 3 8 (PreOf R mc ms Pc) (PostOf Qc mc ms free) (vx_Post XC mc ms free) := vx_callBack cw.1 hM hp.1
  obtain ⟨⟨-, -, -, -, -, -, hcode, -, hy, hlen, hl⟩, hin, hse⟩ := cw
  obtain ⟨hx, hb, hml, ho, -⟩ := S
  obtain ⟨-, ⟨cellB, hcB, hoB, hclB⟩, hPc⟩ := hp
  intro T hT X
  rcases vx_callV X hx (C := C) (bytes := bytes) (maxL := maxL) (ret := ret) ho hl hin hse hcode hy hK (by rw [hT]; exact hcB) hoB hclB hg (hsize.trans hml.symm) (argsL := As) (rest := rest) (fun sig h => hn.trans (hlen sig h)) hstack hW (by rw [hb]; exact hdg)
    (fun vm₁ hW₁ => ⟨hf.1, hf.2, hPc (T.setVm vm₁) hT hW₁⟩) with ⟨v, vm₁, ⟨U', l2, c2, s2⟩, hW₁, X', ⟨g', mk, t, L, e1, e2, hq, h1, hL, h2, h3⟩, st⟩ | ⟨q, vm₁, ⟨U', l2, c2, s2⟩, hW₁, X', ⟨g', mk, t, L, E, ce, e1, e2, hq, hce, hcv, hcl, h1, hL, h2, h3⟩, st⟩
  · dsimp only [Pt.U, Pt.locs, Pt.cells, Pt.slots] at X' e1 e2 h1 h2 h3 st
    subst h1; subst h2; subst h3
    exact Or.inl ⟨v, (T.setVm vm₁).calling g' mk (Value.ref b :: As).toArray, t, U', L, hT, X', hL, e1, e2, hq, st⟩
  · dsimp only [Pt.U, Pt.locs, Pt.cells, Pt.slots] at X' e1 e2 h1 h2 h3 st hcl
    subst h1; subst h2; subst h3
    exact Or.inr ⟨q, (T.setVm vm₁).calling g' mk (Value.ref b :: As).toArray, t, U', L, E, ce, hT, X', hL, e1, e2, hq, hce, hcv, vx_cls hW₁ hcl, st⟩
theorem vx_runS (S : CallFix p m c cc nL s args Ts own) (hM : vx_Met l y ws rm Pc Qc XC mc ms free) (cw : CallB R s args own index y bytes maxL ret ws rm mc ms n ∧ (Cond.static y).before args s = true) (hp : PreS s H Pc As)
    (hg : g.method = m) (hn : As.length = n) (hsize : g.locals.size = nL) (hstack : g.stack = As.reverse ++ rest) (hW : 2 * g.monitorRoom + (rest.map fun v => v.category).sum ≤ 8) (hdg : decode cc g.pc = .ok (.invokestatic index, 3)) (hf : cells + mc ≤ R.cells ∧ slots + ms ≤ R.slots) :
    vx_Run p l e R s m args below meth c H locs cells slots mc ms g rest (Qc As.toArray) XC free := by
  have hK : vx_Back l R p e below s args y 3 8 (PreOf R mc ms Pc) (PostOf Qc mc ms free) (vx_Post XC mc ms free) := vx_callBack cw.1 hM hp.1
  obtain ⟨⟨-, -, -, -, -, -, hcode, hini, hy, hlen, hl⟩, hstt⟩ := cw
  obtain ⟨hx, hb, hml, ho, -⟩ := S
  intro T hT X
  rcases vx_callS X hx (bytes := bytes) (maxL := maxL) (ret := ret) ho hl hstt hini hcode hy hK hg (hsize.trans hml.symm) (argsL := As) (rest := rest) (fun sig h => hn.trans (hlen sig h)) hstack hW (by rw [hb]; exact hdg)
    (fun vm₁ hW₁ => ⟨hf.1, hf.2, hp.2 (T.setVm vm₁) hT hW₁⟩) with ⟨v, vm₁, ⟨U', l2, c2, s2⟩, hW₁, X', ⟨g', mk, t, L, e1, e2, hq, h1, hL, h2, h3⟩, st⟩ | ⟨q, vm₁, ⟨U', l2, c2, s2⟩, hW₁, X', ⟨g', mk, t, L, E, ce, e1, e2, hq, hce, hcv, hcl, h1, hL, h2, h3⟩, st⟩
  · dsimp only [Pt.U, Pt.locs, Pt.cells, Pt.slots] at X' e1 e2 h1 h2 h3 st
    subst h1; subst h2; subst h3
    exact Or.inl ⟨v, (T.setVm vm₁).calling g' mk As.toArray, t, U', L, hT, X', hL, e1, e2, hq, st⟩
  · dsimp only [Pt.U, Pt.locs, Pt.cells, Pt.slots] at X' e1 e2 h1 h2 h3 st hcl
    subst h1; subst h2; subst h3
    exact Or.inr ⟨q, (T.setVm vm₁).calling g' mk As.toArray, t, U', L, E, ce, hT, X', hL, e1, e2, hq, hce, hcv, vx_cls hW₁ hcl, st⟩
end Runs
section Rows
variable {p : Program} {l : Launch} {e : Env} {R : Room} {s : State} {m : MethodId} {args : Array Value} {below : List Frame} {meth : Method} {c : Code} {H : Heap} {locs : List Loc} {cells slots : Nat} {Q : State → Prop}
variable {mc ms : Nat} {free : Addr → Prop} {A0 A1 : Nat → Prop} {H0 : Heap} {a : Array Value} {pc : Nat} {ls : Array Slot} {st0 rest : List Value}
theorem vx_keep {st₀ t T' : State} {L : List Loc} (h0 : st₀.heap = H) (e1 : T'.heap = t.heap) (hS : va_S A0 H0 H locs) (hA : ∀ q, q < H.size → A1 q → A0 q) (hf : ∀ q, free q → A0 q) (hL : ∀ q ∈ L, free q.base) (hF : va_F A1 st₀ t) :
    H.size ≤ T'.heap.size ∧ (∀ q : Nat, q < H.size → ¬ A1 q → T'.heap[q]? = H[q]?) ∧ va_S A0 H0 T'.heap (locs ++ L) := by
  obtain ⟨hz, hk⟩ := hF
  rw [h0] at hz hk
  exact ⟨by rw [e1]; exact hz, fun q h1 h2 => by rw [e1]; exact hk q h1 h2,
    ⟨Nat.le_trans hS.1 (by rw [e1]; exact hz), fun q h1 h2 => by rw [e1, hk q (Nat.lt_of_lt_of_le h1 hS.1) (fun z => h2 (hA q (Nat.lt_of_lt_of_le h1 hS.1) z))]; exact hS.2.1 q h1 h2, fun q hq => by
      rcases List.mem_append.mp hq with h | h
      · exact hS.2.2 q h
      · exact hf _ (hL q h)⟩⟩
theorem vx_calli {S SX : Type} {post : Int32 → S → Prop} {px : SX → Prop} {B : S → State → Prop} {BX : String → SX → State → Prop} {AX : Nat → Prop} (hr : vx_Run p l e R s m args below meth c H locs cells slots mc ms (F0 m pc ls st0) rest (va_Qi post B A1 a) (vx_X px BX AX) free) (hS : va_S A0 H0 H locs) (hA : ∀ q, q < H.size → A1 q → A0 q) (hf : ∀ q, free q → A0 q) (hAX : ∀ q, q < H.size → AX q → A0 q)
    (kx : ∀ (E : String) (ce : Cell) (q9 : Addr) (u : SX) (t : State) (H1 : Heap) (locs1 : List Loc), t.heap = H1 → s.vm.Alike t.vm → px u → BX E u t → H.size ≤ H1.size → (∀ q : Nat, q < H.size → ¬ AX q → H1[q]? = H[q]?) → va_S A0 H0 H1 locs1 → H1[q9]? = some ce → ce.vm = .none → s.vm.findClass E = some ce.cls → vx_W p l e R s m args below meth c H1 locs1 (cells + mc) (slots + ms) Q (F0 m pc ls rest) q9)
    (kk : ∀ (r : Int32) (u : S) (t : State) (H1 : Heap) (locs1 : List Loc), t.heap = H1 → s.vm.Alike t.vm → post r u → B u t → H.size ≤ H1.size → (∀ q : Nat, q < H.size → ¬ A1 q → H1[q]? = H[q]?) → va_S A0 H0 H1 locs1 → W p l e R s m args below meth c H1 locs1 (cells + mc) (slots + ms) Q (F0 m (pc + 3) ls (.int r :: rest))) : W p l e R s m args below meth c H locs cells slots Q (F0 m pc ls st0) := by
  intro T hT X
  rcases hr T hT X with ⟨v, st₀, t, T', L, h0, X', hL, e1, e2, ⟨⟨r, u, hv, hp, hb⟩, hF⟩, st⟩ | ⟨q, st₀, t, T', L, E, ce, h0, X', hL, e1, e2, ⟨u, hp, hb, hF⟩, hce, hcv, hcl, st⟩
  · cases hv
    obtain ⟨k1, k2, k3⟩ := vx_keep h0 e1 hS hA hf hL hF
    obtain ⟨t2, a1, b1⟩ := kk r u t T'.heap (locs ++ L) e1.symm (by rw [← e2]; exact X'.warmed.alike) hp hb k1 k2 k3 T' rfl X'
    exact ⟨t2, st t2 a1, b1⟩
  · obtain ⟨k1, k2, k3⟩ := vx_keep h0 e1 hS hAX hf hL hF
    obtain ⟨t2, a1, b1⟩ := kx E ce q u t T'.heap (locs ++ L) e1.symm (by rw [← e2]; exact X'.warmed.alike) hp hb k1 k2 k3 (by rw [e1]; exact hce) hcv hcl T' rfl X'
    exact ⟨t2, st.trans a1, b1⟩
theorem vx_calll {S SX : Type} {post : Int64 → S → Prop} {px : SX → Prop} {B : S → State → Prop} {BX : String → SX → State → Prop} {AX : Nat → Prop} (hr : vx_Run p l e R s m args below meth c H locs cells slots mc ms (F0 m pc ls st0) rest (va_Ql post B A1 a) (vx_X px BX AX) free) (hS : va_S A0 H0 H locs) (hA : ∀ q, q < H.size → A1 q → A0 q) (hf : ∀ q, free q → A0 q) (hAX : ∀ q, q < H.size → AX q → A0 q)
    (kx : ∀ (E : String) (ce : Cell) (q9 : Addr) (u : SX) (t : State) (H1 : Heap) (locs1 : List Loc), t.heap = H1 → s.vm.Alike t.vm → px u → BX E u t → H.size ≤ H1.size → (∀ q : Nat, q < H.size → ¬ AX q → H1[q]? = H[q]?) → va_S A0 H0 H1 locs1 → H1[q9]? = some ce → ce.vm = .none → s.vm.findClass E = some ce.cls → vx_W p l e R s m args below meth c H1 locs1 (cells + mc) (slots + ms) Q (F0 m pc ls rest) q9)
    (kk : ∀ (r : Int64) (u : S) (t : State) (H1 : Heap) (locs1 : List Loc), t.heap = H1 → s.vm.Alike t.vm → post r u → B u t → H.size ≤ H1.size → (∀ q : Nat, q < H.size → ¬ A1 q → H1[q]? = H[q]?) → va_S A0 H0 H1 locs1 → W p l e R s m args below meth c H1 locs1 (cells + mc) (slots + ms) Q (F0 m (pc + 3) ls (.long r :: rest))) : W p l e R s m args below meth c H locs cells slots Q (F0 m pc ls st0) := by
  intro T hT X
  rcases hr T hT X with ⟨v, st₀, t, T', L, h0, X', hL, e1, e2, ⟨⟨r, u, hv, hp, hb⟩, hF⟩, st⟩ | ⟨q, st₀, t, T', L, E, ce, h0, X', hL, e1, e2, ⟨u, hp, hb, hF⟩, hce, hcv, hcl, st⟩
  · cases hv
    obtain ⟨k1, k2, k3⟩ := vx_keep h0 e1 hS hA hf hL hF
    obtain ⟨t2, a1, b1⟩ := kk r u t T'.heap (locs ++ L) e1.symm (by rw [← e2]; exact X'.warmed.alike) hp hb k1 k2 k3 T' rfl X'
    exact ⟨t2, st t2 a1, b1⟩
  · obtain ⟨k1, k2, k3⟩ := vx_keep h0 e1 hS hAX hf hL hF
    obtain ⟨t2, a1, b1⟩ := kx E ce q u t T'.heap (locs ++ L) e1.symm (by rw [← e2]; exact X'.warmed.alike) hp hb k1 k2 k3 (by rw [e1]; exact hce) hcv hcl T' rfl X'
    exact ⟨t2, st.trans a1, b1⟩
theorem vx_callf {S SX : Type} {post : UInt32 → S → Prop} {px : SX → Prop} {B : S → State → Prop} {BX : String → SX → State → Prop} {AX : Nat → Prop} (hr : vx_Run p l e R s m args below meth c H locs cells slots mc ms (F0 m pc ls st0) rest (va_Qf post B A1 a) (vx_X px BX AX) free) (hS : va_S A0 H0 H locs) (hA : ∀ q, q < H.size → A1 q → A0 q) (hf : ∀ q, free q → A0 q) (hAX : ∀ q, q < H.size → AX q → A0 q)
    (kx : ∀ (E : String) (ce : Cell) (q9 : Addr) (u : SX) (t : State) (H1 : Heap) (locs1 : List Loc), t.heap = H1 → s.vm.Alike t.vm → px u → BX E u t → H.size ≤ H1.size → (∀ q : Nat, q < H.size → ¬ AX q → H1[q]? = H[q]?) → va_S A0 H0 H1 locs1 → H1[q9]? = some ce → ce.vm = .none → s.vm.findClass E = some ce.cls → vx_W p l e R s m args below meth c H1 locs1 (cells + mc) (slots + ms) Q (F0 m pc ls rest) q9)
    (kk : ∀ (r : UInt32) (u : S) (t : State) (H1 : Heap) (locs1 : List Loc), t.heap = H1 → s.vm.Alike t.vm → post r u → B u t → H.size ≤ H1.size → (∀ q : Nat, q < H.size → ¬ A1 q → H1[q]? = H[q]?) → va_S A0 H0 H1 locs1 → W p l e R s m args below meth c H1 locs1 (cells + mc) (slots + ms) Q (F0 m (pc + 3) ls (.float r :: rest))) : W p l e R s m args below meth c H locs cells slots Q (F0 m pc ls st0) := by
  intro T hT X
  rcases hr T hT X with ⟨v, st₀, t, T', L, h0, X', hL, e1, e2, ⟨⟨r, u, hv, hp, hb⟩, hF⟩, st⟩ | ⟨q, st₀, t, T', L, E, ce, h0, X', hL, e1, e2, ⟨u, hp, hb, hF⟩, hce, hcv, hcl, st⟩
  · cases hv
    obtain ⟨k1, k2, k3⟩ := vx_keep h0 e1 hS hA hf hL hF
    obtain ⟨t2, a1, b1⟩ := kk r u t T'.heap (locs ++ L) e1.symm (by rw [← e2]; exact X'.warmed.alike) hp hb k1 k2 k3 T' rfl X'
    exact ⟨t2, st t2 a1, b1⟩
  · obtain ⟨k1, k2, k3⟩ := vx_keep h0 e1 hS hAX hf hL hF
    obtain ⟨t2, a1, b1⟩ := kx E ce q u t T'.heap (locs ++ L) e1.symm (by rw [← e2]; exact X'.warmed.alike) hp hb k1 k2 k3 (by rw [e1]; exact hce) hcv hcl T' rfl X'
    exact ⟨t2, st.trans a1, b1⟩
theorem vx_calld {S SX : Type} {post : UInt64 → S → Prop} {px : SX → Prop} {B : S → State → Prop} {BX : String → SX → State → Prop} {AX : Nat → Prop} (hr : vx_Run p l e R s m args below meth c H locs cells slots mc ms (F0 m pc ls st0) rest (va_Qd post B A1 a) (vx_X px BX AX) free) (hS : va_S A0 H0 H locs) (hA : ∀ q, q < H.size → A1 q → A0 q) (hf : ∀ q, free q → A0 q) (hAX : ∀ q, q < H.size → AX q → A0 q)
    (kx : ∀ (E : String) (ce : Cell) (q9 : Addr) (u : SX) (t : State) (H1 : Heap) (locs1 : List Loc), t.heap = H1 → s.vm.Alike t.vm → px u → BX E u t → H.size ≤ H1.size → (∀ q : Nat, q < H.size → ¬ AX q → H1[q]? = H[q]?) → va_S A0 H0 H1 locs1 → H1[q9]? = some ce → ce.vm = .none → s.vm.findClass E = some ce.cls → vx_W p l e R s m args below meth c H1 locs1 (cells + mc) (slots + ms) Q (F0 m pc ls rest) q9)
    (kk : ∀ (r : UInt64) (u : S) (t : State) (H1 : Heap) (locs1 : List Loc), t.heap = H1 → s.vm.Alike t.vm → post r u → B u t → H.size ≤ H1.size → (∀ q : Nat, q < H.size → ¬ A1 q → H1[q]? = H[q]?) → va_S A0 H0 H1 locs1 → W p l e R s m args below meth c H1 locs1 (cells + mc) (slots + ms) Q (F0 m (pc + 3) ls (.double r :: rest))) : W p l e R s m args below meth c H locs cells slots Q (F0 m pc ls st0) := by
  intro T hT X
  rcases hr T hT X with ⟨v, st₀, t, T', L, h0, X', hL, e1, e2, ⟨⟨r, u, hv, hp, hb⟩, hF⟩, st⟩ | ⟨q, st₀, t, T', L, E, ce, h0, X', hL, e1, e2, ⟨u, hp, hb, hF⟩, hce, hcv, hcl, st⟩
  · cases hv
    obtain ⟨k1, k2, k3⟩ := vx_keep h0 e1 hS hA hf hL hF
    obtain ⟨t2, a1, b1⟩ := kk r u t T'.heap (locs ++ L) e1.symm (by rw [← e2]; exact X'.warmed.alike) hp hb k1 k2 k3 T' rfl X'
    exact ⟨t2, st t2 a1, b1⟩
  · obtain ⟨k1, k2, k3⟩ := vx_keep h0 e1 hS hAX hf hL hF
    obtain ⟨t2, a1, b1⟩ := kx E ce q u t T'.heap (locs ++ L) e1.symm (by rw [← e2]; exact X'.warmed.alike) hp hb k1 k2 k3 (by rw [e1]; exact hce) hcv hcl T' rfl X'
    exact ⟨t2, st.trans a1, b1⟩
theorem vx_callv {S SX : Type} {post : S → Prop} {px : SX → Prop} {B : S → State → Prop} {BX : String → SX → State → Prop} {AX : Nat → Prop} (hr : vx_Run p l e R s m args below meth c H locs cells slots mc ms (F0 m pc ls st0) rest (va_Qv post B A1 a) (vx_X px BX AX) free) (hS : va_S A0 H0 H locs) (hA : ∀ q, q < H.size → A1 q → A0 q) (hf : ∀ q, free q → A0 q) (hAX : ∀ q, q < H.size → AX q → A0 q)
    (kx : ∀ (E : String) (ce : Cell) (q9 : Addr) (u : SX) (t : State) (H1 : Heap) (locs1 : List Loc), t.heap = H1 → s.vm.Alike t.vm → px u → BX E u t → H.size ≤ H1.size → (∀ q : Nat, q < H.size → ¬ AX q → H1[q]? = H[q]?) → va_S A0 H0 H1 locs1 → H1[q9]? = some ce → ce.vm = .none → s.vm.findClass E = some ce.cls → vx_W p l e R s m args below meth c H1 locs1 (cells + mc) (slots + ms) Q (F0 m pc ls rest) q9)
    (kk : ∀ (u : S) (t : State) (H1 : Heap) (locs1 : List Loc), t.heap = H1 → s.vm.Alike t.vm → post u → B u t → H.size ≤ H1.size → (∀ q : Nat, q < H.size → ¬ A1 q → H1[q]? = H[q]?) → va_S A0 H0 H1 locs1 → W p l e R s m args below meth c H1 locs1 (cells + mc) (slots + ms) Q (F0 m (pc + 3) ls (rest))) : W p l e R s m args below meth c H locs cells slots Q (F0 m pc ls st0) := by
  intro T hT X
  rcases hr T hT X with ⟨v, st₀, t, T', L, h0, X', hL, e1, e2, ⟨⟨u, hv, hp, hb⟩, hF⟩, st⟩ | ⟨q, st₀, t, T', L, E, ce, h0, X', hL, e1, e2, ⟨u, hp, hb, hF⟩, hce, hcv, hcl, st⟩
  · cases hv
    obtain ⟨k1, k2, k3⟩ := vx_keep h0 e1 hS hA hf hL hF
    obtain ⟨t2, a1, b1⟩ := kk u t T'.heap (locs ++ L) e1.symm (by rw [← e2]; exact X'.warmed.alike) hp hb k1 k2 k3 T' rfl X'
    exact ⟨t2, st t2 a1, b1⟩
  · obtain ⟨k1, k2, k3⟩ := vx_keep h0 e1 hS hAX hf hL hF
    obtain ⟨t2, a1, b1⟩ := kx E ce q u t T'.heap (locs ++ L) e1.symm (by rw [← e2]; exact X'.warmed.alike) hp hb k1 k2 k3 (by rw [e1]; exact hce) hcv hcl T' rfl X'
    exact ⟨t2, st.trans a1, b1⟩
/-- caught by the row x of this method's table; the rows ahead don't take it -/
theorem vx_catch {own name : String} {E : String} {ce : Cell} {q : Addr} (hown : s.vm.findClass own = some m.cls) (pre : List ExceptionTableEntry) (x : ExceptionTableEntry) (suf : List ExceptionTableEntry) (hsplit : c.exceptionTable.toList = pre ++ x :: suf)
    (hpass : ∀ z ∈ pre, covers z pc = false ∨ (z.catchType ≠ 0 ∧ ∃ nm : String, (Cond.classLink own z.catchType nm).before args s = true ∧ va_Nc E nm s)) (hx : covers x pc = true) (h0 : x.catchType ≠ 0)
    (hlink : (Cond.classLink own x.catchType name).before args s = true) (hcast : (Cond.castable E name).before args s = true) (hcell : H[q]? = some ce) (hv : ce.vm = .none) (hcl : s.vm.findClass E = some ce.cls)
    (kk : W p l e R s m args below meth c H locs cells slots Q (F0 m x.handlerPc ls [.ref q])) : vx_W p l e R s m args below meth c H locs cells slots Q (F0 m pc ls rest) q := by
  intro T hT X
  have hpl : e.platform.magicAccessors = ({} : Platform).magicAccessors := by rw [X.admits.platform]
  obtain ⟨c3, c4, hc3, hc4, hasg⟩ := Cond.castable_spec hcast
  cases Option.some.inj (hc3.symm.trans hcl)
  obtain ⟨c5, hc5, hcl5⟩ := Cond.classLink_spec hown hlink e.platform hpl
  cases Option.some.inj (hc4.symm.trans hc5)
  obtain ⟨vm', X', st⟩ := X.thenCaughtThrough q (g := F0 m pc ls rest) rfl (Steps.refl _) (by rw [hT]; exact hcell) (by rw [hv]; rfl) (by obtain ⟨k9, h9, -⟩ := Vm.findClass_spec hcl; exact ⟨k9, h9⟩) pre x suf hsplit
    (fun z hz => by
      rcases hpass z hz with h | ⟨hz0, nm, hl1, hn1⟩
      · exact Or.inl h
      · obtain ⟨c6, hc6, hcl6⟩ := Cond.classLink_spec hown hl1 e.platform hpl
        obtain ⟨a8, b8, h1, h2, h3⟩ := hn1
        cases Option.some.inj (h1.symm.trans hcl)
        cases Option.some.inj (h2.symm.trans hc6)
        exact Or.inr ⟨hz0, _, hcl6, h3⟩) hx (Or.inr ⟨h0, c4, hcl5, hasg⟩)
  obtain ⟨t, a1, b1⟩ := kk (T.setVm vm') hT X'
  exact ⟨t, st.trans a1, b1⟩
end Rows
section Ends
variable {p : Program} {l : Launch} {e : Env} {R : Room} {s : State} {m : MethodId} {args : Array Value} {below : List Frame} {meth : Method} {c : Code} {H : Heap} {locs : List Loc} {cells slots : Nat} {Q : State → Prop}
variable {mc ms : Nat} {free : Addr → Prop} {A0 A1 : Nat → Prop} {H0 : Heap} {a : Array Value} {ls : Array Slot} {st0 rest : List Value}
variable {Qc : Array Value → State → Outcome → State → Prop} {XC : String → State → State → Prop}
/-- what a body that may throw owes at its end -/
def vx_MQ (below : List Frame) (Qc : Array Value → State → Outcome → State → Prop) (XC : String → State → State → Prop) (a : Array Value) (s : State) (mc ms : Nat) (free : Addr → Prop) : State → Prop := fun t =>
  ∃ o, t.status = .running ∧ Ended t below o ∧ vx_Q Qc XC mc ms free a s o t
theorem vx_ret {g : JFrame} {mc ms : Nat} (k : W p l e R s m args below meth c H locs cells slots (MQ below Qc args s mc ms free) g) : W p l e R s m args below meth c H locs cells slots (vx_MQ below Qc XC args s mc ms free) g := by
  intro T hT X
  obtain ⟨t, a1, o, b1, b2, b3, b4⟩ := k T hT X
  exact ⟨t, a1, o, b1, b2, Or.inl ⟨b3, b4⟩⟩
/-- not caught here: it goes on to the caller -/
theorem vx_widen {g : JFrame} {q : Addr} {k n : Nat} (h1 : cells ≤ k) (h2 : slots ≤ n) (kk : vx_W p l e R s m args below meth c H locs k n Q g q) : vx_W p l e R s m args below meth c H locs cells slots Q g q := fun T hT X => kk T hT (stand_widen X h1 h2)
theorem vx_out {pc : Nat} {E : String} {ce : Cell} {q : Addr} {mc ms : Nat} (hout : ∀ x ∈ c.exceptionTable.toList, covers x pc = false) (hlocks : meth.locks = false) (hcell : H[q]? = some ce) (hv : ce.vm = .none) (hcl : s.vm.findClass E = some ce.cls)
    (hx : ∀ t : State, t.heap = H → s.vm.Alike t.vm → XC E s t) (hf : ∀ z ∈ locs, free z.base) (hc : cells ≤ mc) (hs : slots ≤ ms) :
    vx_W p l e R s m args below meth c H locs cells slots (vx_MQ below Qc XC args s mc ms free) (F0 m pc ls rest) q := by
  intro T hT X
  obtain ⟨st1, hrun, hend, hW, hsm⟩ := X.leaveThrown q (g := F0 m pc ls rest) rfl rfl rfl hout hlocks
  have hcell9 : (T.setFrames (.throwing q :: below)).heap[q]? = some ce := by
    show T.heap[q]? = some ce
    rw [hT]; exact hcell
  exact ⟨_, st1, .threw q, hrun, hend, Or.inr ⟨q, rfl, E, ce, locs, hx _ hT hW.alike, hcell9, hv, hcl, hW, hsm.mono hc hs, hf⟩⟩
theorem vx_frame {U : State} {k n : Nat} (h : s.sameButNew ({ U with vm := s.vm } : State) locs k n) : s.heap.size ≤ U.heap.size ∧ ∀ q : Nat, q < s.heap.size → (∀ z ∈ locs, z.base ≠ q) → U.heap[q]? = s.heap[q]? := by
  obtain ⟨-, h2, -, -, -, h6⟩ := h
  refine ⟨h2, fun q hq hz => ?_⟩
  obtain ⟨c9, e1, e2, e3, e4⟩ := h6 q _ (Array.getElem?_eq_getElem hq)
  have hs : c9.slots = (s.heap[q]).slots := Array.ext_getElem? fun i => e4 i fun hm => hz _ hm rfl
  have h9 : c9 = s.heap[q] := by
    rw [hs] at e2
    exact e2
  have e5 : U.heap[q]? = some c9 := e1
  rw [e5, h9, Array.getElem?_eq_getElem hq]
/-- the words of a throw but the four that speak of the heap -/
def vx_no (w : Cond) : Bool := decide (w ≠ .isRef (.static Bundle.tN "UNASSIGNED_STACK" Bundle.steD)) && decide (w ≠ .isRef (.static Bundle.tN "SUPPRESSED_SENTINEL" Bundle.listD)) && decide (w ≠ .laysStatic Bundle.tN "UNASSIGNED_STACK" Bundle.steD) && decide (w ≠ .laysStatic Bundle.tN "SUPPRESSED_SENTINEL" Bundle.listD)
def vx_at0 (own : String) (ic : Nat) (X : String) (names : List String) : List Cond := (Bundle.ownAtoms0 own ic X names).filter vx_no
def vx_atS (own : String) (ic : Nat) (X : String) (names : List String) : List Cond := (Bundle.ownAtoms own ic X names).filter vx_no
/-- a word that the tables alone decide, or a good one -/
def vx_ot (w : Cond) : Bool := w.onTables || goodWord w
theorem vx_ot_at {args a' : Array Value} {s U : State} {w : Cond} (hW : s.WarmedH U.vm) (hvm : s.vm = U.vm) (hg : vx_ot w = true) (h : w.before args s = true) : w.before a' U = true := by
  simp only [vx_ot, Bool.or_eq_true] at hg
  rcases hg with hg | hg
  · exact va_tabs hg hvm h
  · exact word_at hW (good_of_word hg) h
/-- a list's words: the good ones out of the method's own list, the others by premises of their own -/
theorem vx_hat {args : Array Value} {s : State} {L B : List Cond} (h1 : ∀ w ∈ L.filter goodWord, w.before args s = true) (h2 : ∀ w ∈ L.filter (fun w => !goodWord w), w ∈ B) (h3 : ∀ w ∈ B, w.before args s = true) : ∀ w ∈ L, w.before args s = true := by
  intro w hw
  by_cases g : goodWord w = true
  · exact h1 w (List.mem_filter.mpr ⟨hw, g⟩)
  · refine h3 w (h2 w (List.mem_filter.mpr ⟨hw, ?_⟩))
    show (!goodWord w) = true
    cases hgw : goodWord w
    · rfl
    · exact absurd hgw g
theorem vx_c {args : Array Value} {s : State} {w : Cond} {B : List Cond} (h : w.before args s = true) (t : ∀ w ∈ B, w.before args s = true) : ∀ w' ∈ w :: B, w'.before args s = true := fun w' h' => (List.mem_cons.mp h').elim (fun e => by rw [e]; exact h) (t w')
theorem vx_n {args : Array Value} {s : State} : ∀ w ∈ ([] : List Cond), w.before args s = true := fun _ h => nomatch h
theorem vx_own {args : Array Value} {s : State} {L : List Cond} (h1 : ∀ w ∈ L.filter vx_no, w.before args s = true)
    (hU : (Cond.isRef (.static Bundle.tN "UNASSIGNED_STACK" Bundle.steD)).before args s = true) (hN : (Cond.isRef (.static Bundle.tN "SUPPRESSED_SENTINEL" Bundle.listD)).before args s = true)
    (lU : (Cond.laysStatic Bundle.tN "UNASSIGNED_STACK" Bundle.steD).before args s = true) (lN : (Cond.laysStatic Bundle.tN "SUPPRESSED_SENTINEL" Bundle.listD).before args s = true) : ∀ w ∈ L, w.before args s = true := by
  intro w hw
  by_cases e1 : w = .isRef (.static Bundle.tN "UNASSIGNED_STACK" Bundle.steD)
  · rw [e1]; exact hU
  · by_cases e2 : w = .isRef (.static Bundle.tN "SUPPRESSED_SENTINEL" Bundle.listD)
    · rw [e2]; exact hN
    · by_cases e3 : w = .laysStatic Bundle.tN "UNASSIGNED_STACK" Bundle.steD
      · rw [e3]; exact lU
      · by_cases e4 : w = .laysStatic Bundle.tN "SUPPRESSED_SENTINEL" Bundle.listD
        · rw [e4]; exact lN
        · exact h1 w (List.mem_filter.mpr ⟨hw, by unfold vx_no; rw [decide_eq_true e1, decide_eq_true e2, decide_eq_true e3, decide_eq_true e4]; rfl⟩)
/-- where a static field lies, its class's statics cell in H -/
def vx_L (C n d : String) (A : Nat → Prop) (U : State) (H : Heap) : Prop := ∃ (c : ClassId) (k : Class) (i : Nat) (f : Field) (a : Nat) (cell : Cell), U.vm.findClass C = some c ∧ U.fieldFound? C n d = some (c, k, i, f) ∧ f.isStatic = true ∧ k.statics = some a ∧ H[a]? = some cell ∧ cell.vm.isStatics = true ∧ cell.cls = c ∧ f.slot < cell.slots.size ∧ k.staticTypes[f.slot]? = some f.type ∧ ¬ A a
theorem vx_L.moved {C n d : String} {A : Nat → Prop} {u U : State} {H : Heap} (hvm : u.vm.Alike U.vm) (h : vx_L C n d A u H) : vx_L C n d A U H := by
  obtain ⟨c, k, i, f, a, cell, h1, h2, h3, h4, h5, h6, h7, h8, h9, h10⟩ := h
  obtain ⟨k', hi', he⟩ := State.fieldFound?_setVm hvm h2
  exact ⟨c, k', i, f, a, cell, by rw [hvm.findClass]; exact h1, hi', h3, by rw [he]; exact h4, h5, h6, h7, h8, by rw [he]; exact h9, h10⟩
theorem vx_L.kept {C n d : String} {A : Nat → Prop} {U : State} {H H1 : Heap} (h : vx_L C n d A U H) (hq : ∀ a : Nat, a < H.size → ¬ A a → H1[a]? = H[a]?) : vx_L C n d A U H1 := by
  obtain ⟨c, k, i, f, a, cell, h1, h2, h3, h4, h5, h6, h7, h8, h9, h10⟩ := h
  exact ⟨c, k, i, f, a, cell, h1, h2, h3, h4, by rw [hq a (Array.getElem?_eq_some_iff.mp h5).1 h10]; exact h5, h6, h7, h8, h9, h10⟩
theorem vx_L.narrow {C n d : String} {A B : Nat → Prop} {U : State} {H : Heap} (h : vx_L C n d A U H) (hAB : ∀ q, B q → A q) : vx_L C n d B U H := by
  obtain ⟨c, k, i, f, a, cell, h1, h2, h3, h4, h5, h6, h7, h8, h9, h10⟩ := h
  exact ⟨c, k, i, f, a, cell, h1, h2, h3, h4, h5, h6, h7, h8, h9, fun z => h10 (hAB _ z)⟩
theorem vx_L.word {C n d : String} {A : Nat → Prop} {s : State} {args : Array Value} (h : vx_L C n d A s s.heap) : (Cond.laysStatic C n d).before args s = true := by
  obtain ⟨c, k, i, f, a, cell, h1, h2, h3, h4, h5, h6, h7, h8, h9, -⟩ := h
  show (Cond.laysStatic C n d).holds args s none s [] = true
  exact Cond.laysStatic_of h1 h2 h3 h4 h5 h6 h7 h8 h9
/-- .. and what it holds: null or some reference -/
def vx_Zq (C n d : String) (A : Nat → Prop) (U : State) (H : Heap) : Prop := va_Zq C n d A U H ∧ vx_L C n d A U H
theorem vx_Zq.moved {C n d : String} {A : Nat → Prop} {u U : State} {H : Heap} (hvm : u.vm.Alike U.vm) (h : vx_Zq C n d A u H) : vx_Zq C n d A U H := ⟨va_Zq.moved hvm h.1, vx_L.moved hvm h.2⟩
theorem vx_Zq.kept {C n d : String} {A : Nat → Prop} {U : State} {H H1 : Heap} (h : vx_Zq C n d A U H) (hq : ∀ a : Nat, a < H.size → ¬ A a → H1[a]? = H[a]?) : vx_Zq C n d A U H1 := ⟨va_Zq.kept h.1 hq, vx_L.kept h.2 hq⟩
theorem vx_Zq.narrow {C n d : String} {A B : Nat → Prop} {U : State} {H : Heap} (h : vx_Zq C n d A U H) (hAB : ∀ q, B q → A q) : vx_Zq C n d B U H := ⟨va_Zq.narrow h.1 hAB, vx_L.narrow h.2 hAB⟩
theorem vx_Zqof {args : Array Value} {s : State} {C n d : String} {A : Nat → Prop} (hl : (Cond.laysStatic C n d).before args s = true) (hini : (Cond.initialized C).before args s = true) (h : (Cond.isRef (.static C n d)).before args s = true) (hA : ∀ a : Nat, a < s.heap.size → ¬ A a) : vx_Zq C n d A s s.heap := by
  refine ⟨va_Zqof hl hini h hA, ?_⟩
  obtain ⟨c, k, i, f, a, cell, h1, h2, h3, h4, h5, h6, h7, h8, h9⟩ := Cond.laysStatic_spec hl
  exact ⟨c, k, i, f, a, cell, h1, h2, h3, h4, h5, h6, h7, h8, h9, hA a (Array.getElem?_eq_some_iff.mp h5).1⟩
theorem vx_isRef {C n d : String} {v : Value} {A : Nat → Prop} {s : State} {args : Array Value} (h : va_Z C n d v A s s.heap) (hv : v.isRef = true) : (Cond.isRef (.static C n d)).before args s = true := by
  obtain ⟨cf, kf, fi, f, a, cell, h1, h2, h3, h4, h5, h6, h7, -⟩ := h
  have he : (Term.static C n d).eval args s none [] s = some v := by
    simp [Term.eval, State.fieldNamed?, h1, h2, h4, h5, h6, h7]
  simp only [Cond.before, Cond.holds, Cond.value, he]
  cases v <;> simp_all [Value.isRef]
theorem vx_isRefq {C n d : String} {A : Nat → Prop} {s : State} {args : Array Value} (h : va_Zq C n d A s s.heap) : (Cond.isRef (.static C n d)).before args s = true := by
  rcases h with h | ⟨t, h⟩
  · exact vx_isRef h rfl
  · exact vx_isRef h rfl
/-- the same frame, seen from here: as if the method were called anew in this heap -/
theorem vx_rebase {T : State} (X : Stand p l e R s m args below meth c T locs cells slots) {R' : Room} (hf : R'.frames ≤ R.frames) (hl : R'.locals ≤ R.locals) (hc : cells + R'.cells ≤ R.cells) (hs : slots + R'.slots ≤ R.slots) :
    Stand p l e R' ((T.setVm s.vm).setFrames (.invoking m args :: below)) m args below meth c T [] 0 0 := by
  have htop : (T.setVm s.vm).topJava?.isSome := X.here.top
  have hF : ((T.setVm s.vm).setFrames (.invoking m args :: below)).frames = .invoking m args :: below := State.frames_setFrames _ (State.cur_lt_of_top htop)
  obtain ⟨g₀, hg0⟩ := Option.isSome_iff_exists.mp htop
  obtain ⟨r, hr⟩ := State.topJava?_eq_some.mp hg0
  have hl9 : e.platform.stackLimits (T.setVm s.vm).me = e.platform.stackLimits s.me := X.limits
  have hb9 : (T.setVm s.vm).me.stackBytes = s.me.stackBytes := X.bytes
  refine ⟨X.admits, X.cas, X.clock, hF, ?_, X.hears, X.method, X.code, X.here, X.tail, X.warmed, ?_, ?_, ?_⟩
  · have h := X.room
    have hU : ((T.setVm s.vm).setFrames (.invoking m args :: below)).localsInUse = s.localsInUse := by
      rw [State.localsInUse_invoking hF (meth := meth) (c := c) X.method X.code, State.localsInUse_invoking X.frames X.method X.code]
    simp only [State.hasRoom, Bool.and_eq_true, decide_eq_true_eq] at h ⊢
    obtain ⟨⟨⟨⟨h1, h2, h3, h4, h5, h6⟩, h7⟩, h8⟩, h9⟩ := h
    rw [X.frames, List.length_cons] at h2 h3
    have q1 := X.heapSize
    have q2 := X.used
    simp only [hF, hU, List.length_cons, State.stackLimits_setFrames, State.stackBytes_setFrames, hl9, hb9]
    refine ⟨⟨⟨⟨by omega, by omega, by omega, by omega, by omega, h6⟩, ?_⟩, ?_⟩, X.book⟩
    · show T.heap.size + R'.cells ≤ e.platform.maxCells
      omega
    · show T.slotsUsed + R'.slots ≤ e.platform.maxSlots
      omega
  · rw [State.stackLimits_setFrames]; rfl
  · rw [State.stackBytes_setFrames]; rfl
  · refine ⟨?_, Nat.le_refl _, Nat.le_refl _, ?_, ?_, fun a c9 h9 => ⟨c9, h9, rfl, rfl, fun _ _ => rfl⟩⟩
    · obtain ⟨t, ht, -⟩ := State.frames_cons hr
      show T.setVm s.vm = { ((T.setVm s.vm).setFrames (.invoking m args :: below)).setFrames (T.setVm s.vm).frames with heap := T.heap, slotsUsed := T.slotsUsed }
      rw [State.setFrames_setFrames, State.setFrames_self ht]
      rfl
    · show T.slotsUsed = T.slotsUsed + ((T.heap.toList.drop T.heap.size).map (·.slots.size)).sum
      rw [List.drop_eq_nil_of_le (Nat.le_of_eq Array.length_toList)]
      rfl
    · show ((T.heap.toList.drop T.heap.size).map (·.slots.size)).sum ≤ 0
      rw [List.drop_eq_nil_of_le (Nat.le_of_eq Array.length_toList)]
      exact Nat.le_refl _
/-- 'throw new E()': new; dup; invokespecial; athrow -/
theorem vx_throw0 {cc : ByteArray} {pc : Nat} (hexec : p.tables.exec = Jvm.exec) (hb : c.code = cc) (hl : l.stackTraces = false) {own cls : String} {names : List String} {ik ic mc ms : Nat} {A : Nat → Prop}
    (hown : s.vm.findClass own = some m.cls) (hcls : Bundle.fit cls = true) (hnames : ∀ n ∈ names, Bundle.fit n = true)
    (hk : (Cond.classLink own ik cls).before args s = true) (hini : (Cond.initialized cls).before args s = true) (hat : ∀ w ∈ vx_at0 own ic cls names, w.before args s = true)
    (hgood : ∀ w ∈ Cond.classLink own ik cls :: Cond.initialized cls :: vx_at0 own ic cls names, vx_ot w = true)
    (hU : vx_Zq Bundle.tN "UNASSIGNED_STACK" Bundle.steD A s s.heap) (hN : vx_Zq Bundle.tN "SUPPRESSED_SENTINEL" Bundle.listD A s s.heap) (hS : va_S A s.heap H locs) (hsize : ls.size = c.maxLocals)
    (d0 : decode cc pc = .ok (.new ik, 3)) (d3 : decode cc (pc + 3) = .ok (.dup, 1)) (d4 : decode cc (pc + 4) = .ok (.invokespecial ic, 3)) (d7 : decode cc (pc + 7) = .ok (.athrow, 1))
    (hout : ∀ x ∈ c.exceptionTable.toList, covers x (pc + 7) = false)
    (hRframes : names.length + 3 < R.frames) (hRlocals : (rest.map fun v => v.category).sum + (13 * (names.length + 1) + 42) ≤ R.locals) (hRcells : cells + 1 ≤ R.cells) (hRslots : slots + 6 ≤ R.slots) (hlocks : meth.locks = false)
    (hx : ∀ t : State, s.vm.Alike t.vm → H.size ≤ t.heap.size → (∀ q : Nat, q < H.size → t.heap[q]? = H[q]?) → XC cls s t)
    (hf : ∀ z ∈ locs, free z.base) (hc : cells + 1 ≤ mc) (hs : slots + 6 ≤ ms) :
    W p l e R s m args below meth c H locs cells slots (vx_MQ below Qc XC args s mc ms free) (F0 m pc ls rest) := by
  intro T hT X
  have htr : e.platform.stackTraces = false := (show e.platform.stackTraces = l.stackTraces by rw [X.admits.platform]).trans hl
  have Y := vx_rebase X (R' := { frames := R.frames, locals := R.locals, cells := 1, slots := 6 }) (Nat.le_refl _) (Nat.le_refl _) hRcells hRslots
  obtain ⟨s', hA⟩ : ∃ z, z = (T.setVm s.vm).setFrames (.invoking m args :: below) := ⟨_, rfl⟩
  rw [← hA] at Y
  have hvm : s'.vm = s.vm := by rw [hA]; rfl
  have hhp : s'.heap = H := by rw [hA]; exact hT
  have hW0 : s.WarmedH s'.vm := by rw [hvm]; exact State.WarmedH.refl s
  have hat' : ∀ w ∈ vx_at0 own ic cls names, w.before args s' = true := fun w hw => vx_ot_at hW0 hvm.symm (hgood w (List.mem_cons_of_mem _ (List.mem_cons_of_mem _ hw))) (hat w hw)
  have hk' : (Cond.classLink own ik cls).before args s' = true := vx_ot_at hW0 hvm.symm (hgood _ List.mem_cons_self) hk
  have hini' : (Cond.initialized cls).before args s' = true := vx_ot_at hW0 hvm.symm (hgood _ (List.mem_cons_of_mem _ List.mem_cons_self)) hini
  have hU' : vx_Zq Bundle.tN "UNASSIGNED_STACK" Bundle.steD A s' s'.heap := by rw [hhp]; exact vx_Zq.moved hW0.alike (hU.kept hS.2.1)
  have hN' : vx_Zq Bundle.tN "SUPPRESSED_SENTINEL" Bundle.listD A s' s'.heap := by rw [hhp]; exact vx_Zq.moved hW0.alike (hN.kept hS.2.1)
  have h : ∀ w ∈ Bundle.ownAtoms0 own ic cls names, w.before args s' = true := vx_own hat' (vx_isRefq hU'.1) (vx_isRefq hN'.1) hU'.2.word hN'.2.word
  have hown' : s'.vm.findClass own = some m.cls := by rw [hvm]; exact hown
  have hins : (Cond.instantiable cls 6).before args s' = true := h _ (by simp [Bundle.ownAtoms0])
  obtain ⟨vm₁, cX, kX, hfX, hkX, -, -, X₁, st1⟩ := Y.newCold hexec (own := own) (C := cls) (index := ik) (n := 6) hown' hk' hins hini'
    (g := F0 m pc ls rest) rfl (by rw [hb]; exact d0) (Nat.le_refl _) (Nat.le_refl _)
  generalize hT1 : (T.setVm vm₁).pushCell { cls := cX, slots := kX.instanceTypes.map defaultValue, vm := .none } = T1 at X₁ st1
  have hcat : (Value.ref T.heap.size).category = 1 := rfl
  have hcellA : T1.heap[T.heap.size]? = some (freshCell cX kX) := by rw [← hT1]; exact State.heap_pushCell_size _ _
  have d3' : decode c.code (pc + 3) = .ok (.dup, 1) := by rw [hb]; exact d3
  obtain ⟨U, hsteps, hrun, hend, hW, hsame, ce, hce, hO⟩ := X₁.ctorThrow0 hexec htr (own := own) (cls := cls) (names := names) (ic := ic) hown' hcls hnames h (fun x hx => nomatch hx) hfX hkX hcellA (by rw [hhp, hT]; exact Nat.le_refl _)
    (g := { method := m, pc := pc + 4, locals := ls, stack := .ref T.heap.size :: .ref T.heap.size :: rest, locked := none }) rfl hsize rfl rfl (rest := rest) rfl
    (by rw [hb]; exact d4) (by rw [hb]; exact d7) hout hRframes (by simp only [List.map_cons, List.sum_cons, hcat]; omega) hlocks
  obtain ⟨f1, f2⟩ := vx_frame hsame
  rw [hhp] at f1 f2
  have hWs : s.WarmedH U.vm := State.WarmedH.trans hW0 hW
  have hcl : s.vm.findClass cls = some ce.cls := by
    have h9 := hO.cls
    rw [hvm] at h9
    exact h9
  have hall : s.sameButNew ({ U with vm := s.vm } : State) locs mc ms := by
    subst hA
    obtain ⟨e1, e2⟩ := hsame
    rw [State.setFrames_setFrames] at e1
    have h2 : (T.setVm s.vm).sameButNew ({ U with vm := s.vm } : State) [] (0 + 1) (0 + 6) := ⟨e1, e2⟩
    have h3 := X.same.trans h2
    rw [List.append_nil] at h3
    exact h3.mono hc hs
  refine ⟨U, ?_, .threw T.heap.size, hrun, hend, Or.inr ⟨T.heap.size, rfl, cls, ce, locs, hx U hWs.alike f1 (fun q hq => f2 q hq (fun z hz => nomatch hz)), hce, hO.vm, hcl, hWs, hall, hf⟩⟩
  refine st1 _ ?_
  show Steps p.tables e below (T1.setTop { method := m, pc := pc + 3, locals := ls, stack := .ref T.heap.size :: rest, locked := none }) _
  jvm_step X₁.here [X₁.here.top, hexec, d3', Value.category]
  exact hsteps
/-- 'throw new E("text")': new; dup; ldc; invokespecial; athrow -/
theorem vx_throwS {cc : ByteArray} {pc : Nat} (hexec : p.tables.exec = Jvm.exec) (hb : c.code = cc) (hl : l.stackTraces = false) {own cls text : String} {names : List String} {ik is ic mc ms sa : Nat} {A : Nat → Prop}
    (hown : s.vm.findClass own = some m.cls) (hcls : Bundle.fit cls = true) (hnames : ∀ n ∈ names, Bundle.fit n = true)
    (hk : (Cond.classLink own ik cls).before args s = true) (hini : (Cond.initialized cls).before args s = true) (hstr : vk_R own is text sa s) (hat : ∀ w ∈ vx_atS own ic cls names, w.before args s = true)
    (hgood : ∀ w ∈ Cond.classLink own ik cls :: Cond.initialized cls :: vx_atS own ic cls names, vx_ot w = true)
    (hU : vx_Zq Bundle.tN "UNASSIGNED_STACK" Bundle.steD A s s.heap) (hN : vx_Zq Bundle.tN "SUPPRESSED_SENTINEL" Bundle.listD A s s.heap) (hS : va_S A s.heap H locs) (hsize : ls.size = c.maxLocals)
    (d0 : decode cc pc = .ok (.new ik, 3)) (d3 : decode cc (pc + 3) = .ok (.dup, 1)) (d4 : decode cc (pc + 4) = .ok (.ldc is, 2)) (d6 : decode cc (pc + 6) = .ok (.invokespecial ic, 3)) (d9 : decode cc (pc + 9) = .ok (.athrow, 1))
    (hout : ∀ x ∈ c.exceptionTable.toList, covers x (pc + 9) = false)
    (hRframes : names.length + 3 < R.frames) (hRlocals : (rest.map fun v => v.category).sum + (13 * (names.length + 1) + 43) ≤ R.locals) (hRcells : cells + 1 ≤ R.cells) (hRslots : slots + 6 ≤ R.slots) (hlocks : meth.locks = false)
    (hx : ∀ t : State, s.vm.Alike t.vm → H.size ≤ t.heap.size → (∀ q : Nat, q < H.size → t.heap[q]? = H[q]?) → XC cls s t)
    (hf : ∀ z ∈ locs, free z.base) (hc : cells + 1 ≤ mc) (hs : slots + 6 ≤ ms) :
    W p l e R s m args below meth c H locs cells slots (vx_MQ below Qc XC args s mc ms free) (F0 m pc ls rest) := by
  intro T hT X
  have htr : e.platform.stackTraces = false := (show e.platform.stackTraces = l.stackTraces by rw [X.admits.platform]).trans hl
  have Y := vx_rebase X (R' := { frames := R.frames, locals := R.locals, cells := 1, slots := 6 }) (Nat.le_refl _) (Nat.le_refl _) hRcells hRslots
  obtain ⟨s', hA⟩ : ∃ z, z = (T.setVm s.vm).setFrames (.invoking m args :: below) := ⟨_, rfl⟩
  rw [← hA] at Y
  have hvm : s'.vm = s.vm := by rw [hA]; rfl
  have hhp : s'.heap = H := by rw [hA]; exact hT
  have hW0 : s.WarmedH s'.vm := by rw [hvm]; exact State.WarmedH.refl s
  have hat' : ∀ w ∈ vx_atS own ic cls names, w.before args s' = true := fun w hw => vx_ot_at hW0 hvm.symm (hgood w (List.mem_cons_of_mem _ (List.mem_cons_of_mem _ hw))) (hat w hw)
  have hk' : (Cond.classLink own ik cls).before args s' = true := vx_ot_at hW0 hvm.symm (hgood _ List.mem_cons_self) hk
  have hini' : (Cond.initialized cls).before args s' = true := vx_ot_at hW0 hvm.symm (hgood _ (List.mem_cons_of_mem _ List.mem_cons_self)) hini
  have hU' : vx_Zq Bundle.tN "UNASSIGNED_STACK" Bundle.steD A s' s'.heap := by rw [hhp]; exact vx_Zq.moved hW0.alike (hU.kept hS.2.1)
  have hN' : vx_Zq Bundle.tN "SUPPRESSED_SENTINEL" Bundle.listD A s' s'.heap := by rw [hhp]; exact vx_Zq.moved hW0.alike (hN.kept hS.2.1)
  have h : ∀ w ∈ Bundle.ownAtoms own ic cls names, w.before args s' = true := vx_own hat' (vx_isRefq hU'.1) (vx_isRefq hN'.1) hU'.2.word hN'.2.word
  have hown' : s'.vm.findClass own = some m.cls := by rw [hvm]; exact hown
  have hins : (Cond.instantiable cls 6).before args s' = true := h _ (by simp [Bundle.ownAtoms])
  obtain ⟨vm₁, cX, kX, hfX, hkX, -, -, X₁, st1⟩ := Y.newCold hexec (own := own) (C := cls) (index := ik) (n := 6) hown' hk' hins hini'
    (g := F0 m pc ls rest) rfl (by rw [hb]; exact d0) (Nat.le_refl _) (Nat.le_refl _)
  generalize hT1 : (T.setVm vm₁).pushCell { cls := cX, slots := kX.instanceTypes.map defaultValue, vm := .none } = T1 at X₁ st1
  have hcat : (Value.ref T.heap.size).category = 1 := rfl
  have hcellA : T1.heap[T.heap.size]? = some (freshCell cX kX) := by rw [← hT1]; exact State.heap_pushCell_size _ _
  have d3' : decode c.code (pc + 3) = .ok (.dup, 1) := by rw [hb]; exact d3
  have d4' : decode c.code (pc + 4) = .ok (.ldc is, 2) := by rw [hb]; exact d4
  have hstr' : vk_R own is text sa s' := vk_R.warm hW0 hstr
  obtain ⟨U, hsteps, hrun, hend, hW, hsame, ce, hce, hO⟩ := X₁.ctorThrowS hexec htr (own := own) (cls := cls) (names := names) (ic := ic) hown' hcls hnames h (fun x hx => nomatch hx) hfX hkX hcellA (by rw [hhp, hT]; exact Nat.le_refl _) (msg := .ref sa) rfl
    (g := { method := m, pc := pc + 6, locals := ls, stack := .ref sa :: .ref T.heap.size :: .ref T.heap.size :: rest, locked := none }) rfl hsize rfl rfl (rest := rest) rfl
    (by rw [hb]; exact d6) (by rw [hb]; exact d9) hout hRframes (by simp only [List.map_cons, List.sum_cons, hcat]; omega) hlocks
  obtain ⟨f1, f2⟩ := vx_frame hsame
  rw [hhp] at f1 f2
  have hWs : s.WarmedH U.vm := State.WarmedH.trans hW0 hW
  have hcl : s.vm.findClass cls = some ce.cls := by
    have h9 := hO.cls
    rw [hvm] at h9
    exact h9
  have hall : s.sameButNew ({ U with vm := s.vm } : State) locs mc ms := by
    subst hA
    obtain ⟨e1, e2⟩ := hsame
    rw [State.setFrames_setFrames] at e1
    have h2 : (T.setVm s.vm).sameButNew ({ U with vm := s.vm } : State) [] (0 + 1) (0 + 6) := ⟨e1, e2⟩
    have h3 := X.same.trans h2
    rw [List.append_nil] at h3
    exact h3.mono hc hs
  refine ⟨U, ?_, .threw T.heap.size, hrun, hend, Or.inr ⟨T.heap.size, rfl, cls, ce, locs, hx U hWs.alike f1 (fun q hq => f2 q hq (fun z hz => nomatch hz)), hce, hO.vm, hcl, hWs, hall, hf⟩⟩
  refine st1 _ ?_
  show Steps p.tables e below (T1.setTop { method := m, pc := pc + 3, locals := ls, stack := .ref T.heap.size :: rest, locked := none }) _
  jvm_step X₁.here [X₁.here.top, hexec, d3', Value.category]
  exact X₁.ldcString hexec (own := own) (text := text) (index := is) (a := sa) hown' hstr'.1 hstr'.2
    (g := { method := m, pc := pc + 4, locals := ls, stack := .ref T.heap.size :: .ref T.heap.size :: rest, locked := none }) rfl d4' _ hsteps
/-- 'throw new E("text")', the text by a wide index -/
theorem vx_throwSW {cc : ByteArray} {pc : Nat} (hexec : p.tables.exec = Jvm.exec) (hb : c.code = cc) (hl : l.stackTraces = false) {own cls text : String} {names : List String} {ik is ic mc ms sa : Nat} {A : Nat → Prop}
    (hown : s.vm.findClass own = some m.cls) (hcls : Bundle.fit cls = true) (hnames : ∀ n ∈ names, Bundle.fit n = true)
    (hk : (Cond.classLink own ik cls).before args s = true) (hini : (Cond.initialized cls).before args s = true) (hstr : vk_R own is text sa s) (hat : ∀ w ∈ vx_atS own ic cls names, w.before args s = true)
    (hgood : ∀ w ∈ Cond.classLink own ik cls :: Cond.initialized cls :: vx_atS own ic cls names, vx_ot w = true)
    (hU : vx_Zq Bundle.tN "UNASSIGNED_STACK" Bundle.steD A s s.heap) (hN : vx_Zq Bundle.tN "SUPPRESSED_SENTINEL" Bundle.listD A s s.heap) (hS : va_S A s.heap H locs) (hsize : ls.size = c.maxLocals)
    (d0 : decode cc pc = .ok (.new ik, 3)) (d3 : decode cc (pc + 3) = .ok (.dup, 1)) (d4 : decode cc (pc + 4) = .ok (.ldc_w is, 3)) (d7 : decode cc (pc + 7) = .ok (.invokespecial ic, 3)) (d10 : decode cc (pc + 10) = .ok (.athrow, 1))
    (hout : ∀ x ∈ c.exceptionTable.toList, covers x (pc + 10) = false)
    (hRframes : names.length + 3 < R.frames) (hRlocals : (rest.map fun v => v.category).sum + (13 * (names.length + 1) + 43) ≤ R.locals) (hRcells : cells + 1 ≤ R.cells) (hRslots : slots + 6 ≤ R.slots) (hlocks : meth.locks = false)
    (hx : ∀ t : State, s.vm.Alike t.vm → H.size ≤ t.heap.size → (∀ q : Nat, q < H.size → t.heap[q]? = H[q]?) → XC cls s t)
    (hf : ∀ z ∈ locs, free z.base) (hc : cells + 1 ≤ mc) (hs : slots + 6 ≤ ms) :
    W p l e R s m args below meth c H locs cells slots (vx_MQ below Qc XC args s mc ms free) (F0 m pc ls rest) := by
  intro T hT X
  have htr : e.platform.stackTraces = false := (show e.platform.stackTraces = l.stackTraces by rw [X.admits.platform]).trans hl
  have Y := vx_rebase X (R' := { frames := R.frames, locals := R.locals, cells := 1, slots := 6 }) (Nat.le_refl _) (Nat.le_refl _) hRcells hRslots
  obtain ⟨s', hA⟩ : ∃ z, z = (T.setVm s.vm).setFrames (.invoking m args :: below) := ⟨_, rfl⟩
  rw [← hA] at Y
  have hvm : s'.vm = s.vm := by rw [hA]; rfl
  have hhp : s'.heap = H := by rw [hA]; exact hT
  have hW0 : s.WarmedH s'.vm := by rw [hvm]; exact State.WarmedH.refl s
  have hat' : ∀ w ∈ vx_atS own ic cls names, w.before args s' = true := fun w hw => vx_ot_at hW0 hvm.symm (hgood w (List.mem_cons_of_mem _ (List.mem_cons_of_mem _ hw))) (hat w hw)
  have hk' : (Cond.classLink own ik cls).before args s' = true := vx_ot_at hW0 hvm.symm (hgood _ List.mem_cons_self) hk
  have hini' : (Cond.initialized cls).before args s' = true := vx_ot_at hW0 hvm.symm (hgood _ (List.mem_cons_of_mem _ List.mem_cons_self)) hini
  have hU' : vx_Zq Bundle.tN "UNASSIGNED_STACK" Bundle.steD A s' s'.heap := by rw [hhp]; exact vx_Zq.moved hW0.alike (hU.kept hS.2.1)
  have hN' : vx_Zq Bundle.tN "SUPPRESSED_SENTINEL" Bundle.listD A s' s'.heap := by rw [hhp]; exact vx_Zq.moved hW0.alike (hN.kept hS.2.1)
  have h : ∀ w ∈ Bundle.ownAtoms own ic cls names, w.before args s' = true := vx_own hat' (vx_isRefq hU'.1) (vx_isRefq hN'.1) hU'.2.word hN'.2.word
  have hown' : s'.vm.findClass own = some m.cls := by rw [hvm]; exact hown
  have hins : (Cond.instantiable cls 6).before args s' = true := h _ (by simp [Bundle.ownAtoms])
  obtain ⟨vm₁, cX, kX, hfX, hkX, -, -, X₁, st1⟩ := Y.newCold hexec (own := own) (C := cls) (index := ik) (n := 6) hown' hk' hins hini'
    (g := F0 m pc ls rest) rfl (by rw [hb]; exact d0) (Nat.le_refl _) (Nat.le_refl _)
  generalize hT1 : (T.setVm vm₁).pushCell { cls := cX, slots := kX.instanceTypes.map defaultValue, vm := .none } = T1 at X₁ st1
  have hcat : (Value.ref T.heap.size).category = 1 := rfl
  have hcellA : T1.heap[T.heap.size]? = some (freshCell cX kX) := by rw [← hT1]; exact State.heap_pushCell_size _ _
  have d3' : decode c.code (pc + 3) = .ok (.dup, 1) := by rw [hb]; exact d3
  have d4' : decode c.code (pc + 4) = .ok (.ldc_w is, 3) := by rw [hb]; exact d4
  have hstr' : vk_R own is text sa s' := vk_R.warm hW0 hstr
  obtain ⟨U, hsteps, hrun, hend, hW, hsame, ce, hce, hO⟩ := X₁.ctorThrowS hexec htr (own := own) (cls := cls) (names := names) (ic := ic) hown' hcls hnames h (fun x hx => nomatch hx) hfX hkX hcellA (by rw [hhp, hT]; exact Nat.le_refl _) (msg := .ref sa) rfl
    (g := { method := m, pc := pc + 7, locals := ls, stack := .ref sa :: .ref T.heap.size :: .ref T.heap.size :: rest, locked := none }) rfl hsize rfl rfl (rest := rest) rfl
    (by rw [hb]; exact d7) (by rw [hb]; exact d10) hout hRframes (by simp only [List.map_cons, List.sum_cons, hcat]; omega) hlocks
  obtain ⟨f1, f2⟩ := vx_frame hsame
  rw [hhp] at f1 f2
  have hWs : s.WarmedH U.vm := State.WarmedH.trans hW0 hW
  have hcl : s.vm.findClass cls = some ce.cls := by
    have h9 := hO.cls
    rw [hvm] at h9
    exact h9
  have hall : s.sameButNew ({ U with vm := s.vm } : State) locs mc ms := by
    subst hA
    obtain ⟨e1, e2⟩ := hsame
    rw [State.setFrames_setFrames] at e1
    have h2 : (T.setVm s.vm).sameButNew ({ U with vm := s.vm } : State) [] (0 + 1) (0 + 6) := ⟨e1, e2⟩
    have h3 := X.same.trans h2
    rw [List.append_nil] at h3
    exact h3.mono hc hs
  refine ⟨U, ?_, .threw T.heap.size, hrun, hend, Or.inr ⟨T.heap.size, rfl, cls, ce, locs, hx U hWs.alike f1 (fun q hq => f2 q hq (fun z hz => nomatch hz)), hce, hO.vm, hcl, hWs, hall, hf⟩⟩
  refine st1 _ ?_
  show Steps p.tables e below (T1.setTop { method := m, pc := pc + 3, locals := ls, stack := .ref T.heap.size :: rest, locked := none }) _
  jvm_step X₁.here [X₁.here.top, hexec, d3', Value.category]
  exact X₁.ldcStringW hexec (own := own) (text := text) (index := is) (a := sa) hown' hstr'.1 hstr'.2
    (g := { method := m, pc := pc + 4, locals := ls, stack := .ref T.heap.size :: .ref T.heap.size :: rest, locked := none }) rfl d4' _ hsteps
end Ends
section Bodies
variable {l : Launch}
theorem vx_ofW {y : MethodName} {ws ws' : List Cond} {rm : Room} {Pc : Array Value → State → Prop} {Qc : Array Value → State → Outcome → State → Prop} {XC : String → State → State → Prop} {mc ms : Nat} {free : Addr → Prop} {cc : ByteArray} {maxL : Nat} {ret : Option FieldType}
    (hy : plainName y.cls = true) (hw : ws = Cond.code y cc maxL ret :: ws')
    (body : ∀ p e s m args below meth c s₁, BodyLoose p l y (headSpec ws rm) cc maxL ret e s m args below meth c s₁ → c.maxLocals = maxL → (∀ x ∈ c.exceptionTable.toList, False) → Pc args s →
      W p l e (headSpec ws rm).room s m args below meth c s.heap [] 0 0 (vx_MQ below Qc XC args s mc ms free) (entryFrame m args maxL)) : vx_Met l y ws rm Pc Qc XC mc ms free := by
  refine MetFree.of_bodyS (code := cc) (maxLocals := maxL) (ret := ret) hy ?_ ?_
  · intro args s m h hn
    obtain ⟨meth, c, h1, h2, h3, h4, h5, h6, -, -⟩ := Cond.code_spec hn (atoms_spec (ws := ws) h _ (by rw [hw]; exact List.mem_cons_self))
    exact ⟨meth, c, h1, h2, h3, h4, h5, h6⟩
  · intro p e s m args below meth c s₁ B hml hP _
    have hh0 : s₁.heap = s.heap := by rw [B.state]; rfl
    have ht : ∀ x ∈ c.exceptionTable.toList, False := by
      obtain ⟨meth9, c9, h1, h2, -, -, -, -, h7, -⟩ := Cond.code_spec B.named (atoms_spec (ws := ws) B.pre _ (by rw [hw]; exact List.mem_cons_self))
      cases Option.some.inj (h1.symm.trans B.method)
      cases Option.some.inj (h2.symm.trans (Stand.of_body B).code)
      intro x hx
      rw [Array.isEmpty_iff.mp h7] at hx
      cases hx
    obtain ⟨t, a1, o, b1, b2, b3⟩ := body p e s m args below meth c s₁ B hml ht hP s₁ hh0 (Stand.of_body B)
    exact ⟨t, o, a1, b1, b2, b3⟩
/-- the table of a body with handlers -/
theorem vx_table {p : Program} {x y : MethodName} {S : Spec} {cc bytes : ByteArray} {maxL maxL' : Nat} {ret ret' : Option FieldType} {e : Env} {s s₁ : State} {m : MethodId} {args : Array Value} {below : List Frame} {meth : Method} {c : Code} {hh : List (Nat × Nat × Nat × Nat)}
    (B : BodyLoose p l y S cc maxL ret e s m args below meth c s₁) (h : (Cond.codeWith y bytes maxL' ret' hh).before args s = true) : c.exceptionTable.toList = tableOf hh := by
  obtain ⟨m9, meth9, c9, hn9, h1, h2, -, -, h6, -⟩ := Cond.codeWith_spec h
  cases Option.some.inj (hn9.symm.trans B.named)
  cases Option.some.inj (h1.symm.trans B.method)
  cases Option.some.inj (h2.symm.trans (Stand.of_body B).code)
  rw [← h6, table_eq]
end Bodies
end VXA
/-! ===== END ===== -/
/-! ===== BEGIN a static call of a method with an exception table ===== -/
section VXS
variable {p : Program} {l : Launch} {e : Env} {R : Room} {s : State} {m : MethodId} {args : Array Value} {below : List Frame} {meth : Method} {c : Code} {T : State} {H : Heap} {locs : List Loc} {cells slots : Nat}
abbrev vx_CSW (R : Room) (s : State) (args : Array Value) (own : String) (index : Nat) (y : MethodName) (bytes : ByteArray) (maxL : Nat) (ret : Option FieldType) (hh : List (Nat × Nat × Nat × Nat)) (ws : List Cond) (rm : Room) (mc ms n : Nat) : Prop :=
  (rm.cells = mc ∧ rm.slots = ms ∧ rm.frames + 1 ≤ R.frames ∧ 8 + (maxL + 11) + rm.locals ≤ R.locals ∧ (∀ w ∈ ws, ∀ (a' : Array Value) (U : State), s.WarmedH U.vm → w.before a' U = true) ∧ Cond.codeWith y bytes maxL ret hh ∈ ws) ∧
  (Cond.codeWith y bytes maxL ret hh).before args s = true ∧ (Cond.initialized y.cls).before args s = true ∧ (y.cls ≠ "java/lang/invoke/MethodHandle" ∧ y.cls ≠ "java/lang/invoke/VarHandle") ∧
  (∀ sig, parseMethodDescriptor y.desc = some sig → n = sig.parameters.length) ∧ (Cond.methodLink own index y).before args s = true ∧ (Cond.static y).before args s = true
theorem vx_cwSW {own : String} {index maxL mc ms : Nat} {y : MethodName} {bytes : ByteArray} {ret : Option FieldType} {hh : List (Nat × Nat × Nat × Nat)} {Ts ws ws' : List Cond} {rm : Room} (n : Nat) (ht : ∀ w ∈ Ts, w.before args s = true) (hT : GoodIn Ts (va_wsS own index y ws)) (hw : ws = Cond.codeWith y bytes maxL ret hh :: ws') (hrc : rm.cells = mc) (hrs : rm.slots = ms)
    (hd : y.cls ≠ "java/lang/invoke/MethodHandle" ∧ y.cls ≠ "java/lang/invoke/VarHandle" ∧ (parseMethodDescriptor y.desc).map (fun d => d.parameters.length) = some n) (hR : rm.frames + 1 ≤ R.frames ∧ 8 + (maxL + 11) + rm.locals ≤ R.locals) :
    vx_CSW R s args own index y bytes maxL ret hh ws rm mc ms n := by
  have ok : ∀ w ∈ va_wsS own index y ws, w.before args s = true := fun w h => ht w (hT w h).1
  have hG : GoodIn Ts ws := fun w h => hT w (by unfold va_wsS; exact List.mem_append_right _ h)
  have hc : Cond.codeWith y bytes maxL ret hh ∈ ws := by rw [hw]; exact List.mem_cons_self
  refine ⟨⟨hrc, hrs, hR.1, hR.2, pay_in ht hG, hc⟩, ht _ (hG _ hc).1, ok _ (by simp [va_wsS]), ⟨hd.1, hd.2.1⟩, fun sig h => ?_, ok _ (by simp [va_wsS]), ok _ (by simp [va_wsS])⟩
  have h2 := hd.2.2
  rw [h] at h2
  exact (Option.some.inj h2).symm
theorem vx_callSW (X : Stand p l e R s m args below meth c T locs cells slots) (hexec : p.tables.exec = Jvm.exec) {own : String} {index : Nat} {y : MethodName} {bytes : ByteArray} {maxL : Nat} {ret : Option FieldType} {hh : List (Nat × Nat × Nat × Nat)}
    (hown : s.vm.findClass own = some m.cls) (hlink : (Cond.methodLink own index y).before args s = true) (hstat : (Cond.static y).before args s = true) (hinit : (Cond.initialized y.cls).before args s = true)
    (hcode : (Cond.codeWith y bytes maxL ret hh).before args s = true) (hy : y.cls ≠ "java/lang/invoke/MethodHandle" ∧ y.cls ≠ "java/lang/invoke/VarHandle")
    {W9 : Nat} {Pre : Pt → Array Value → Prop} {Post : Pt → Array Value → Option Value → Pt → Prop} (hK : Back l R p e below s args y 3 W9 Pre Post)
    {g : JFrame} (hg : g.method = m) (hsize : g.locals.size = c.maxLocals) {argsL rest : List Value} (hlen : ∀ sig, parseMethodDescriptor y.desc = some sig → argsL.length = sig.parameters.length)
    (hstack : g.stack = argsL.reverse ++ rest) (hW : 2 * g.monitorRoom + (rest.map fun v => v.category).sum ≤ W9) (hdg : decode c.code g.pc = .ok (.invokestatic index, 3))
    (hpre : ∀ vm₁, s.WarmedH vm₁ → Pre ⟨T.setVm vm₁, locs, cells, slots⟩ argsL.toArray) :
    ∃ (v : Option Value) (vm₁ : Vm) (B : Pt), s.WarmedH vm₁ ∧ Stand p l e R s m args below meth c B.U B.locs B.cells B.slots ∧ Post ⟨T.setVm vm₁, locs, cells, slots⟩ argsL.toArray v B ∧
      ∀ target, Steps p.tables e below (B.U.setTop { g with pc := g.pc + 3, stack := v.toList ++ rest }) target → Steps p.tables e below (T.setTop g) target := by
  obtain ⟨mk, methM, cM, hnamed, hmethM, -, -, -, -, -, -, hsigM⟩ := Cond.codeWith_spec hcode
  have hstatic : methM.isStatic = true := Cond.static_spec hnamed hmethM hstat
  obtain ⟨kP, hkP, -⟩ := className_of_methodNamed hnamed
  have hinitP : kP.init = .initialized := Cond.initialized_spec (findClass_of_methodNamed hnamed) hkP hinit
  obtain ⟨vm₁, X₁, hstep₁⟩ := X.invokestatic hexec hown hlink hnamed hmethM hstatic hkP hinitP hy (g := g) hg (argsL := argsL) (rest := rest) (hlen _ hsigM) hstack hdg
  obtain ⟨v, B, X', hpost, hsteps⟩ := hK m meth c ⟨T.setVm vm₁, locs, cells, slots⟩ { g with stack := rest } (.invokestatic index) mk argsL.toArray X₁ hg hsize hdg hW (X₁.named hnamed) (hpre vm₁ X₁.warmed)
  exact ⟨v, vm₁, B, X₁.warmed, X', hpost, fun target h => hstep₁ _ fun acts => by rw [doInvoke_state]; exact hsteps.trans h⟩
theorem vx_runSW {y : MethodName} {bytes cc : ByteArray} {maxL nL mc ms n index : Nat} {ret : Option FieldType} {hh : List (Nat × Nat × Nat × Nat)} {ws : List Cond} {rm : Room} {Pc : Array Value → State → Prop} {Qc : Array Value → State → Outcome → State → Prop} {free : Addr → Prop} {Ts : List Cond} {own : String} {As rest : List Value} {g : JFrame}
    (S : CallFix p m c cc nL s args Ts own) (hM : Met l y ws rm Pc Qc mc ms free) (cw : vx_CSW R s args own index y bytes maxL ret hh ws rm mc ms n) (hp : PreS s H Pc As)
    (hg : g.method = m) (hn : As.length = n) (hsize : g.locals.size = nL) (hstack : g.stack = As.reverse ++ rest) (hW : 2 * g.monitorRoom + (rest.map fun v => v.category).sum ≤ 8) (hdg : decode cc g.pc = .ok (.invokestatic index, 3)) (hf : cells + mc ≤ R.cells ∧ slots + ms ≤ R.slots) :
    va_Run p l e R s m args below meth c H locs cells slots mc ms g rest (Qc As.toArray) (free) := by
  obtain ⟨⟨hrc, hrs, hfr, hlo, hws, hcw⟩, hcode, hini, hy, hlen, hl, hstt⟩ := cw
  have hK : Back l R p e below s args y 3 8 (PreOf R mc ms Pc) (PostOf Qc mc ms free) := va_backW (hh := hh) (bytes := bytes) (maxL := maxL) (ret := ret) hM hp.1 hrc hrs hfr hlo hws hcw (fun a' U hW => word_at hW (Or.inl (by first | rfl | simp [Cond.onTables, Cond.keeps, Cond.steady])) hini)
  obtain ⟨hx, hb, hml, ho, -⟩ := S
  intro T hT X
  obtain ⟨v, vm₁, ⟨U', l2, c2, s2⟩, hW₁, X', ⟨g', mk, t, L, e1, e2, hq, h1, hL, h2, h3⟩, st⟩ := vx_callSW X hx (hh := hh) (bytes := bytes) (maxL := maxL) (ret := ret) ho hl hstt hini hcode hy hK hg (hsize.trans hml.symm) (argsL := As) (rest := rest) (fun sig h => hn.trans (hlen sig h)) hstack hW (by rw [hb]; exact hdg)
    (fun vm₁ hW₁ => ⟨hf.1, hf.2, hp.2 (T.setVm vm₁) hT hW₁⟩)
  dsimp only [Pt.U, Pt.locs, Pt.cells, Pt.slots] at X' e1 e2 h1 h2 h3 st
  subst h1; subst h2; subst h3
  exact ⟨v, (T.setVm vm₁).calling g' mk As.toArray, t, U', L, hT, X', hL, e1, e2, hq, st⟩
/-- not caught here, past rows that name other classes: it goes on to the caller -/
theorem vx_outP {p : Program} {l : Launch} {e : Env} {R : Room} {s : State} {m : MethodId} {args : Array Value} {below : List Frame} {meth : Method} {c : Code} {H : Heap} {locs : List Loc} {cells slots : Nat} {free : Addr → Prop} {ls : Array Slot} {rest : List Value} {Qc : Array Value → State → Outcome → State → Prop} {XC : String → State → State → Prop}
    {pc : Nat} {own E : String} {ce : Cell} {q : Addr} {mc ms : Nat} (hown : s.vm.findClass own = some m.cls) (hlocks : meth.locks = false)
    (hpass : ∀ z ∈ c.exceptionTable.toList, covers z pc = false ∨ (z.catchType ≠ 0 ∧ ∃ nm : String, (Cond.classLink own z.catchType nm).before args s = true ∧ va_Nc E nm s)) (hcell : H[q]? = some ce) (hv : ce.vm = .none) (hcl : s.vm.findClass E = some ce.cls)
    (hx : ∀ t : State, t.heap = H → s.vm.Alike t.vm → XC E s t) (hf : ∀ z ∈ locs, free z.base) (hc : cells ≤ mc) (hs : slots ≤ ms) :
    vx_W p l e R s m args below meth c H locs cells slots (vx_MQ below Qc XC args s mc ms free) (F0 m pc ls rest) q := by
  intro T hT X
  have hpl : e.platform.magicAccessors = ({} : Platform).magicAccessors := by rw [X.admits.platform]
  obtain ⟨vm', hW', X', st⟩ := X.outThrough hlocks q (g := F0 m pc ls rest) rfl rfl rfl (cell := ce) (by rw [hT]; exact hcell) (by rw [hv]; rfl)
    (by obtain ⟨k9, h9, -⟩ := Vm.findClass_spec hcl; exact ⟨k9, h9⟩) (fun z hz => by
      rcases hpass z hz with h | ⟨hz0, nm, hl1, hn1⟩
      · exact Or.inl h
      · obtain ⟨c6, hc6, hcl6⟩ := Cond.classLink_spec hown hl1 e.platform hpl
        obtain ⟨a8, b8, h1, h2, h3⟩ := hn1
        cases Option.some.inj (h1.symm.trans hcl)
        cases Option.some.inj (h2.symm.trans hc6)
        exact Or.inr ⟨hz0, _, hcl6, h3⟩)
  obtain ⟨g₀, hfr⟩ := X'.frames_eq
  have hcell9 : ((T.setVm vm').setFrames (.throwing q :: below)).heap[q]? = some ce := by
    show T.heap[q]? = some ce
    rw [hT]; exact hcell
  have hend : Ended ((T.setVm vm').setFrames (.throwing q :: below)) below (.threw q) := State.frames_setFrames _ (State.cur_lt_of_frames hfr)
  refine ⟨(T.setVm vm').setFrames (.throwing q :: below), ?_, .threw q, X'.here.running, hend, Or.inr ⟨q, rfl, E, ce, locs, hx _ hT (X'.ends _).1.alike, hcell9, hv, hcl, (X'.ends _).1, (X'.ends _).2.mono hc hs, hf⟩⟩
  rw [X.pushThrowing_eq]
  exact st
/-- a thing of a world lies in the heap -/
theorem vx_lt {D : va_G} {cl : List vw_C} {ws : va_W} {H1 : Heap} (h : va_P D cl ws H1) {k : Nat} {q : Nat × va_E} (hk : ws[k]? = some q) : q.1 < H1.size := (h k q hk).lt
end VXS
/-! ===== END ===== -/
/-! ===== BEGIN methods with a table of their own: called by a name, returning or throwing ===== -/
section VXH
/-! vx_backW, vx_callVX, vx_callSX, vx_callVW, vx_runVW, vx_runVX, vx_runSX, vx_ofWH follow the same proofs as their sisters above (Free/Laws.lean, Shelf42/LK1.lean); vx_outP calls Shelf42/NT130.lean (outThrough). -/
section
variable {l : Launch} {R : Room} {p : Program} {e : Env} {below : List Frame} {s : State} {sargs : Array Value} {y : MethodName} {len W9 : Nat}
theorem vx_backW {ws : List Cond} {rm : Room} {Pc : Array Value → State → Prop} {Qc : Array Value → State → Outcome → State → Prop} {XC : String → State → State → Prop} {mc ms : Nat} {free : Addr → Prop} {bytes : ByteArray} {maxL : Nat} {ret : Option FieldType} {hh : List (Nat × Nat × Nat × Nat)}
    (hM : vx_Met l y ws rm Pc Qc XC mc ms free) (hblind : FrameBlind Pc) (hrc : rm.cells = mc) (hrs : rm.slots = ms)
    (hframes : rm.frames + 1 ≤ R.frames) (hlocals : W9 + (maxL + 11) + rm.locals ≤ R.locals)
    (hws : ∀ w ∈ ws, ∀ a' U, s.WarmedH U.vm → w.before a' U = true) (hcode : Cond.codeWith y bytes maxL ret hh ∈ ws) (hinit : ∀ a' U, s.WarmedH U.vm → (Cond.initialized y.cls).before a' U = true) :
    vx_Back l R p e below s sargs y len W9 (PreOf R mc ms Pc) (PostOf Qc mc ms free) (vx_Post XC mc ms free) := by
  intro m meth c A g ig mk a X hg hsize hdg hW hn hp
  have h1 : (headSpec ws rm).pre.before a A.U = true := atoms_intro fun w hw => hws w hw _ _ X.warmed
  have h2 : (Cond.codeWith y bytes maxL ret hh).before a A.U = true := hws _ hcode _ _ X.warmed
  have h3 : (Cond.initialized y.cls).before a A.U = true := hinit _ _ X.warmed
  have h4 : A.cells + (headSpec ws rm).room.cells ≤ R.cells := by rw [show (headSpec ws rm).room.cells = mc from hrc]; exact hp.1
  have h5 : A.slots + (headSpec ws rm).room.slots ≤ R.slots := by rw [show (headSpec ws rm).room.slots = ms from hrs]; exact hp.2.1
  have hPc : Pc a (A.U.calling g mk a) := hblind _ _ _ _ hp.2.2
  obtain ⟨U, Ls, c0, s0⟩ := A
  dsimp only [Pt.U, Pt.locs, Pt.cells, Pt.slots] at h1 h2 h3 h4 h5 X hn hPc ⊢
  obtain ⟨m9, methY, cY, hn9, hmY, hcY, -, hlY, -⟩ := Cond.codeWith_spec h2
  cases Option.some.inj (hn9.symm.trans hn)
  obtain ⟨kY, hkY, -⟩ := className_of_methodNamed hn
  have hinitY : kY.init = .initialized := Cond.initialized_spec (findClass_of_methodNamed hn) hkY h3
  have h : At U g.method c below := by rw [hg]; exact X.here
  have hlocals9 : W9 + (maxL + 11) + (headSpec ws rm).room.locals ≤ R.locals := hlocals
  have happ : (headSpec ws rm).appliesLoose y e.platform (U.calling g mk a) = true :=
    Spec.appliesLoose_calling (g := g) h hdg hn hkY hinitY
      (X.room_calling (g := g) (R' := (headSpec ws rm).room) hsize hmY hcY hframes (by rw [hlY]; omega) h4 h5) h1
  obtain ⟨mid, hmid⟩ := h.above
  have hfr : (U.setTop g).frames = (.java g :: mid) ++ below := by rw [State.frames_setTop' g h.top, hmid]; rfl
  obtain ⟨o, s₂, hsteps, -, hend, hq⟩ := Steps.callFree hM p X.admits X.cas X.clock (acts := []) hfr happ hPc trivial
  have hq' : vx_Q Qc XC mc ms free a (U.calling g mk a) o s₂ := hq
  rw [State.frames_setTop' g h.top] at hend
  obtain ⟨g₀, hg0⟩ := Option.isSome_iff_exists.mp h.top
  obtain ⟨r, hr⟩ := State.topJava?_eq_some.mp hg0
  have hr' : (({ U with heap := s₂.heap, slotsUsed := s₂.slotsUsed } : State).setVm s₂.vm).frames = .java g₀ :: r := hr
  rcases hq' with ⟨hqc, L, hfe, hL⟩ | ⟨q, rfl, E, ce, L, hx, hce, hcv, hcl, hW₂, hsm, hL⟩
  · obtain ⟨⟨v, rfl⟩, hW₂, e2, q2, q3, q4, q5, q6⟩ := id hfe
    have e3 : s₂ = ({ (U.calling g mk a).setFrames s₂.frames with heap := s₂.heap, slotsUsed := s₂.slotsUsed } : State).setVm s₂.vm := by
      have : s₂ = ({ s₂ with vm := (U.calling g mk a).vm } : State).setVm s₂.vm := rfl
      rw [e2] at this
      exact this
    obtain ⟨c₂, i₂, len₂, hc₂, hd₂, hf₂⟩ := hend
    have hW' : U.WarmedH s₂.vm := hW₂
    have hcc : c₂ = c := by
      have h1 : s₂.code? g.method = U.code? g.method := by
        rw [State.code?_eq, State.code?_eq, hW'.alike.method?]
      exact Option.some.inj (hc₂.symm.trans (h1.trans h.code))
    subst hcc
    have hlen : len₂ = len := by rw [hdg] at hd₂; cases hd₂; rfl
    subst hlen
    have hs₂ : s₂ = (({ U with heap := s₂.heap, slotsUsed := s₂.slotsUsed } : State).setVm s₂.vm).setTop { g with pc := g.pc + len₂, stack := v.toList ++ g.stack } := by
      refine e3.trans ?_
      rw [hf₂, State.calling_eq h.top, State.setFrames_setFrames, State.setTop_of_frames _ hr', hr]
      rfl
    have hsame : U.sameButNew ({ U with heap := s₂.heap, slotsUsed := s₂.slotsUsed } : State) L mc ms := by
      refine ⟨?_, q2, q3, q4, q5, q6⟩
      obtain ⟨t, ht, -⟩ := State.frames_cons hr
      show ({ U with heap := s₂.heap, slotsUsed := s₂.slotsUsed } : State) = { U.setFrames U.frames with heap := s₂.heap, slotsUsed := s₂.slotsUsed }
      rw [State.setFrames_self ht]
    subst hg
    refine Or.inl ⟨v, ⟨(({ U with heap := s₂.heap, slotsUsed := s₂.slotsUsed } : State).setVm s₂.vm), Ls ++ L, c0 + mc, s0 + ms⟩,
      ⟨X.admits, X.cas, X.clock, X.frames, X.room, X.hears, X.method, X.code, (X.here.setHeapUsed s₂.heap s₂.slotsUsed).setVm hW'.alike, X.tail, State.WarmedH.trans X.warmed hW', X.limits, X.bytes, X.same.trans (hsame.setVm s.vm)⟩,
      ⟨g, mk, s₂, L, rfl, rfl, hqc, rfl, hL, rfl, rfl⟩, ?_⟩
    show Steps p.tables e below _ ((({ U with heap := s₂.heap, slotsUsed := s₂.slotsUsed } : State).setVm s₂.vm).setTop { g with pc := g.pc + len₂, stack := v.toList ++ g.stack })
    rw [← hs₂]
    exact hsteps
  · obtain ⟨e2, q2, q3, q4, q5, q6⟩ := id hsm
    have e3 : s₂ = ({ (U.calling g mk a).setFrames s₂.frames with heap := s₂.heap, slotsUsed := s₂.slotsUsed } : State).setVm s₂.vm := by
      have : s₂ = ({ s₂ with vm := (U.calling g mk a).vm } : State).setVm s₂.vm := rfl
      rw [e2] at this
      exact this
    have hf₂ : s₂.frames = .throwing q :: .java g :: U.frames.tail := hend
    have hW' : U.WarmedH s₂.vm := hW₂
    have hs₂ : s₂ = ((({ U with heap := s₂.heap, slotsUsed := s₂.slotsUsed } : State).setVm s₂.vm).setTop g).pushFrame (.throwing q) := by
      refine e3.trans ?_
      rw [hf₂, State.calling_eq h.top, State.setFrames_setFrames, State.pushFrame, State.frames_setTop _ hr', State.setTop_of_frames _ hr', State.setFrames_setFrames, hr]
      rfl
    have hsame : U.sameButNew ({ U with heap := s₂.heap, slotsUsed := s₂.slotsUsed } : State) L mc ms := by
      refine ⟨?_, q2, q3, q4, q5, q6⟩
      obtain ⟨t, ht, -⟩ := State.frames_cons hr
      show ({ U with heap := s₂.heap, slotsUsed := s₂.slotsUsed } : State) = { U.setFrames U.frames with heap := s₂.heap, slotsUsed := s₂.slotsUsed }
      rw [State.setFrames_self ht]
    subst hg
    refine Or.inr ⟨q, ⟨(({ U with heap := s₂.heap, slotsUsed := s₂.slotsUsed } : State).setVm s₂.vm), Ls ++ L, c0 + mc, s0 + ms⟩,
      ⟨X.admits, X.cas, X.clock, X.frames, X.room, X.hears, X.method, X.code, (X.here.setHeapUsed s₂.heap s₂.slotsUsed).setVm hW'.alike, X.tail, State.WarmedH.trans X.warmed hW', X.limits, X.bytes, X.same.trans (hsame.setVm s.vm)⟩,
      ⟨g, mk, s₂, L, E, ce, rfl, rfl, hx, hce, hcv, hcl, rfl, hL, rfl, rfl⟩, ?_⟩
    show Steps p.tables e below _ (((({ U with heap := s₂.heap, slotsUsed := s₂.slotsUsed } : State).setVm s₂.vm).setTop g).pushFrame (.throwing q))
    rw [← hs₂]
    exact hsteps
end
variable {p : Program} {l : Launch} {e : Env} {R : Room} {s : State} {m : MethodId} {args : Array Value} {below : List Frame} {meth : Method} {c : Code} {T : State} {H : Heap} {locs : List Loc} {cells slots : Nat}
theorem vx_callVX (X : Stand p l e R s m args below meth c T locs cells slots) (hexec : p.tables.exec = Jvm.exec) {own C : String} {index : Nat} {y : MethodName} {bytes : ByteArray} {maxL : Nat} {ret : Option FieldType} {hh : List (Nat × Nat × Nat × Nat)}
    (hown : s.vm.findClass own = some m.cls) (hlink : (Cond.methodLink own index y).before args s = true) (hinst : (Cond.instanceMethod y).before args s = true) (hsel : (Cond.selects C y y).before args s = true)
    (hcode : (Cond.codeWith y bytes maxL ret hh).before args s = true) (hy : y.cls ≠ "java/lang/invoke/MethodHandle" ∧ y.cls ≠ "java/lang/invoke/VarHandle")
    {W9 : Nat} {Pre : Pt → Array Value → Prop} {Post : Pt → Array Value → Option Value → Pt → Prop} {PostX : Pt → Array Value → Addr → Pt → Prop} (hK : vx_Back l R p e below s args y 3 W9 Pre Post PostX)
    {b : Addr} {cellB : Cell} (hcell : T.heap[b]? = some cellB) (hobj : cellB.vm.isStatics = false) (hcls : s.vm.findClass C = some cellB.cls)
    {g : JFrame} (hg : g.method = m) (hsize : g.locals.size = c.maxLocals) {argsL rest : List Value} (hlen : ∀ sig, parseMethodDescriptor y.desc = some sig → argsL.length = sig.parameters.length)
    (hstack : g.stack = argsL.reverse ++ .ref b :: rest) (hW : 2 * g.monitorRoom + (rest.map fun v => v.category).sum ≤ W9) (hdg : decode c.code g.pc = .ok (.invokevirtual index, 3))
    (hpre : ∀ vm₁, s.WarmedH vm₁ → Pre ⟨T.setVm vm₁, locs, cells, slots⟩ (Value.ref b :: argsL).toArray) :
    (∃ (v : Option Value) (vm₁ : Vm) (B : Pt), s.WarmedH vm₁ ∧ Stand p l e R s m args below meth c B.U B.locs B.cells B.slots ∧ Post ⟨T.setVm vm₁, locs, cells, slots⟩ (Value.ref b :: argsL).toArray v B ∧
      ∀ target, Steps p.tables e below (B.U.setTop { g with pc := g.pc + 3, stack := v.toList ++ rest }) target → Steps p.tables e below (T.setTop g) target) ∨
    (∃ (q : Addr) (vm₁ : Vm) (B : Pt), s.WarmedH vm₁ ∧ Stand p l e R s m args below meth c B.U B.locs B.cells B.slots ∧ PostX ⟨T.setVm vm₁, locs, cells, slots⟩ (Value.ref b :: argsL).toArray q B ∧
      Steps p.tables e below (T.setTop g) ((B.U.setTop { g with stack := rest }).pushFrame (.throwing q))) := by
  obtain ⟨mk, methM, hnamed, hmethM, hstM, habM⟩ := Cond.instanceMethod_spec hinst
  obtain ⟨m8, methM', cM, hn8, hmethM', -, -, -, -, -, -, hsigM⟩ := Cond.codeWith_spec hcode
  cases Option.some.inj (hn8.symm.trans hnamed)
  cases hmethM.symm.trans hmethM'
  obtain ⟨c2, r2, m2, q1, q2, q3, q4, kP, hkP, hkPi⟩ := Cond.selects_spec hsel
  cases hcls.symm.trans q1
  cases (State.methodFound?_of_named hnamed hy).symm.trans q2
  cases hnamed.symm.trans q3
  have hselP : selectMethod e.platform s.vm cellB.cls mk = .method mk := by rw [Launch.admits_selectMethod X.admits]; exact q4
  obtain ⟨vm₁, X₁, hstep₁⟩ := X.invokevirtual hexec hown hlink hnamed hmethM hstM hkP hkPi hy (a := b) (cell := cellB) hcell
    (fun z h => by rw [h] at hobj; cases hobj) hselP hmethM habM hkP hkPi (g := g) hg (argsL := argsL) (rest := rest) (hlen _ hsigM) hstack hdg
  rcases hK m meth c ⟨T.setVm vm₁, locs, cells, slots⟩ { g with stack := rest } (.invokevirtual index) mk (Value.ref b :: argsL).toArray X₁ hg hsize hdg hW (X₁.named hnamed) (hpre vm₁ X₁.warmed) with ⟨v, B, X', hpost, hsteps⟩ | ⟨q, B, X', hpost, hsteps⟩
  · exact Or.inl ⟨v, vm₁, B, X₁.warmed, X', hpost, fun target h => hstep₁ _ fun acts => by rw [doInvoke_state]; exact hsteps.trans h⟩
  · exact Or.inr ⟨q, vm₁, B, X₁.warmed, X', hpost, hstep₁ _ fun acts => by rw [doInvoke_state]; exact hsteps⟩
theorem vx_callSX (X : Stand p l e R s m args below meth c T locs cells slots) (hexec : p.tables.exec = Jvm.exec) {own : String} {index : Nat} {y : MethodName} {bytes : ByteArray} {maxL : Nat} {ret : Option FieldType} {hh : List (Nat × Nat × Nat × Nat)}
    (hown : s.vm.findClass own = some m.cls) (hlink : (Cond.methodLink own index y).before args s = true) (hstat : (Cond.static y).before args s = true) (hinit : (Cond.initialized y.cls).before args s = true)
    (hcode : (Cond.codeWith y bytes maxL ret hh).before args s = true) (hy : y.cls ≠ "java/lang/invoke/MethodHandle" ∧ y.cls ≠ "java/lang/invoke/VarHandle")
    {W9 : Nat} {Pre : Pt → Array Value → Prop} {Post : Pt → Array Value → Option Value → Pt → Prop} {PostX : Pt → Array Value → Addr → Pt → Prop} (hK : vx_Back l R p e below s args y 3 W9 Pre Post PostX)
    {g : JFrame} (hg : g.method = m) (hsize : g.locals.size = c.maxLocals) {argsL rest : List Value} (hlen : ∀ sig, parseMethodDescriptor y.desc = some sig → argsL.length = sig.parameters.length)
    (hstack : g.stack = argsL.reverse ++ rest) (hW : 2 * g.monitorRoom + (rest.map fun v => v.category).sum ≤ W9) (hdg : decode c.code g.pc = .ok (.invokestatic index, 3))
    (hpre : ∀ vm₁, s.WarmedH vm₁ → Pre ⟨T.setVm vm₁, locs, cells, slots⟩ argsL.toArray) :
    (∃ (v : Option Value) (vm₁ : Vm) (B : Pt), s.WarmedH vm₁ ∧ Stand p l e R s m args below meth c B.U B.locs B.cells B.slots ∧ Post ⟨T.setVm vm₁, locs, cells, slots⟩ argsL.toArray v B ∧
      ∀ target, Steps p.tables e below (B.U.setTop { g with pc := g.pc + 3, stack := v.toList ++ rest }) target → Steps p.tables e below (T.setTop g) target) ∨
    (∃ (q : Addr) (vm₁ : Vm) (B : Pt), s.WarmedH vm₁ ∧ Stand p l e R s m args below meth c B.U B.locs B.cells B.slots ∧ PostX ⟨T.setVm vm₁, locs, cells, slots⟩ argsL.toArray q B ∧
      Steps p.tables e below (T.setTop g) ((B.U.setTop { g with stack := rest }).pushFrame (.throwing q))) := by
  obtain ⟨mk, methM, cM, hnamed, hmethM, -, -, -, -, -, -, hsigM⟩ := Cond.codeWith_spec hcode
  have hstatic : methM.isStatic = true := Cond.static_spec hnamed hmethM hstat
  obtain ⟨kP, hkP, -⟩ := className_of_methodNamed hnamed
  have hinitP : kP.init = .initialized := Cond.initialized_spec (findClass_of_methodNamed hnamed) hkP hinit
  obtain ⟨vm₁, X₁, hstep₁⟩ := X.invokestatic hexec hown hlink hnamed hmethM hstatic hkP hinitP hy (g := g) hg (argsL := argsL) (rest := rest) (hlen _ hsigM) hstack hdg
  rcases hK m meth c ⟨T.setVm vm₁, locs, cells, slots⟩ { g with stack := rest } (.invokestatic index) mk argsL.toArray X₁ hg hsize hdg hW (X₁.named hnamed) (hpre vm₁ X₁.warmed) with ⟨v, B, X', hpost, hsteps⟩ | ⟨q, B, X', hpost, hsteps⟩
  · exact Or.inl ⟨v, vm₁, B, X₁.warmed, X', hpost, fun target h => hstep₁ _ fun acts => by rw [doInvoke_state]; exact hsteps.trans h⟩
  · exact Or.inr ⟨q, vm₁, B, X₁.warmed, X', hpost, hstep₁ _ fun acts => by rw [doInvoke_state]; exact hsteps⟩
theorem vx_callVW (X : Stand p l e R s m args below meth c T locs cells slots) (hexec : p.tables.exec = Jvm.exec) {own C : String} {index : Nat} {y : MethodName} {bytes : ByteArray} {maxL : Nat} {ret : Option FieldType} {hh : List (Nat × Nat × Nat × Nat)}
    (hown : s.vm.findClass own = some m.cls) (hlink : (Cond.methodLink own index y).before args s = true) (hinst : (Cond.instanceMethod y).before args s = true) (hsel : (Cond.selects C y y).before args s = true)
    (hcode : (Cond.codeWith y bytes maxL ret hh).before args s = true) (hy : y.cls ≠ "java/lang/invoke/MethodHandle" ∧ y.cls ≠ "java/lang/invoke/VarHandle")
    {W9 : Nat} {Pre : Pt → Array Value → Prop} {Post : Pt → Array Value → Option Value → Pt → Prop} (hK : Back l R p e below s args y 3 W9 Pre Post)
    {b : Addr} {cellB : Cell} (hcell : T.heap[b]? = some cellB) (hobj : cellB.vm.isStatics = false) (hcls : s.vm.findClass C = some cellB.cls)
    {g : JFrame} (hg : g.method = m) (hsize : g.locals.size = c.maxLocals) {argsL rest : List Value} (hlen : ∀ sig, parseMethodDescriptor y.desc = some sig → argsL.length = sig.parameters.length)
    (hstack : g.stack = argsL.reverse ++ .ref b :: rest) (hW : 2 * g.monitorRoom + (rest.map fun v => v.category).sum ≤ W9) (hdg : decode c.code g.pc = .ok (.invokevirtual index, 3))
    (hpre : ∀ vm₁, s.WarmedH vm₁ → Pre ⟨T.setVm vm₁, locs, cells, slots⟩ (Value.ref b :: argsL).toArray) :
    ∃ (v : Option Value) (vm₁ : Vm) (B : Pt), s.WarmedH vm₁ ∧ Stand p l e R s m args below meth c B.U B.locs B.cells B.slots ∧ Post ⟨T.setVm vm₁, locs, cells, slots⟩ (Value.ref b :: argsL).toArray v B ∧
      ∀ target, Steps p.tables e below (B.U.setTop { g with pc := g.pc + 3, stack := v.toList ++ rest }) target → Steps p.tables e below (T.setTop g) target := by
  obtain ⟨mk, methM, hnamed, hmethM, hstM, habM⟩ := Cond.instanceMethod_spec hinst
  obtain ⟨m8, methM', cM, hn8, hmethM', -, -, -, -, -, -, hsigM⟩ := Cond.codeWith_spec hcode
  cases Option.some.inj (hn8.symm.trans hnamed)
  cases hmethM.symm.trans hmethM'
  obtain ⟨c2, r2, m2, q1, q2, q3, q4, kP, hkP, hkPi⟩ := Cond.selects_spec hsel
  cases hcls.symm.trans q1
  cases (State.methodFound?_of_named hnamed hy).symm.trans q2
  cases hnamed.symm.trans q3
  have hselP : selectMethod e.platform s.vm cellB.cls mk = .method mk := by rw [Launch.admits_selectMethod X.admits]; exact q4
  obtain ⟨vm₁, X₁, hstep₁⟩ := X.invokevirtual hexec hown hlink hnamed hmethM hstM hkP hkPi hy (a := b) (cell := cellB) hcell
    (fun z h => by rw [h] at hobj; cases hobj) hselP hmethM habM hkP hkPi (g := g) hg (argsL := argsL) (rest := rest) (hlen _ hsigM) hstack hdg
  obtain ⟨v, B, X', hpost, hsteps⟩ := hK m meth c ⟨T.setVm vm₁, locs, cells, slots⟩ { g with stack := rest } (.invokevirtual index) mk (Value.ref b :: argsL).toArray X₁ hg hsize hdg hW (X₁.named hnamed) (hpre vm₁ X₁.warmed)
  exact ⟨v, vm₁, B, X₁.warmed, X', hpost, fun target h => hstep₁ _ fun acts => by rw [doInvoke_state]; exact hsteps.trans h⟩
abbrev vx_CVW (R : Room) (s : State) (args : Array Value) (own C : String) (index : Nat) (y : MethodName) (bytes : ByteArray) (maxL : Nat) (ret : Option FieldType) (hh : List (Nat × Nat × Nat × Nat)) (ws : List Cond) (rm : Room) (mc ms n : Nat) : Prop :=
  (rm.cells = mc ∧ rm.slots = ms ∧ rm.frames + 1 ≤ R.frames ∧ 8 + (maxL + 11) + rm.locals ≤ R.locals ∧ (∀ w ∈ ws, ∀ (a' : Array Value) (U : State), s.WarmedH U.vm → w.before a' U = true) ∧ Cond.codeWith y bytes maxL ret hh ∈ ws) ∧
  (Cond.codeWith y bytes maxL ret hh).before args s = true ∧ (Cond.initialized y.cls).before args s = true ∧ (y.cls ≠ "java/lang/invoke/MethodHandle" ∧ y.cls ≠ "java/lang/invoke/VarHandle") ∧
  (∀ sig, parseMethodDescriptor y.desc = some sig → n = sig.parameters.length) ∧ (Cond.methodLink own index y).before args s = true ∧ (Cond.instanceMethod y).before args s = true ∧ (Cond.selects C y y).before args s = true
theorem vx_cwVW {own C : String} {index maxL mc ms : Nat} {y : MethodName} {bytes : ByteArray} {ret : Option FieldType} {hh : List (Nat × Nat × Nat × Nat)} {Ts ws ws' : List Cond} {rm : Room} (n : Nat) (ht : ∀ w ∈ Ts, w.before args s = true) (hT : GoodIn Ts (wsV own index C y ws)) (hw : ws = Cond.codeWith y bytes maxL ret hh :: ws') (hrc : rm.cells = mc) (hrs : rm.slots = ms)
    (hd : y.cls = C ∧ y.cls ≠ "java/lang/invoke/MethodHandle" ∧ y.cls ≠ "java/lang/invoke/VarHandle" ∧ (parseMethodDescriptor y.desc).map (fun d => d.parameters.length) = some n) (hR : rm.frames + 1 ≤ R.frames ∧ 8 + (maxL + 11) + rm.locals ≤ R.locals) :
    vx_CVW R s args own C index y bytes maxL ret hh ws rm mc ms n := by
  obtain ⟨hC, hd⟩ := hd
  subst hC
  have ok : ∀ w ∈ wsV own index y.cls y ws, w.before args s = true := fun w h => ht w (hT w h).1
  have hG : GoodIn Ts ws := fun w h => hT w (by unfold wsV; exact List.mem_append_right _ h)
  have hc : Cond.codeWith y bytes maxL ret hh ∈ ws := by rw [hw]; exact List.mem_cons_self
  refine ⟨⟨hrc, hrs, hR.1, hR.2, pay_in ht hG, hc⟩, ht _ (hG _ hc).1, ok _ (by simp [wsV]), ⟨hd.1, hd.2.1⟩, fun sig h => ?_, ok _ (by simp [wsV]), ok _ (by simp [wsV]), ok _ (by simp [wsV])⟩
  have h2 := hd.2.2
  rw [h] at h2
  exact (Option.some.inj h2).symm
theorem vx_runVW {y : MethodName} {bytes cc : ByteArray} {maxL nL mc ms n index : Nat} {ret : Option FieldType} {hh : List (Nat × Nat × Nat × Nat)} {ws : List Cond} {rm : Room} {Pc : Array Value → State → Prop} {Qc : Array Value → State → Outcome → State → Prop} {free : Addr → Prop} {Ts : List Cond} {own C : String} {b : Addr} {As rest : List Value} {g : JFrame}
    (S : CallFix p m c cc nL s args Ts own) (hM : Met l y ws rm Pc Qc mc ms free) (cw : vx_CVW R s args own C index y bytes maxL ret hh ws rm mc ms n) (hp : PreV s H C b Pc As)
    (hg : g.method = m) (hn : As.length = n) (hsize : g.locals.size = nL) (hstack : g.stack = As.reverse ++ .ref b :: rest) (hW : 2 * g.monitorRoom + (rest.map fun v => v.category).sum ≤ 8) (hdg : decode cc g.pc = .ok (.invokevirtual index, 3)) (hf : cells + mc ≤ R.cells ∧ slots + ms ≤ R.slots) :
    va_Run p l e R s m args below meth c H locs cells slots mc ms g rest (Qc (Value.ref b :: As).toArray) free := by
  obtain ⟨⟨hrc, hrs, hfr, hlo, hws, hcw⟩, hcode, hini, hy, hlen, hl, hin, hse⟩ := cw
  have hK : Back l R p e below s args y 3 8 (PreOf R mc ms Pc) (PostOf Qc mc ms free) := va_backW (hh := hh) (bytes := bytes) (maxL := maxL) (ret := ret) hM hp.1 hrc hrs hfr hlo hws hcw (fun a' U hW => word_at hW (Or.inl (by first | rfl | simp [Cond.onTables, Cond.keeps, Cond.steady])) hini)
  obtain ⟨hx, hb, hml, ho, -⟩ := S
  obtain ⟨-, ⟨cellB, hcB, hoB, hclB⟩, hPc⟩ := hp
  intro T hT X
  obtain ⟨v, vm₁, ⟨U', l2, c2, s2⟩, hW₁, X', ⟨g', mk, t, L, e1, e2, hq, h1, hL, h2, h3⟩, st⟩ := vx_callVW X hx (C := C) (hh := hh) (bytes := bytes) (maxL := maxL) (ret := ret) ho hl hin hse hcode hy hK (by rw [hT]; exact hcB) hoB hclB hg (hsize.trans hml.symm) (argsL := As) (rest := rest) (fun sig h => hn.trans (hlen sig h)) hstack hW (by rw [hb]; exact hdg)
    (fun vm₁ hW₁ => ⟨hf.1, hf.2, hPc (T.setVm vm₁) hT hW₁⟩)
  dsimp only [Pt.U, Pt.locs, Pt.cells, Pt.slots] at X' e1 e2 h1 h2 h3 st
  subst h1; subst h2; subst h3
  exact ⟨v, (T.setVm vm₁).calling g' mk (Value.ref b :: As).toArray, t, U', L, hT, X', hL, e1, e2, hq, st⟩
section
variable {y : MethodName} {bytes cc : ByteArray} {maxL nL mc ms n index : Nat} {ret : Option FieldType} {ws : List Cond} {rm : Room} {Pc : Array Value → State → Prop} {Qc : Array Value → State → Outcome → State → Prop} {XC : String → State → State → Prop} {free : Addr → Prop} {Ts : List Cond} {own C : String} {b : Addr} {As rest : List Value} {g : JFrame}
theorem vx_runVX {hh : List (Nat × Nat × Nat × Nat)} (S : CallFix p m c cc nL s args Ts own) (hM : vx_Met l y ws rm Pc Qc XC mc ms free) (cw : vx_CVW R s args own C index y bytes maxL ret hh ws rm mc ms n) (hp : PreV s H C b Pc As)
    (hg : g.method = m) (hn : As.length = n) (hsize : g.locals.size = nL) (hstack : g.stack = As.reverse ++ .ref b :: rest) (hW : 2 * g.monitorRoom + (rest.map fun v => v.category).sum ≤ 8) (hdg : decode cc g.pc = .ok (.invokevirtual index, 3)) (hf : cells + mc ≤ R.cells ∧ slots + ms ≤ R.slots) :
    vx_Run p l e R s m args below meth c H locs cells slots mc ms g rest (Qc (Value.ref b :: As).toArray) XC free := by
  obtain ⟨⟨hrc, hrs, hfr, hlo, hws, hcw⟩, hcode, hini, hy, hlen, hl, hin, hse⟩ := cw
  have hK : vx_Back l R p e below s args y 3 8 (PreOf R mc ms Pc) (PostOf Qc mc ms free) (vx_Post XC mc ms free) := vx_backW (hh := hh) (bytes := bytes) (maxL := maxL) (ret := ret) hM hp.1 hrc hrs hfr hlo hws hcw (fun a' U hW => word_at hW (Or.inl (by first | rfl | simp [Cond.onTables, Cond.keeps, Cond.steady])) hini)
  obtain ⟨hx, hb, hml, ho, -⟩ := S
  obtain ⟨-, ⟨cellB, hcB, hoB, hclB⟩, hPc⟩ := hp
  intro T hT X
  rcases vx_callVX X hx (C := C) (hh := hh) (bytes := bytes) (maxL := maxL) (ret := ret) ho hl hin hse hcode hy hK (by rw [hT]; exact hcB) hoB hclB hg (hsize.trans hml.symm) (argsL := As) (rest := rest) (fun sig h => hn.trans (hlen sig h)) hstack hW (by rw [hb]; exact hdg)
    (fun vm₁ hW₁ => ⟨hf.1, hf.2, hPc (T.setVm vm₁) hT hW₁⟩) with ⟨v, vm₁, ⟨U', l2, c2, s2⟩, hW₁, X', ⟨g', mk, t, L, e1, e2, hq, h1, hL, h2, h3⟩, st⟩ | ⟨q, vm₁, ⟨U', l2, c2, s2⟩, hW₁, X', ⟨g', mk, t, L, E, ce, e1, e2, hq, hce, hcv, hcl, h1, hL, h2, h3⟩, st⟩
  · dsimp only [Pt.U, Pt.locs, Pt.cells, Pt.slots] at X' e1 e2 h1 h2 h3 st
    subst h1; subst h2; subst h3
    exact Or.inl ⟨v, (T.setVm vm₁).calling g' mk (Value.ref b :: As).toArray, t, U', L, hT, X', hL, e1, e2, hq, st⟩
  · dsimp only [Pt.U, Pt.locs, Pt.cells, Pt.slots] at X' e1 e2 h1 h2 h3 st hcl
    subst h1; subst h2; subst h3
    exact Or.inr ⟨q, (T.setVm vm₁).calling g' mk (Value.ref b :: As).toArray, t, U', L, E, ce, hT, X', hL, e1, e2, hq, hce, hcv, vx_cls hW₁ hcl, st⟩
theorem vx_runSX {hh : List (Nat × Nat × Nat × Nat)} (S : CallFix p m c cc nL s args Ts own) (hM : vx_Met l y ws rm Pc Qc XC mc ms free) (cw : vx_CSW R s args own index y bytes maxL ret hh ws rm mc ms n) (hp : PreS s H Pc As)
    (hg : g.method = m) (hn : As.length = n) (hsize : g.locals.size = nL) (hstack : g.stack = As.reverse ++ rest) (hW : 2 * g.monitorRoom + (rest.map fun v => v.category).sum ≤ 8) (hdg : decode cc g.pc = .ok (.invokestatic index, 3)) (hf : cells + mc ≤ R.cells ∧ slots + ms ≤ R.slots) :
    vx_Run p l e R s m args below meth c H locs cells slots mc ms g rest (Qc As.toArray) XC free := by
  obtain ⟨⟨hrc, hrs, hfr, hlo, hws, hcw⟩, hcode, hini, hy, hlen, hl, hstt⟩ := cw
  have hK : vx_Back l R p e below s args y 3 8 (PreOf R mc ms Pc) (PostOf Qc mc ms free) (vx_Post XC mc ms free) := vx_backW (hh := hh) (bytes := bytes) (maxL := maxL) (ret := ret) hM hp.1 hrc hrs hfr hlo hws hcw (fun a' U hW => word_at hW (Or.inl (by first | rfl | simp [Cond.onTables, Cond.keeps, Cond.steady])) hini)
  obtain ⟨hx, hb, hml, ho, -⟩ := S
  intro T hT X
  rcases vx_callSX X hx (hh := hh) (bytes := bytes) (maxL := maxL) (ret := ret) ho hl hstt hini hcode hy hK hg (hsize.trans hml.symm) (argsL := As) (rest := rest) (fun sig h => hn.trans (hlen sig h)) hstack hW (by rw [hb]; exact hdg)
    (fun vm₁ hW₁ => ⟨hf.1, hf.2, hp.2 (T.setVm vm₁) hT hW₁⟩) with ⟨v, vm₁, ⟨U', l2, c2, s2⟩, hW₁, X', ⟨g', mk, t, L, e1, e2, hq, h1, hL, h2, h3⟩, st⟩ | ⟨q, vm₁, ⟨U', l2, c2, s2⟩, hW₁, X', ⟨g', mk, t, L, E, ce, e1, e2, hq, hce, hcv, hcl, h1, hL, h2, h3⟩, st⟩
  · dsimp only [Pt.U, Pt.locs, Pt.cells, Pt.slots] at X' e1 e2 h1 h2 h3 st
    subst h1; subst h2; subst h3
    exact Or.inl ⟨v, (T.setVm vm₁).calling g' mk As.toArray, t, U', L, hT, X', hL, e1, e2, hq, st⟩
  · dsimp only [Pt.U, Pt.locs, Pt.cells, Pt.slots] at X' e1 e2 h1 h2 h3 st hcl
    subst h1; subst h2; subst h3
    exact Or.inr ⟨q, (T.setVm vm₁).calling g' mk As.toArray, t, U', L, E, ce, hT, X', hL, e1, e2, hq, hce, hcv, vx_cls hW₁ hcl, st⟩
end
end VXH
theorem vx_ofWH {l : Launch} {y : MethodName} {ws ws' : List Cond} {rm : Room} {Pc : Array Value → State → Prop} {Qc : Array Value → State → Outcome → State → Prop} {XC : String → State → State → Prop} {mc ms : Nat} {free : Addr → Prop} {cc : ByteArray} {maxL : Nat} {ret : Option FieldType} {hh : List (Nat × Nat × Nat × Nat)}
    (hy : plainName y.cls = true) (hw : ws = Cond.codeWith y cc maxL ret hh :: ws')
    (body : ∀ p e s m args below meth c s₁, BodyLoose p l y (headSpec ws rm) cc maxL ret e s m args below meth c s₁ → c.maxLocals = maxL → Pc args s →
      W p l e (headSpec ws rm).room s m args below meth c s.heap [] 0 0 (vx_MQ below Qc XC args s mc ms free) (entryFrame m args maxL)) : vx_Met l y ws rm Pc Qc XC mc ms free := by
  refine MetFree.of_bodyS (code := cc) (maxLocals := maxL) (ret := ret) hy ?_ ?_
  · intro args s m h hn
    obtain ⟨m9, meth, c, hn9, h1, h2, h3, h4, -, h5, h6, -⟩ := Cond.codeWith_spec (atoms_spec (ws := ws) h _ (by rw [hw]; exact List.mem_cons_self))
    cases hn.symm.trans hn9
    exact ⟨meth, c, h1, h2, h3, h4, h5, h6⟩
  · intro p e s m args below meth c s₁ B hml hP _
    have hh0 : s₁.heap = s.heap := by rw [B.state]; rfl
    obtain ⟨t, a1, o, b1, b2, b3⟩ := body p e s m args below meth c s₁ B hml hP s₁ hh0 (Stand.of_body B)
    exact ⟨t, o, a1, b1, b2, b3⟩
/-! ===== END ===== -/
end
section
def RX0 : String := "HailLeague$Cannons"
def TX0 : u_T := fun k => match k with
  | 0 => ("HailLeague$Cannons", "place", "[I", true)
  | 1 => ("HailLeague$Cannons", "range", "[I", true)
  | 2 => ("HailLeague$Cannons", "powder", "[I", true)
  | 3 => ("HailLeague$Cannons", "shots", "[I", true)
  | _ => ("HailLeague$Cannons", "count", "I", false)
def tyX0 : Nat → FieldType := fun k => match k with
  | 0 => .array .int
  | 1 => .array .int
  | 2 => .array .int
  | 3 => .array .int
  | _ => .int
abbrev wsX00 : List Cond := u_ws RX0 TX0 5
theorem nmX0 : ∀ a, a < 5 → ∀ b, b < 5 → a ≠ b → (TX0 a).2.1 ≠ (TX0 b).2.1 := by decide +kernel
theorem tyX0_ok : ∀ k, k < 5 → parseFieldDescriptor (TX0 k).2.2.1 = some (tyX0 k) := by decide +kernel
abbrev cX0_init : ByteArray := prog_2_method_1_code
def yX0_init : MethodName := ⟨RX0, "<init>", "()V"⟩
abbrev cX0_add : ByteArray := prog_2_method_2_code
def yX0_add : MethodName := ⟨RX0, "add", "(III)I"⟩
abbrev cX0_addPowder : ByteArray := prog_2_method_3_code
def yX0_addPowder : MethodName := ⟨RX0, "addPowder", "(II)I"⟩
abbrev cX0_fact : ByteArray := prog_2_method_4_code
def yX0_fact : MethodName := ⟨RX0, "fact", "(IILHailLeague$Clouds;)I"⟩
abbrev cX0_target : ByteArray := prog_2_method_5_code
def yX0_target : MethodName := ⟨RX0, "target", "(ILHailLeague$Clouds;)I"⟩
abbrev cX0_shoot : ByteArray := prog_2_method_6_code
def yX0_shoot : MethodName := ⟨RX0, "shoot", "(LHailLeague$Clouds;LHailLeague$Vineyards;)V"⟩
abbrev cX0_sumOfShots : ByteArray := prog_2_method_7_code
def yX0_sumOfShots : MethodName := ⟨RX0, "sumOfShots", "()I"⟩
abbrev cX0_copyFrom : ByteArray := prog_2_method_8_code
def yX0_copyFrom : MethodName := ⟨RX0, "copyFrom", "(LHailLeague$Cannons;)V"⟩
def RX1 : String := "HailLeague$Clouds"
def TX1 : u_T := fun k => match k with
  | 0 => ("HailLeague$Clouds", "place", "[I", true)
  | 1 => ("HailLeague$Clouds", "drift", "[I", true)
  | 2 => ("HailLeague$Clouds", "hail", "[I", true)
  | 3 => ("HailLeague$Clouds", "gone", "[Z", true)
  | _ => ("HailLeague$Clouds", "count", "I", false)
def tyX1 : Nat → FieldType := fun k => match k with
  | 0 => .array .int
  | 1 => .array .int
  | 2 => .array .int
  | 3 => .array .boolean
  | _ => .int
abbrev wsX10 : List Cond := u_ws RX1 TX1 5
theorem nmX1 : ∀ a, a < 5 → ∀ b, b < 5 → a ≠ b → (TX1 a).2.1 ≠ (TX1 b).2.1 := by decide +kernel
theorem tyX1_ok : ∀ k, k < 5 → parseFieldDescriptor (TX1 k).2.2.1 = some (tyX1 k) := by decide +kernel
abbrev cX1_init : ByteArray := prog_3_method_1_code
def yX1_init : MethodName := ⟨RX1, "<init>", "()V"⟩
abbrev cX1_add : ByteArray := prog_3_method_2_code
def yX1_add : MethodName := ⟨RX1, "add", "(III)I"⟩
abbrev cX1_fact : ByteArray := prog_3_method_3_code
def yX1_fact : MethodName := ⟨RX1, "fact", "(II)I"⟩
abbrev cX1_drive : ByteArray := prog_3_method_4_code
def yX1_drive : MethodName := ⟨RX1, "drive", "(I)V"⟩
abbrev cX1_nearest : ByteArray := prog_3_method_5_code
def yX1_nearest : MethodName := ⟨RX1, "nearest", "(II)I"⟩
abbrev cX1_takeShot : ByteArray := prog_3_method_6_code
def yX1_takeShot : MethodName := ⟨RX1, "takeShot", "(III)V"⟩
abbrev cX1_dropUpon : ByteArray := prog_3_method_7_code
def yX1_dropUpon : MethodName := ⟨RX1, "dropUpon", "(LHailLeague$Vineyards;)V"⟩
abbrev cX1_haveHail : ByteArray := prog_3_method_8_code
def yX1_haveHail : MethodName := ⟨RX1, "haveHail", "()Z"⟩
abbrev cX1_there : ByteArray := prog_3_method_9_code
def yX1_there : MethodName := ⟨RX1, "there", "()I"⟩
abbrev cX1_copyFrom : ByteArray := prog_3_method_10_code
def yX1_copyFrom : MethodName := ⟨RX1, "copyFrom", "(LHailLeague$Clouds;)V"⟩
def RX2 : String := "HailLeague$League"
def TX2 : u_T := fun k => match k with
  | 0 => ("HailLeague$League", "vineyards", "LHailLeague$Vineyards;", true)
  | 1 => ("HailLeague$League", "cannons", "LHailLeague$Cannons;", true)
  | 2 => ("HailLeague$League", "clouds", "LHailLeague$Clouds;", true)
  | 3 => ("HailLeague$League", "wind", "[I", true)
  | 4 => ("HailLeague$League", "hour", "I", false)
  | _ => ("HailLeague$League", "coins", "I", false)
def tyX2 : Nat → FieldType := fun k => match k with
  | 0 => .object "HailLeague$Vineyards"
  | 1 => .object "HailLeague$Cannons"
  | 2 => .object "HailLeague$Clouds"
  | 3 => .array .int
  | 4 => .int
  | _ => .int
abbrev wsX20 : List Cond := u_ws RX2 TX2 6
theorem nmX2 : ∀ a, a < 6 → ∀ b, b < 6 → a ≠ b → (TX2 a).2.1 ≠ (TX2 b).2.1 := by decide +kernel
theorem tyX2_ok : ∀ k, k < 6 → parseFieldDescriptor (TX2 k).2.2.1 = some (tyX2 k) := by decide +kernel
abbrev cX2_init : ByteArray := prog_4_method_1_code
def yX2_init : MethodName := ⟨RX2, "<init>", "()V"⟩
abbrev cX2_copyFrom : ByteArray := prog_4_method_2_code
def yX2_copyFrom : MethodName := ⟨RX2, "copyFrom", "(LHailLeague$League;)V"⟩
abbrev cX2_goBy : ByteArray := prog_4_method_3_code
def yX2_goBy : MethodName := ⟨RX2, "goBy", "(I)V"⟩
abbrev cX2_goByOneHour : ByteArray := prog_4_method_4_code
def yX2_goByOneHour : MethodName := ⟨RX2, "goByOneHour", "()V"⟩
abbrev cX2_total : ByteArray := prog_4_method_5_code
def yX2_total : MethodName := ⟨RX2, "total", "(I)I"⟩
def RX3 : String := "HailLeague$Vineyards"
def TX3 : u_T := fun k => match k with
  | 0 => ("HailLeague$Vineyards", "place", "[I", true)
  | 1 => ("HailLeague$Vineyards", "vines", "[I", true)
  | 2 => ("HailLeague$Vineyards", "member", "[Z", true)
  | 3 => ("HailLeague$Vineyards", "insured", "[Z", true)
  | 4 => ("HailLeague$Vineyards", "lostToday", "[I", true)
  | 5 => ("HailLeague$Vineyards", "suits", "[I", true)
  | 6 => ("HailLeague$Vineyards", "lostInAll", "[I", true)
  | _ => ("HailLeague$Vineyards", "count", "I", false)
def tyX3 : Nat → FieldType := fun k => match k with
  | 0 => .array .int
  | 1 => .array .int
  | 2 => .array .boolean
  | 3 => .array .boolean
  | 4 => .array .int
  | 5 => .array .int
  | 6 => .array .int
  | _ => .int
abbrev wsX30 : List Cond := u_ws RX3 TX3 8
theorem nmX3 : ∀ a, a < 8 → ∀ b, b < 8 → a ≠ b → (TX3 a).2.1 ≠ (TX3 b).2.1 := by decide +kernel
theorem tyX3_ok : ∀ k, k < 8 → parseFieldDescriptor (TX3 k).2.2.1 = some (tyX3 k) := by decide +kernel
abbrev cX3_init : ByteArray := prog_5_method_1_code
def yX3_init : MethodName := ⟨RX3, "<init>", "()V"⟩
abbrev cX3_add : ByteArray := prog_5_method_2_code
def yX3_add : MethodName := ⟨RX3, "add", "(IIZZ)I"⟩
abbrev cX3_enrol : ByteArray := prog_5_method_3_code
def yX3_enrol : MethodName := ⟨RX3, "enrol", "(IZZ)I"⟩
abbrev cX3_fact : ByteArray := prog_5_method_4_code
def yX3_fact : MethodName := ⟨RX3, "fact", "(II)I"⟩
abbrev cX3_hearShot : ByteArray := prog_5_method_5_code
def yX3_hearShot : MethodName := ⟨RX3, "hearShot", "(I)V"⟩
abbrev cX3_takeHail : ByteArray := prog_5_method_6_code
def yX3_takeHail : MethodName := ⟨RX3, "takeHail", "(II)V"⟩
abbrev cX3_closeDay : ByteArray := prog_5_method_7_code
def yX3_closeDay : MethodName := ⟨RX3, "closeDay", "()I"⟩
abbrev cX3_sumOfVines : ByteArray := prog_5_method_8_code
def yX3_sumOfVines : MethodName := ⟨RX3, "sumOfVines", "()I"⟩
abbrev cX3_sumOfLostInAll : ByteArray := prog_5_method_9_code
def yX3_sumOfLostInAll : MethodName := ⟨RX3, "sumOfLostInAll", "()I"⟩
abbrev cX3_sumOfSuits : ByteArray := prog_5_method_10_code
def yX3_sumOfSuits : MethodName := ⟨RX3, "sumOfSuits", "()I"⟩
abbrev cX3_members : ByteArray := prog_5_method_11_code
def yX3_members : MethodName := ⟨RX3, "members", "()I"⟩
abbrev cX3_insuredOnes : ByteArray := prog_5_method_12_code
def yX3_insuredOnes : MethodName := ⟨RX3, "insuredOnes", "()I"⟩
abbrev cX3_sum : ByteArray := prog_5_method_13_code
def yX3_sum : MethodName := ⟨RX3, "sum", "([I)I"⟩
abbrev cX3_howManyAre : ByteArray := prog_5_method_14_code
def yX3_howManyAre : MethodName := ⟨RX3, "howManyAre", "([Z)I"⟩
abbrev cX3_copyFrom : ByteArray := prog_5_method_15_code
def yX3_copyFrom : MethodName := ⟨RX3, "copyFrom", "(LHailLeague$Vineyards;)V"⟩
def RX4 : String := "HailLeague"
def TX4 : u_T := fun k => match k with
  | 0 => ("HailLeague", "now", "LHailLeague$League;", true)
  | _ => ("HailLeague", "trial", "LHailLeague$League;", true)
def tyX4 : Nat → FieldType := fun k => match k with
  | 0 => .object "HailLeague$League"
  | _ => .object "HailLeague$League"
abbrev wsX40 : List Cond := u_ws RX4 TX4 2
theorem nmX4 : ∀ a, a < 2 → ∀ b, b < 2 → a ≠ b → (TX4 a).2.1 ≠ (TX4 b).2.1 := by decide +kernel
theorem tyX4_ok : ∀ k, k < 2 → parseFieldDescriptor (TX4 k).2.2.1 = some (tyX4 k) := by decide +kernel
abbrev cX4_init : ByteArray := prog_1_method_1_code
def yX4_init : MethodName := ⟨RX4, "<init>", "()V"⟩
abbrev cX4_plant : ByteArray := prog_1_method_2_code
def yX4_plant : MethodName := ⟨RX4, "plant", "(IIZZ)I"⟩
abbrev cX4_sign : ByteArray := prog_1_method_3_code
def yX4_sign : MethodName := ⟨RX4, "sign", "(IZZ)I"⟩
abbrev cX4_cannon : ByteArray := prog_1_method_4_code
def yX4_cannon : MethodName := ⟨RX4, "cannon", "(III)I"⟩
abbrev cX4_load : ByteArray := prog_1_method_5_code
def yX4_load : MethodName := ⟨RX4, "load", "(II)I"⟩
abbrev cX4_gather : ByteArray := prog_1_method_6_code
def yX4_gather : MethodName := ⟨RX4, "gather", "(III)I"⟩
abbrev cX4_setWind : ByteArray := prog_1_method_7_code
def yX4_setWind : MethodName := ⟨RX4, "setWind", "(II)I"⟩
abbrev cX4_vineyard : ByteArray := prog_1_method_8_code
def yX4_vineyard : MethodName := ⟨RX4, "vineyard", "(II)I"⟩
abbrev cX4_about : ByteArray := prog_1_method_9_code
def yX4_about : MethodName := ⟨RX4, "about", "(II)I"⟩
abbrev cX4_cloud : ByteArray := prog_1_method_10_code
def yX4_cloud : MethodName := ⟨RX4, "cloud", "(II)I"⟩
abbrev cX4_count : ByteArray := prog_1_method_11_code
def yX4_count : MethodName := ⟨RX4, "count", "(I)I"⟩
abbrev cX4_pass : ByteArray := prog_1_method_12_code
def yX4_pass : MethodName := ⟨RX4, "pass", "(I)I"⟩
abbrev cX4_hit : ByteArray := prog_1_method_13_code
def yX4_hit : MethodName := ⟨RX4, "hit", "(I)I"⟩
abbrev cX4_foresee : ByteArray := prog_1_method_14_code
def yX4_foresee : MethodName := ⟨RX4, "foresee", "(II)I"⟩
abbrev cX4_advise : ByteArray := prog_1_method_15_code
def yX4_advise : MethodName := ⟨RX4, "advise", "(II)I"⟩
abbrev cX4_move : ByteArray := prog_1_method_16_code
def yX4_move : MethodName := ⟨RX4, "move", "(II)I"⟩
abbrev cX4_mean : ByteArray := prog_1_method_17_code
def yX4_mean : MethodName := ⟨RX4, "mean", "()D"⟩
abbrev cX4_digest : ByteArray := prog_1_method_18_code
def yX4_digest : MethodName := ⟨RX4, "digest", "()J"⟩
abbrev cX4_digestOfVineyards : ByteArray := prog_1_method_19_code
def yX4_digestOfVineyards : MethodName := ⟨RX4, "digestOfVineyards", "(J)J"⟩
abbrev cX4_digestOfCannons : ByteArray := prog_1_method_20_code
def yX4_digestOfCannons : MethodName := ⟨RX4, "digestOfCannons", "(J)J"⟩
abbrev cX4_digestOfClouds : ByteArray := prog_1_method_21_code
def yX4_digestOfClouds : MethodName := ⟨RX4, "digestOfClouds", "(J)J"⟩
abbrev cX4_lostWith : ByteArray := prog_1_method_22_code
def yX4_lostWith : MethodName := ⟨RX4, "lostWith", "(III)I"⟩
abbrev cX4_isPlace : ByteArray := prog_1_method_23_code
def yX4_isPlace : MethodName := ⟨RX4, "isPlace", "(I)Z"⟩
abbrev cX4_requireArgument : ByteArray := prog_1_method_24_code
def yX4_requireArgument : MethodName := ⟨RX4, "requireArgument", "(Z)V"⟩
abbrev cX4_requireState : ByteArray := prog_1_method_25_code
def yX4_requireState : MethodName := ⟨RX4, "requireState", "(Z)V"⟩
abbrev cX4_requireIndex : ByteArray := prog_1_method_26_code
def yX4_requireIndex : MethodName := ⟨RX4, "requireIndex", "(II)V"⟩
abbrev cX4_requireForeseen : ByteArray := prog_1_method_27_code
def yX4_requireForeseen : MethodName := ⟨RX4, "requireForeseen", "(I)V"⟩
def RX5 : String := "HailLeagueModel$State"
def TX5 : u_T := fun k => match k with
  | 0 => ("HailLeagueModel$State", "hour", "I", false)
  | 1 => ("HailLeagueModel$State", "coins", "I", false)
  | 2 => ("HailLeagueModel$State", "vines", "[I", true)
  | 3 => ("HailLeagueModel$State", "lost", "[I", true)
  | 4 => ("HailLeagueModel$State", "lostAll", "[I", true)
  | 5 => ("HailLeagueModel$State", "suits", "[I", true)
  | 6 => ("HailLeagueModel$State", "stands", "[I", true)
  | 7 => ("HailLeagueModel$State", "powder", "[I", true)
  | 8 => ("HailLeagueModel$State", "shots", "[I", true)
  | 9 => ("HailLeagueModel$State", "place", "[I", true)
  | 10 => ("HailLeagueModel$State", "hail", "[I", true)
  | _ => ("HailLeagueModel$State", "this$0", "LHailLeagueModel;", true)
def tyX5 : Nat → FieldType := fun k => match k with
  | 0 => .int
  | 1 => .int
  | 2 => .array .int
  | 3 => .array .int
  | 4 => .array .int
  | 5 => .array .int
  | 6 => .array .int
  | 7 => .array .int
  | 8 => .array .int
  | 9 => .array .int
  | 10 => .array .int
  | _ => .object "HailLeagueModel"
abbrev wsX50 : List Cond := u_ws RX5 TX5 12
theorem nmX5 : ∀ a, a < 12 → ∀ b, b < 12 → a ≠ b → (TX5 a).2.1 ≠ (TX5 b).2.1 := by decide +kernel
theorem tyX5_ok : ∀ k, k < 12 → parseFieldDescriptor (TX5 k).2.2.1 = some (tyX5 k) := by decide +kernel
abbrev cX5_init : ByteArray := prog_8_method_1_code
def yX5_init : MethodName := ⟨RX5, "<init>", "(LHailLeagueModel;)V"⟩
abbrev cX5_copy : ByteArray := prog_8_method_2_code
def yX5_copy : MethodName := ⟨RX5, "copy", "([I[I)V"⟩
abbrev cX5_become : ByteArray := prog_8_method_3_code
def yX5_become : MethodName := ⟨RX5, "become", "(LHailLeagueModel$State;)V"⟩
abbrev cX5_isGone : ByteArray := prog_8_method_4_code
def yX5_isGone : MethodName := ⟨RX5, "isGone", "(I)Z"⟩
abbrev cX5_far : ByteArray := prog_8_method_5_code
def yX5_far : MethodName := ⟨RX5, "far", "(II)I"⟩
abbrev cX5_aims : ByteArray := prog_8_method_6_code
def yX5_aims : MethodName := ⟨RX5, "aims", "(I)I"⟩
abbrev cX5_shoot : ByteArray := prog_8_method_7_code
def yX5_shoot : MethodName := ⟨RX5, "shoot", "(I)V"⟩
abbrev cX5_drop : ByteArray := prog_8_method_8_code
def yX5_drop : MethodName := ⟨RX5, "drop", "(I)V"⟩
abbrev cX5_settle : ByteArray := prog_8_method_9_code
def yX5_settle : MethodName := ⟨RX5, "settle", "(I)V"⟩
abbrev cX5_pass : ByteArray := prog_8_method_10_code
def yX5_pass : MethodName := ⟨RX5, "pass", "()V"⟩
abbrev cX5_pass_ : ByteArray := prog_8_method_11_code
def yX5_pass_ : MethodName := ⟨RX5, "pass", "(I)V"⟩
abbrev cX5_sum : ByteArray := prog_8_method_12_code
def yX5_sum : MethodName := ⟨RX5, "sum", "([II)I"⟩
abbrev cX5_losses : ByteArray := prog_8_method_13_code
def yX5_losses : MethodName := ⟨RX5, "losses", "()I"⟩
abbrev cX5_counted : ByteArray := prog_8_method_14_code
def yX5_counted : MethodName := ⟨RX5, "counted", "(I)I"⟩
def RX6 : String := "HailLeagueModel"
def TX6 : u_T := fun k => match k with
  | 0 => ("HailLeagueModel", "thrown", "I", false)
  | 1 => ("HailLeagueModel", "yards", "I", false)
  | 2 => ("HailLeagueModel", "at", "[I", true)
  | 3 => ("HailLeagueModel", "member", "[I", true)
  | 4 => ("HailLeagueModel", "insured", "[I", true)
  | 5 => ("HailLeagueModel", "cannons", "I", false)
  | 6 => ("HailLeagueModel", "range", "[I", true)
  | 7 => ("HailLeagueModel", "clouds", "I", false)
  | 8 => ("HailLeagueModel", "drift", "[I", true)
  | 9 => ("HailLeagueModel", "wind", "[I", true)
  | 10 => ("HailLeagueModel", "s", "LHailLeagueModel$State;", true)
  | _ => ("HailLeagueModel", "ahead", "LHailLeagueModel$State;", true)
def tyX6 : Nat → FieldType := fun k => match k with
  | 0 => .int
  | 1 => .int
  | 2 => .array .int
  | 3 => .array .int
  | 4 => .array .int
  | 5 => .int
  | 6 => .array .int
  | 7 => .int
  | 8 => .array .int
  | 9 => .array .int
  | 10 => .object "HailLeagueModel$State"
  | _ => .object "HailLeagueModel$State"
abbrev wsX60 : List Cond := u_ws RX6 TX6 12
theorem nmX6 : ∀ a, a < 12 → ∀ b, b < 12 → a ≠ b → (TX6 a).2.1 ≠ (TX6 b).2.1 := by decide +kernel
theorem tyX6_ok : ∀ k, k < 12 → parseFieldDescriptor (TX6 k).2.2.1 = some (tyX6 k) := by decide +kernel
abbrev cX6_init : ByteArray := prog_7_method_1_code
def yX6_init : MethodName := ⟨RX6, "<init>", "()V"⟩
abbrev cX6_thrown : ByteArray := prog_7_method_2_code
def yX6_thrown : MethodName := ⟨RX6, "thrown", "()I"⟩
abbrev cX6_no : ByteArray := prog_7_method_3_code
def yX6_no : MethodName := ⟨RX6, "no", "(I)I"⟩
abbrev cX6_isIn : ByteArray := prog_7_method_4_code
def yX6_isIn : MethodName := ⟨RX6, "isIn", "(III)Z"⟩
abbrev cX6_isPlace : ByteArray := prog_7_method_5_code
def yX6_isPlace : MethodName := ⟨RX6, "isPlace", "(I)Z"⟩
abbrev cX6_isYard : ByteArray := prog_7_method_6_code
def yX6_isYard : MethodName := ⟨RX6, "isYard", "(I)Z"⟩
abbrev cX6_isCannon : ByteArray := prog_7_method_7_code
def yX6_isCannon : MethodName := ⟨RX6, "isCannon", "(I)Z"⟩
abbrev cX6_plant : ByteArray := prog_7_method_8_code
def yX6_plant : MethodName := ⟨RX6, "plant", "(IIZZ)I"⟩
abbrev cX6_sign : ByteArray := prog_7_method_9_code
def yX6_sign : MethodName := ⟨RX6, "sign", "(IZZ)I"⟩
abbrev cX6_cannon : ByteArray := prog_7_method_10_code
def yX6_cannon : MethodName := ⟨RX6, "cannon", "(III)I"⟩
abbrev cX6_load : ByteArray := prog_7_method_11_code
def yX6_load : MethodName := ⟨RX6, "load", "(II)I"⟩
abbrev cX6_gather : ByteArray := prog_7_method_12_code
def yX6_gather : MethodName := ⟨RX6, "gather", "(III)I"⟩
abbrev cX6_setWind : ByteArray := prog_7_method_13_code
def yX6_setWind : MethodName := ⟨RX6, "setWind", "(II)I"⟩
abbrev cX6_yardTold : ByteArray := prog_7_method_14_code
def yX6_yardTold : MethodName := ⟨RX6, "yardTold", "(II)I"⟩
abbrev cX6_vineyard : ByteArray := prog_7_method_15_code
def yX6_vineyard : MethodName := ⟨RX6, "vineyard", "(II)I"⟩
abbrev cX6_cannonTold : ByteArray := prog_7_method_16_code
def yX6_cannonTold : MethodName := ⟨RX6, "cannonTold", "(II)I"⟩
abbrev cX6_about : ByteArray := prog_7_method_17_code
def yX6_about : MethodName := ⟨RX6, "about", "(II)I"⟩
abbrev cX6_cloudTold : ByteArray := prog_7_method_18_code
def yX6_cloudTold : MethodName := ⟨RX6, "cloudTold", "(II)I"⟩
abbrev cX6_cloud : ByteArray := prog_7_method_19_code
def yX6_cloud : MethodName := ⟨RX6, "cloud", "(II)I"⟩
abbrev cX6_count : ByteArray := prog_7_method_20_code
def yX6_count : MethodName := ⟨RX6, "count", "(I)I"⟩
abbrev cX6_pass : ByteArray := prog_7_method_21_code
def yX6_pass : MethodName := ⟨RX6, "pass", "(I)I"⟩
abbrev cX6_hit : ByteArray := prog_7_method_22_code
def yX6_hit : MethodName := ⟨RX6, "hit", "(I)I"⟩
abbrev cX6_foresee : ByteArray := prog_7_method_23_code
def yX6_foresee : MethodName := ⟨RX6, "foresee", "(II)I"⟩
abbrev cX6_lostWith : ByteArray := prog_7_method_24_code
def yX6_lostWith : MethodName := ⟨RX6, "lostWith", "(III)I"⟩
abbrev cX6_advise : ByteArray := prog_7_method_25_code
def yX6_advise : MethodName := ⟨RX6, "advise", "(II)I"⟩
abbrev cX6_move : ByteArray := prog_7_method_26_code
def yX6_move : MethodName := ⟨RX6, "move", "(II)I"⟩
abbrev cX6_mean : ByteArray := prog_7_method_27_code
def yX6_mean : MethodName := ⟨RX6, "mean", "()D"⟩
abbrev cX6_digest : ByteArray := prog_7_method_28_code
def yX6_digest : MethodName := ⟨RX6, "digest", "()J"⟩
def RJ9 : String := "java/lang/Math"
def TJ9 : u_T := fun k => match k with
  | _ => ("", "", "", false)
def tyJ9 : Nat → FieldType := fun k => match k with
  | _ => .int
abbrev wsJ90 : List Cond := u_ws RJ9 TJ9 0
theorem nmJ9 : ∀ a, a < 0 → ∀ b, b < 0 → a ≠ b → (TJ9 a).2.1 ≠ (TJ9 b).2.1 := by decide +kernel
theorem tyJ9_ok : ∀ k, k < 0 → parseFieldDescriptor (TJ9 k).2.2.1 = some (tyJ9 k) := by decide +kernel
abbrev cJ9_floorMod_7cf53 : ByteArray := prog_13_method_50_code
def yJ9_floorMod_7cf53 : MethodName := ⟨RJ9, "floorMod", "(II)I"⟩
abbrev cJ9_abs_0f7a4 : ByteArray := prog_13_method_59_code
def yJ9_abs_0f7a4 : MethodName := ⟨RJ9, "abs", "(I)I"⟩
abbrev cJ9_max_7cf53 : ByteArray := prog_13_method_65_code
def yJ9_max_7cf53 : MethodName := ⟨RJ9, "max", "(II)I"⟩
abbrev cJ9_min_7cf53 : ByteArray := prog_13_method_69_code
def yJ9_min_7cf53 : MethodName := ⟨RJ9, "min", "(II)I"⟩
def RJ10 : String := "java/lang/System"
def TJ10 : u_T := fun k => match k with
  | _ => ("", "", "", false)
def tyJ10 : Nat → FieldType := fun k => match k with
  | _ => .int
abbrev wsJ100 : List Cond := u_ws RJ10 TJ10 0
theorem nmJ10 : ∀ a, a < 0 → ∀ b, b < 0 → a ≠ b → (TJ10 a).2.1 ≠ (TJ10 b).2.1 := by decide +kernel
theorem tyJ10_ok : ∀ k, k < 0 → parseFieldDescriptor (TJ10 k).2.2.1 = some (tyJ10 k) := by decide +kernel
def RL : String := "HailLeagueLaw"
abbrev cL_plant : ByteArray := method_3_code
def yL_plant : MethodName := ⟨RL, "plant", "(LHailLeague;IIZZ[J)I"⟩
abbrev cL_sign : ByteArray := method_4_code
def yL_sign : MethodName := ⟨RL, "sign", "(LHailLeague;IZZ[J)I"⟩
abbrev cL_cannon : ByteArray := method_5_code
def yL_cannon : MethodName := ⟨RL, "cannon", "(LHailLeague;III[J)I"⟩
abbrev cL_load : ByteArray := method_6_code
def yL_load : MethodName := ⟨RL, "load", "(LHailLeague;II[J)I"⟩
abbrev cL_gather : ByteArray := method_7_code
def yL_gather : MethodName := ⟨RL, "gather", "(LHailLeague;III[J)I"⟩
abbrev cL_setWind : ByteArray := method_8_code
def yL_setWind : MethodName := ⟨RL, "setWind", "(LHailLeague;II[J)I"⟩
abbrev cL_vineyard : ByteArray := method_9_code
def yL_vineyard : MethodName := ⟨RL, "vineyard", "(LHailLeague;II[J)I"⟩
abbrev cL_about : ByteArray := method_10_code
def yL_about : MethodName := ⟨RL, "about", "(LHailLeague;II[J)I"⟩
abbrev cL_cloud : ByteArray := method_11_code
def yL_cloud : MethodName := ⟨RL, "cloud", "(LHailLeague;II[J)I"⟩
abbrev cL_count : ByteArray := method_12_code
def yL_count : MethodName := ⟨RL, "count", "(LHailLeague;I[J)I"⟩
abbrev cL_pass : ByteArray := method_13_code
def yL_pass : MethodName := ⟨RL, "pass", "(LHailLeague;I[J)I"⟩
abbrev cL_hit : ByteArray := method_14_code
def yL_hit : MethodName := ⟨RL, "hit", "(LHailLeague;I[J)I"⟩
abbrev cL_foresee : ByteArray := method_15_code
def yL_foresee : MethodName := ⟨RL, "foresee", "(LHailLeague;II[J)I"⟩
abbrev cL_advise : ByteArray := method_16_code
def yL_advise : MethodName := ⟨RL, "advise", "(LHailLeague;II[J)I"⟩
abbrev cL_move : ByteArray := method_17_code
def yL_move : MethodName := ⟨RL, "move", "(LHailLeague;II[J)I"⟩
abbrev cL_law : ByteArray := code
def yL_law : MethodName := ⟨RL, "law", "([I)Z"⟩
abbrev vwCl : List vw_C := [(RX0, TX0, 5), (RX1, TX1, 5), (RX2, TX2, 6), (RX3, TX3, 8), (RX4, TX4, 2), (RX5, TX5, 12), (RX6, TX6, 12)]
end
section
def WW : List Cond := lw_tbl.filter goodWord
theorem wt0 {w : Cond} (i : Nat) (h : (k2_sels lw_privs)[i]? = some w) (g : goodWord w = true) : w ∈ WW := List.mem_filter.mpr ⟨List.mem_append_left _ (List.mem_of_getElem? h), g⟩
theorem wn1 {w : Cond} (i : Nat) (h : tables_1_1[i]? = some w) : w ∈ lw_tbl := List.mem_append_right _ (show w ∈ tables_1_1 ++ (tables_1_2 ++ (tables_1_3 ++ tables_1_4)) from List.mem_append_left _ (List.mem_of_getElem? h))
theorem wt1 {w : Cond} (i : Nat) (h : tables_1_1[i]? = some w) (g : goodWord w = true) : w ∈ WW := List.mem_filter.mpr ⟨wn1 i h, g⟩
theorem wn2 {w : Cond} (i : Nat) (h : tables_1_2[i]? = some w) : w ∈ lw_tbl := List.mem_append_right _ (show w ∈ tables_1_1 ++ (tables_1_2 ++ (tables_1_3 ++ tables_1_4)) from List.mem_append_right _ <| List.mem_append_left _ (List.mem_of_getElem? h))
theorem wt2 {w : Cond} (i : Nat) (h : tables_1_2[i]? = some w) (g : goodWord w = true) : w ∈ WW := List.mem_filter.mpr ⟨wn2 i h, g⟩
theorem wn3 {w : Cond} (i : Nat) (h : tables_1_3[i]? = some w) : w ∈ lw_tbl := List.mem_append_right _ (show w ∈ tables_1_1 ++ (tables_1_2 ++ (tables_1_3 ++ tables_1_4)) from List.mem_append_right _ <| List.mem_append_right _ <| List.mem_append_left _ (List.mem_of_getElem? h))
theorem wt3 {w : Cond} (i : Nat) (h : tables_1_3[i]? = some w) (g : goodWord w = true) : w ∈ WW := List.mem_filter.mpr ⟨wn3 i h, g⟩
theorem wn4 {w : Cond} (i : Nat) (h : tables_1_4[i]? = some w) : w ∈ lw_tbl := List.mem_append_right _ (show w ∈ tables_1_1 ++ (tables_1_2 ++ (tables_1_3 ++ tables_1_4)) from List.mem_append_right _ <| List.mem_append_right _ <| List.mem_append_right _ (List.mem_of_getElem? h))
theorem wt4 {w : Cond} (i : Nat) (h : tables_1_4[i]? = some w) (g : goodWord w = true) : w ∈ WW := List.mem_filter.mpr ⟨wn4 i h, g⟩
theorem wl_in : ∀ w ∈ WW, w ∈ lw_tbl := fun _ h => (List.mem_filter.mp h).1
theorem kw_s0 : Cond.selects RX3 yX3_sum yX3_sum ∈ WW := wt0 0 rfl rfl
theorem kw_s1 : Cond.selects RX3 yX3_howManyAre yX3_howManyAre ∈ WW := wt0 1 rfl rfl
theorem kw_s2 : Cond.selects RX4 yX4_digestOfVineyards yX4_digestOfVineyards ∈ WW := wt0 2 rfl rfl
theorem kw_s3 : Cond.selects RX4 yX4_digestOfCannons yX4_digestOfCannons ∈ WW := wt0 3 rfl rfl
theorem kw_s4 : Cond.selects RX0 yX0_target yX0_target ∈ WW := wt0 4 rfl rfl
theorem kw_s5 : Cond.selects RX4 yX4_digestOfClouds yX4_digestOfClouds ∈ WW := wt0 5 rfl rfl
theorem kw_s6 : Cond.selects "java/lang/Throwable" ⟨"java/lang/Throwable", "fillInStackTrace", "(I)Ljava/lang/Throwable;"⟩ ⟨"java/lang/Throwable", "fillInStackTrace", "(I)Ljava/lang/Throwable;"⟩ ∈ WW := wt0 6 rfl rfl
theorem kw_s7 : Cond.selects RX4 yX4_lostWith yX4_lostWith ∈ WW := wt0 7 rfl rfl
theorem kw_s8 : Cond.selects RX6 yX6_no yX6_no ∈ WW := wt0 8 rfl rfl
theorem kw_s9 : Cond.selects RX6 yX6_isYard yX6_isYard ∈ WW := wt0 9 rfl rfl
theorem kw_s10 : Cond.selects RX6 yX6_isCannon yX6_isCannon ∈ WW := wt0 10 rfl rfl
theorem kw_s11 : Cond.selects RX6 yX6_yardTold yX6_yardTold ∈ WW := wt0 11 rfl rfl
theorem kw_s12 : Cond.selects RX6 yX6_cannonTold yX6_cannonTold ∈ WW := wt0 12 rfl rfl
theorem kw_s13 : Cond.selects RX6 yX6_cloudTold yX6_cloudTold ∈ WW := wt0 13 rfl rfl
theorem kw_s14 : Cond.selects RX5 yX5_sum yX5_sum ∈ WW := wt0 14 rfl rfl
theorem kw_s15 : Cond.selects RX5 yX5_shoot yX5_shoot ∈ WW := wt0 15 rfl rfl
theorem kw_s16 : Cond.selects RX5 yX5_drop yX5_drop ∈ WW := wt0 16 rfl rfl
theorem kw_s17 : Cond.selects RX5 yX5_settle yX5_settle ∈ WW := wt0 17 rfl rfl
theorem kw_s18 : Cond.selects RX5 yX5_copy yX5_copy ∈ WW := wt0 18 rfl rfl
theorem kw_s19 : Cond.selects RX6 yX6_lostWith yX6_lostWith ∈ WW := wt0 19 rfl rfl
theorem kw_1_0 : Cond.initialized RL ∈ WW := wt1 0 rfl rfl
theorem kw_1_1 : Cond.initialized RX4 ∈ WW := wt1 1 rfl rfl
theorem kw_1_2 : Cond.initialized RX2 ∈ WW := wt1 2 rfl rfl
theorem kw_1_3 : Cond.initialized RX3 ∈ WW := wt1 3 rfl rfl
theorem kw_1_4 : Cond.initialized RX0 ∈ WW := wt1 4 rfl rfl
theorem kw_1_5 : Cond.initialized RX1 ∈ WW := wt1 5 rfl rfl
theorem kw_1_6 : Cond.initialized RX6 ∈ WW := wt1 6 rfl rfl
theorem kw_1_7 : Cond.initialized RX5 ∈ WW := wt1 7 rfl rfl
theorem kw_1_8 : Cond.initialized "java/lang/Throwable" ∈ WW := wt1 8 rfl rfl
theorem kw_1_9 : Cond.initialized "java/lang/Exception" ∈ WW := wt1 9 rfl rfl
theorem kw_1_10 : Cond.initialized "java/lang/RuntimeException" ∈ WW := wt1 10 rfl rfl
theorem kw_1_11 : Cond.initialized "java/lang/IllegalArgumentException" ∈ WW := wt1 11 rfl rfl
theorem kw_1_12 : Cond.initialized "java/lang/IllegalStateException" ∈ WW := wt1 12 rfl rfl
theorem kw_1_13 : Cond.initialized "java/lang/IndexOutOfBoundsException" ∈ WW := wt1 13 rfl rfl
theorem kw_1_14 : Cond.initialized RJ9 ∈ WW := wt1 14 rfl rfl
theorem kw_1_15 : Cond.initialized RJ10 ∈ WW := wt1 15 rfl rfl
theorem kw_1_16 : Cond.classLink RL 8 "HailLeague" ∈ WW := wt1 16 rfl rfl
theorem kw_1_17 : Cond.instantiable RX4 2 ∈ WW := wt1 17 rfl rfl
theorem kw_1_18 : Cond.methodLink RL 65 yX4_init ∈ WW := wt1 18 rfl rfl
theorem kw_1_19 : Cond.instanceMethod yX4_init ∈ WW := wt1 19 rfl rfl
theorem kw_1_20 : Cond.code yX4_init prog_1_method_1_code 1 none ∈ WW := wt1 20 rfl rfl
theorem kw_1_21 : Cond.methodLink RX4 1 ⟨"java/lang/Object", "<init>", "()V"⟩ ∈ WW := wt1 21 rfl rfl
theorem kw_1_22 : Cond.instanceMethod ⟨"java/lang/Object", "<init>", "()V"⟩ ∈ WW := wt1 22 rfl rfl
theorem kw_1_23 : Cond.code ⟨"java/lang/Object", "<init>", "()V"⟩ object_method_1_code 1 none ∈ WW := wt1 23 rfl rfl
theorem kw_1_24 : Cond.classLink RX4 7 "HailLeague$League" ∈ WW := wt1 24 rfl rfl
theorem kw_1_25 : Cond.instantiable RX2 6 ∈ WW := wt1 25 rfl rfl
theorem kw_1_26 : Cond.methodLink RX4 9 yX2_init ∈ WW := wt1 26 rfl rfl
theorem kw_1_27 : Cond.instanceMethod yX2_init ∈ WW := wt1 27 rfl rfl
theorem kw_1_28 : Cond.code yX2_init prog_4_method_1_code 1 none ∈ WW := wt1 28 rfl rfl
theorem kw_1_29 : Cond.methodLink RX2 3 ⟨"java/lang/Object", "<init>", "()V"⟩ ∈ WW := wt1 29 rfl rfl
theorem kw_1_30 : Cond.classLink RX2 9 "HailLeague$Vineyards" ∈ WW := wt1 30 rfl rfl
theorem kw_1_31 : Cond.instantiable RX3 8 ∈ WW := wt1 31 rfl rfl
theorem kw_1_32 : Cond.methodLink RX2 11 yX3_init ∈ WW := wt1 32 rfl rfl
theorem kw_1_33 : Cond.instanceMethod yX3_init ∈ WW := wt1 33 rfl rfl
theorem kw_1_34 : Cond.code yX3_init prog_5_method_1_code 1 none ∈ WW := wt1 34 rfl rfl
theorem kw_1_35 : Cond.methodLink RX3 3 ⟨"java/lang/Object", "<init>", "()V"⟩ ∈ WW := wt1 35 rfl rfl
theorem kw_1_36 : Cond.fieldLink RX3 9 "HailLeague$Vineyards" "place" "[I" ∈ WW := wt1 36 rfl rfl
theorem kw_1_37 : Cond.fieldLink RX3 15 "HailLeague$Vineyards" "vines" "[I" ∈ WW := wt1 37 rfl rfl
theorem kw_1_38 : Cond.fieldLink RX3 18 "HailLeague$Vineyards" "member" "[Z" ∈ WW := wt1 38 rfl rfl
theorem kw_1_39 : Cond.fieldLink RX3 22 "HailLeague$Vineyards" "insured" "[Z" ∈ WW := wt1 39 rfl rfl
theorem kw_1_40 : Cond.fieldLink RX3 25 "HailLeague$Vineyards" "lostToday" "[I" ∈ WW := wt1 40 rfl rfl
theorem kw_1_41 : Cond.fieldLink RX3 28 "HailLeague$Vineyards" "suits" "[I" ∈ WW := wt1 41 rfl rfl
theorem kw_1_42 : Cond.fieldLink RX3 31 "HailLeague$Vineyards" "lostInAll" "[I" ∈ WW := wt1 42 rfl rfl
theorem kw_1_43 : Cond.fieldLink RX4 104 "HailLeague$Vineyards" "lostInAll" "[I" ∈ WW := wt1 43 rfl rfl
theorem kw_1_44 : Cond.fieldLink RX3 34 "HailLeague$Vineyards" "count" "I" ∈ WW := wt1 44 rfl rfl
theorem kw_1_45 : Cond.fieldLink RX4 31 "HailLeague$Vineyards" "count" "I" ∈ WW := wt1 45 rfl rfl
theorem kw_1_46 : Cond.laysFinal RX3 "HailLeague$Vineyards" "place" "[I" ∈ WW := wt1 46 rfl rfl
theorem kw_1_48 : Cond.laysFinal RX3 "HailLeague$Vineyards" "vines" "[I" ∈ WW := wt1 48 rfl rfl
theorem kw_1_50 : Cond.laysFinal RX3 "HailLeague$Vineyards" "member" "[Z" ∈ WW := wt1 50 rfl rfl
theorem kw_1_52 : Cond.laysFinal RX3 "HailLeague$Vineyards" "insured" "[Z" ∈ WW := wt1 52 rfl rfl
theorem kw_1_54 : Cond.laysFinal RX3 "HailLeague$Vineyards" "lostToday" "[I" ∈ WW := wt1 54 rfl rfl
theorem kw_1_56 : Cond.laysFinal RX3 "HailLeague$Vineyards" "suits" "[I" ∈ WW := wt1 56 rfl rfl
theorem kw_1_58 : Cond.laysFinal RX3 "HailLeague$Vineyards" "lostInAll" "[I" ∈ WW := wt1 58 rfl rfl
theorem kw_1_60 : Cond.lays RX3 "HailLeague$Vineyards" "count" "I" ∈ WW := wt1 60 rfl rfl
theorem kw_1_63 : Cond.arrayClass .int ∈ WW := wt1 63 rfl rfl
theorem kw_1_64 : Cond.arrayClass .boolean ∈ WW := wt1 64 rfl rfl
theorem kw_1_65 : Cond.classLink RX2 18 "HailLeague$Cannons" ∈ WW := wt1 65 rfl rfl
theorem kw_1_66 : Cond.instantiable RX0 5 ∈ WW := wt1 66 rfl rfl
theorem kw_1_67 : Cond.methodLink RX2 20 yX0_init ∈ WW := wt1 67 rfl rfl
theorem kw_1_68 : Cond.instanceMethod yX0_init ∈ WW := wt1 68 rfl rfl
theorem kw_1_69 : Cond.code yX0_init prog_2_method_1_code 1 none ∈ WW := wt1 69 rfl rfl
theorem kw_1_70 : Cond.methodLink RX0 3 ⟨"java/lang/Object", "<init>", "()V"⟩ ∈ WW := wt1 70 rfl rfl
theorem kw_1_71 : Cond.fieldLink RX0 9 "HailLeague$Cannons" "place" "[I" ∈ WW := wt1 71 rfl rfl
theorem kw_1_72 : Cond.fieldLink RX4 117 "HailLeague$Cannons" "place" "[I" ∈ WW := wt1 72 rfl rfl
theorem kw_1_73 : Cond.fieldLink RX0 15 "HailLeague$Cannons" "range" "[I" ∈ WW := wt1 73 rfl rfl
theorem kw_1_74 : Cond.fieldLink RX0 18 "HailLeague$Cannons" "powder" "[I" ∈ WW := wt1 74 rfl rfl
theorem kw_1_75 : Cond.fieldLink RX0 21 "HailLeague$Cannons" "shots" "[I" ∈ WW := wt1 75 rfl rfl
theorem kw_1_76 : Cond.fieldLink RX0 24 "HailLeague$Cannons" "count" "I" ∈ WW := wt1 76 rfl rfl
theorem kw_1_77 : Cond.fieldLink RX4 56 "HailLeague$Cannons" "count" "I" ∈ WW := wt1 77 rfl rfl
theorem kw_1_78 : Cond.laysFinal RX0 "HailLeague$Cannons" "place" "[I" ∈ WW := wt1 78 rfl rfl
theorem kw_1_80 : Cond.laysFinal RX0 "HailLeague$Cannons" "range" "[I" ∈ WW := wt1 80 rfl rfl
theorem kw_1_82 : Cond.laysFinal RX0 "HailLeague$Cannons" "powder" "[I" ∈ WW := wt1 82 rfl rfl
theorem kw_1_84 : Cond.laysFinal RX0 "HailLeague$Cannons" "shots" "[I" ∈ WW := wt1 84 rfl rfl
theorem kw_1_86 : Cond.lays RX0 "HailLeague$Cannons" "count" "I" ∈ WW := wt1 86 rfl rfl
theorem kw_1_89 : Cond.classLink RX2 25 "HailLeague$Clouds" ∈ WW := wt1 89 rfl rfl
theorem kw_1_90 : Cond.instantiable RX1 5 ∈ WW := wt1 90 rfl rfl
theorem kw_1_91 : Cond.methodLink RX2 27 yX1_init ∈ WW := wt1 91 rfl rfl
theorem kw_1_92 : Cond.instanceMethod yX1_init ∈ WW := wt1 92 rfl rfl
theorem kw_1_93 : Cond.code yX1_init prog_3_method_1_code 1 none ∈ WW := wt1 93 rfl rfl
theorem kw_1_94 : Cond.methodLink RX1 3 ⟨"java/lang/Object", "<init>", "()V"⟩ ∈ WW := wt1 94 rfl rfl
theorem kw_1_95 : Cond.fieldLink RX1 9 "HailLeague$Clouds" "place" "[I" ∈ WW := wt1 95 rfl rfl
theorem kw_1_96 : Cond.fieldLink RX1 15 "HailLeague$Clouds" "drift" "[I" ∈ WW := wt1 96 rfl rfl
theorem kw_1_97 : Cond.fieldLink RX1 18 "HailLeague$Clouds" "hail" "[I" ∈ WW := wt1 97 rfl rfl
theorem kw_1_98 : Cond.fieldLink RX1 21 "HailLeague$Clouds" "gone" "[Z" ∈ WW := wt1 98 rfl rfl
theorem kw_1_99 : Cond.fieldLink RX1 25 "HailLeague$Clouds" "count" "I" ∈ WW := wt1 99 rfl rfl
theorem kw_1_100 : Cond.fieldLink RX4 73 "HailLeague$Clouds" "count" "I" ∈ WW := wt1 100 rfl rfl
theorem kw_1_101 : Cond.laysFinal RX1 "HailLeague$Clouds" "place" "[I" ∈ WW := wt1 101 rfl rfl
theorem kw_1_103 : Cond.laysFinal RX1 "HailLeague$Clouds" "drift" "[I" ∈ WW := wt1 103 rfl rfl
theorem kw_1_105 : Cond.laysFinal RX1 "HailLeague$Clouds" "hail" "[I" ∈ WW := wt1 105 rfl rfl
theorem kw_1_107 : Cond.laysFinal RX1 "HailLeague$Clouds" "gone" "[Z" ∈ WW := wt1 107 rfl rfl
theorem kw_1_109 : Cond.lays RX1 "HailLeague$Clouds" "count" "I" ∈ WW := wt1 109 rfl rfl
theorem kw_1_112 : Cond.fieldLink RX2 12 "HailLeague$League" "vineyards" "LHailLeague$Vineyards;" ∈ WW := wt1 112 rfl rfl
theorem kw_1_113 : Cond.fieldLink RX4 27 "HailLeague$League" "vineyards" "LHailLeague$Vineyards;" ∈ WW := wt1 113 rfl rfl
theorem kw_1_114 : Cond.fieldLink RX2 21 "HailLeague$League" "cannons" "LHailLeague$Cannons;" ∈ WW := wt1 114 rfl rfl
theorem kw_1_115 : Cond.fieldLink RX4 52 "HailLeague$League" "cannons" "LHailLeague$Cannons;" ∈ WW := wt1 115 rfl rfl
theorem kw_1_116 : Cond.fieldLink RX2 28 "HailLeague$League" "clouds" "LHailLeague$Clouds;" ∈ WW := wt1 116 rfl rfl
theorem kw_1_117 : Cond.fieldLink RX4 69 "HailLeague$League" "clouds" "LHailLeague$Clouds;" ∈ WW := wt1 117 rfl rfl
theorem kw_1_118 : Cond.fieldLink RX2 32 "HailLeague$League" "wind" "[I" ∈ WW := wt1 118 rfl rfl
theorem kw_1_119 : Cond.fieldLink RX4 77 "HailLeague$League" "wind" "[I" ∈ WW := wt1 119 rfl rfl
theorem kw_1_120 : Cond.fieldLink RX2 36 "HailLeague$League" "hour" "I" ∈ WW := wt1 120 rfl rfl
theorem kw_1_121 : Cond.fieldLink RX2 40 "HailLeague$League" "coins" "I" ∈ WW := wt1 121 rfl rfl
theorem kw_1_122 : Cond.fieldLink RX4 62 "HailLeague$League" "coins" "I" ∈ WW := wt1 122 rfl rfl
theorem kw_1_123 : Cond.laysFinal RX2 "HailLeague$League" "vineyards" "LHailLeague$Vineyards;" ∈ WW := wt1 123 rfl rfl
theorem kw_1_125 : Cond.laysFinal RX2 "HailLeague$League" "cannons" "LHailLeague$Cannons;" ∈ WW := wt1 125 rfl rfl
theorem kw_1_127 : Cond.laysFinal RX2 "HailLeague$League" "clouds" "LHailLeague$Clouds;" ∈ WW := wt1 127 rfl rfl
theorem kw_1_129 : Cond.laysFinal RX2 "HailLeague$League" "wind" "[I" ∈ WW := wt1 129 rfl rfl
theorem kw_1_131 : Cond.lays RX2 "HailLeague$League" "hour" "I" ∈ WW := wt1 131 rfl rfl
theorem kw_1_133 : Cond.lays RX2 "HailLeague$League" "coins" "I" ∈ WW := wt1 133 rfl rfl
theorem kw_1_136 : Cond.fieldLink RX4 10 "HailLeague" "now" "LHailLeague$League;" ∈ WW := wt1 136 rfl rfl
theorem kw_1_137 : Cond.fieldLink RX4 16 "HailLeague" "trial" "LHailLeague$League;" ∈ WW := wt1 137 rfl rfl
theorem kw_1_138 : Cond.laysFinal RX4 "HailLeague" "now" "LHailLeague$League;" ∈ WW := wt1 138 rfl rfl
theorem kw_1_140 : Cond.laysFinal RX4 "HailLeague" "trial" "LHailLeague$League;" ∈ WW := wt1 140 rfl rfl
theorem kw_1_143 : Cond.methodLink RL 125 yX4_mean ∈ WW := wt1 143 rfl rfl
theorem kw_1_144 : Cond.instanceMethod yX4_mean ∈ WW := wt1 144 rfl rfl
theorem kw_1_145 : Cond.selects RX4 yX4_mean yX4_mean ∈ WW := wt1 145 rfl rfl
theorem kw_1_146 : Cond.code yX4_mean prog_1_method_17_code 1 (some .double) ∈ WW := wt1 146 rfl rfl
theorem kw_1_147 : Cond.methodLink RX4 123 yX3_sumOfVines ∈ WW := wt1 147 rfl rfl
theorem kw_1_148 : Cond.instanceMethod yX3_sumOfVines ∈ WW := wt1 148 rfl rfl
theorem kw_1_149 : Cond.selects RX3 yX3_sumOfVines yX3_sumOfVines ∈ WW := wt1 149 rfl rfl
theorem kw_1_150 : Cond.code yX3_sumOfVines prog_5_method_8_code 1 (some .int) ∈ WW := wt1 150 rfl rfl
theorem kw_1_151 : Cond.methodLink RX3 48 yX3_sum ∈ WW := wt1 151 rfl rfl
theorem kw_1_153 : Cond.instanceMethod yX3_sum ∈ WW := wt1 153 rfl rfl
theorem kw_1_154 : Cond.code yX3_sum prog_5_method_13_code 4 (some .int) ∈ WW := wt1 154 rfl rfl
theorem kw_1_155 : Cond.methodLink RL 130 yX4_digest ∈ WW := wt1 155 rfl rfl
theorem kw_1_156 : Cond.instanceMethod yX4_digest ∈ WW := wt1 156 rfl rfl
theorem kw_1_157 : Cond.selects RX4 yX4_digest yX4_digest ∈ WW := wt1 157 rfl rfl
theorem kw_1_158 : Cond.code yX4_digest prog_1_method_18_code 4 (some .long) ∈ WW := wt1 158 rfl rfl
theorem kw_1_159 : Cond.constantLong RX4 126 1201 ∈ WW := wt1 159 rfl rfl
theorem kw_1_160 : Cond.constantLong RX4 128 31 ∈ WW := wt1 160 rfl rfl
theorem kw_1_161 : Cond.methodLink RX4 88 yX2_total ∈ WW := wt1 161 rfl rfl
theorem kw_1_162 : Cond.instanceMethod yX2_total ∈ WW := wt1 162 rfl rfl
theorem kw_1_163 : Cond.selects RX2 yX2_total yX2_total ∈ WW := wt1 163 rfl rfl
theorem kw_1_164 : Cond.code yX2_total prog_4_method_5_code 2 (some .int) ∈ WW := wt1 164 rfl rfl
theorem kw_1_165 : Cond.methodLink RX2 83 yX3_sumOfVines ∈ WW := wt1 165 rfl rfl
theorem kw_1_166 : Cond.methodLink RX2 86 yX3_sumOfLostInAll ∈ WW := wt1 166 rfl rfl
theorem kw_1_167 : Cond.instanceMethod yX3_sumOfLostInAll ∈ WW := wt1 167 rfl rfl
theorem kw_1_168 : Cond.selects RX3 yX3_sumOfLostInAll yX3_sumOfLostInAll ∈ WW := wt1 168 rfl rfl
theorem kw_1_169 : Cond.code yX3_sumOfLostInAll prog_5_method_9_code 1 (some .int) ∈ WW := wt1 169 rfl rfl
theorem kw_1_170 : Cond.methodLink RX2 89 yX3_sumOfSuits ∈ WW := wt1 170 rfl rfl
theorem kw_1_171 : Cond.instanceMethod yX3_sumOfSuits ∈ WW := wt1 171 rfl rfl
theorem kw_1_172 : Cond.selects RX3 yX3_sumOfSuits yX3_sumOfSuits ∈ WW := wt1 172 rfl rfl
theorem kw_1_173 : Cond.code yX3_sumOfSuits prog_5_method_10_code 1 (some .int) ∈ WW := wt1 173 rfl rfl
theorem kw_1_174 : Cond.methodLink RX2 92 yX3_members ∈ WW := wt1 174 rfl rfl
theorem kw_1_175 : Cond.instanceMethod yX3_members ∈ WW := wt1 175 rfl rfl
theorem kw_1_176 : Cond.selects RX3 yX3_members yX3_members ∈ WW := wt1 176 rfl rfl
theorem kw_1_177 : Cond.code yX3_members prog_5_method_11_code 1 (some .int) ∈ WW := wt1 177 rfl rfl
theorem kw_1_178 : Cond.methodLink RX3 52 yX3_howManyAre ∈ WW := wt1 178 rfl rfl
theorem kw_1_180 : Cond.instanceMethod yX3_howManyAre ∈ WW := wt1 180 rfl rfl
theorem kw_1_181 : Cond.code yX3_howManyAre prog_5_method_14_code 4 (some .int) ∈ WW := wt1 181 rfl rfl
theorem kw_1_182 : Cond.methodLink RX2 95 yX3_insuredOnes ∈ WW := wt1 182 rfl rfl
theorem kw_1_183 : Cond.instanceMethod yX3_insuredOnes ∈ WW := wt1 183 rfl rfl
theorem kw_1_184 : Cond.selects RX3 yX3_insuredOnes yX3_insuredOnes ∈ WW := wt1 184 rfl rfl
theorem kw_1_185 : Cond.code yX3_insuredOnes prog_5_method_12_code 1 (some .int) ∈ WW := wt1 185 rfl rfl
theorem kw_1_186 : Cond.methodLink RX2 98 yX1_there ∈ WW := wt1 186 rfl rfl
theorem kw_1_187 : Cond.instanceMethod yX1_there ∈ WW := wt1 187 rfl rfl
theorem kw_1_188 : Cond.selects RX1 yX1_there yX1_there ∈ WW := wt1 188 rfl rfl
theorem kw_1_189 : Cond.code yX1_there prog_3_method_9_code 3 (some .int) ∈ WW := wt1 189 rfl rfl
theorem kw_1_190 : Cond.methodLink RX2 101 yX0_sumOfShots ∈ WW := wt1 190 rfl rfl
theorem kw_1_191 : Cond.instanceMethod yX0_sumOfShots ∈ WW := wt1 191 rfl rfl
theorem kw_1_192 : Cond.selects RX0 yX0_sumOfShots yX0_sumOfShots ∈ WW := wt1 192 rfl rfl
theorem kw_1_193 : Cond.code yX0_sumOfShots prog_2_method_7_code 3 (some .int) ∈ WW := wt1 193 rfl rfl
theorem kw_1_194 : Cond.methodLink RX4 130 yX4_digestOfVineyards ∈ WW := wt1 194 rfl rfl
theorem kw_1_196 : Cond.instanceMethod yX4_digestOfVineyards ∈ WW := wt1 196 rfl rfl
theorem kw_1_197 : Cond.code yX4_digestOfVineyards prog_1_method_19_code 7 (some .long) ∈ WW := wt1 197 rfl rfl
theorem kw_1_198 : Cond.methodLink RX4 81 yX3_fact ∈ WW := wt1 198 rfl rfl
theorem kw_1_199 : Cond.instanceMethod yX3_fact ∈ WW := wt1 199 rfl rfl
theorem kw_1_200 : Cond.selects RX3 yX3_fact yX3_fact ∈ WW := wt1 200 rfl rfl
theorem kw_1_201 : Cond.code yX3_fact prog_5_method_4_code 3 (some .int) ∈ WW := wt1 201 rfl rfl
theorem kw_1_202 : Cond.methodLink RX4 134 yX4_digestOfCannons ∈ WW := wt1 202 rfl rfl
theorem kw_1_204 : Cond.instanceMethod yX4_digestOfCannons ∈ WW := wt1 204 rfl rfl
theorem kw_1_205 : Cond.code yX4_digestOfCannons prog_1_method_20_code 7 (some .long) ∈ WW := wt1 205 rfl rfl
theorem kw_1_206 : Cond.methodLink RX4 84 yX0_fact ∈ WW := wt1 206 rfl rfl
theorem kw_1_207 : Cond.instanceMethod yX0_fact ∈ WW := wt1 207 rfl rfl
theorem kw_1_208 : Cond.selects RX0 yX0_fact yX0_fact ∈ WW := wt1 208 rfl rfl
theorem kw_1_209 : Cond.code yX0_fact prog_2_method_4_code 4 (some .int) ∈ WW := wt1 209 rfl rfl
theorem kw_1_210 : Cond.methodLink RX0 34 yX0_target ∈ WW := wt1 210 rfl rfl
theorem kw_1_212 : Cond.instanceMethod yX0_target ∈ WW := wt1 212 rfl rfl
theorem kw_1_213 : Cond.code yX0_target prog_2_method_5_code 3 (some .int) ∈ WW := wt1 213 rfl rfl
theorem kw_1_214 : Cond.methodLink RX0 38 yX1_nearest ∈ WW := wt1 214 rfl rfl
theorem kw_1_215 : Cond.instanceMethod yX1_nearest ∈ WW := wt1 215 rfl rfl
theorem kw_1_216 : Cond.selects RX1 yX1_nearest yX1_nearest ∈ WW := wt1 216 rfl rfl
theorem kw_1_217 : Cond.code yX1_nearest prog_3_method_5_code 7 (some .int) ∈ WW := wt1 217 rfl rfl
theorem kw_1_218 : Cond.methodLink RX1 33 yJ9_abs_0f7a4 ∈ WW := wt1 218 rfl rfl
theorem kw_1_219 : Cond.static yJ9_abs_0f7a4 ∈ WW := wt1 219 rfl rfl
theorem kw_1_220 : Cond.code yJ9_abs_0f7a4 prog_13_method_59_code 1 (some .int) ∈ WW := wt1 220 rfl rfl
theorem kw_1_221 : Cond.methodLink RX4 137 yX4_digestOfClouds ∈ WW := wt1 221 rfl rfl
theorem kw_1_223 : Cond.instanceMethod yX4_digestOfClouds ∈ WW := wt1 223 rfl rfl
theorem kw_1_224 : Cond.code yX4_digestOfClouds prog_1_method_21_code 7 (some .long) ∈ WW := wt1 224 rfl rfl
theorem kw_1_225 : Cond.methodLink RX4 87 yX1_fact ∈ WW := wt1 225 rfl rfl
theorem kw_1_226 : Cond.instanceMethod yX1_fact ∈ WW := wt1 226 rfl rfl
theorem kw_1_227 : Cond.selects RX1 yX1_fact yX1_fact ∈ WW := wt1 227 rfl rfl
theorem kw_1_228 : Cond.code yX1_fact prog_3_method_3_code 3 (some .int) ∈ WW := wt1 228 rfl rfl
theorem kw_1_229 : Cond.methodLink RL 69 yL_plant ∈ WW := wt1 229 rfl rfl
theorem kw_1_230 : Cond.static yL_plant ∈ WW := wt1 230 rfl rfl
theorem kw_1_231 : Cond.codeWith yL_plant method_3_code 7 (some .int) [(0, 14, 17, 13), (0, 14, 21, 15)] ∈ WW := wt1 231 rfl rfl
theorem kw_1_232 : Cond.classLink RL 13 "java/lang/IllegalArgumentException" ∈ WW := wt1 232 rfl rfl
theorem kw_1_233 : Cond.classLink RL 15 "java/lang/IllegalStateException" ∈ WW := wt1 233 rfl rfl
theorem kw_1_234 : Cond.methodLink RL 7 yX4_plant ∈ WW := wt1 234 rfl rfl
theorem kw_1_235 : Cond.instanceMethod yX4_plant ∈ WW := wt1 235 rfl rfl
theorem kw_1_236 : Cond.selects RX4 yX4_plant yX4_plant ∈ WW := wt1 236 rfl rfl
theorem kw_1_237 : Cond.code yX4_plant prog_1_method_2_code 5 (some .int) ∈ WW := wt1 237 rfl rfl
theorem kw_1_238 : Cond.methodLink RX4 19 yX4_isPlace ∈ WW := wt1 238 rfl rfl
theorem kw_1_239 : Cond.static yX4_isPlace ∈ WW := wt1 239 rfl rfl
theorem kw_2_0 : Cond.code yX4_isPlace prog_1_method_23_code 1 (some .boolean) ∈ WW := wt2 0 rfl rfl
theorem kw_2_1 : Cond.methodLink RX4 23 yX4_requireArgument ∈ WW := wt2 1 rfl rfl
theorem kw_2_2 : Cond.static yX4_requireArgument ∈ WW := wt2 2 rfl rfl
theorem kw_2_3 : Cond.code yX4_requireArgument prog_1_method_24_code 1 none ∈ WW := wt2 3 rfl rfl
theorem kw_2_4 : Cond.classLink RX4 140 "java/lang/IllegalArgumentException" ∈ WW := wt2 4 rfl rfl
theorem kw_2_5 : Cond.instantiable "java/lang/IllegalArgumentException" 6 ∈ WW := wt2 5 rfl rfl
theorem kw_2_13 : Cond.selects "java/lang/IllegalArgumentException" ⟨"java/lang/Throwable", "fillInStackTrace", "(I)Ljava/lang/Throwable;"⟩ ⟨"java/lang/Throwable", "fillInStackTrace", "(I)Ljava/lang/Throwable;"⟩ ∈ WW := wt2 13 rfl rfl
theorem kw_2_14 : Cond.selects "java/lang/IllegalArgumentException" ⟨"java/lang/Throwable", "fillInStackTrace", "()Ljava/lang/Throwable;"⟩ ⟨"java/lang/Throwable", "fillInStackTrace", "()Ljava/lang/Throwable;"⟩ ∈ WW := wt2 14 rfl rfl
theorem kw_2_15 : Cond.lays "java/lang/IllegalArgumentException" "java/lang/Throwable" "cause" "Ljava/lang/Throwable;" ∈ WW := wt2 15 rfl rfl
theorem kw_2_16 : Cond.lays "java/lang/Throwable" "java/lang/Throwable" "cause" "Ljava/lang/Throwable;" ∈ WW := wt2 16 rfl rfl
theorem kw_2_17 : Cond.lays "java/lang/IllegalArgumentException" "java/lang/Throwable" "stackTrace" "[Ljava/lang/StackTraceElement;" ∈ WW := wt2 17 rfl rfl
theorem kw_2_18 : Cond.lays "java/lang/Throwable" "java/lang/Throwable" "stackTrace" "[Ljava/lang/StackTraceElement;" ∈ WW := wt2 18 rfl rfl
theorem kw_2_19 : Cond.lays "java/lang/IllegalArgumentException" "java/lang/Throwable" "suppressedExceptions" "Ljava/util/List;" ∈ WW := wt2 19 rfl rfl
theorem kw_2_20 : Cond.lays "java/lang/Throwable" "java/lang/Throwable" "suppressedExceptions" "Ljava/util/List;" ∈ WW := wt2 20 rfl rfl
theorem kw_2_21 : Cond.lays "java/lang/IllegalArgumentException" "java/lang/Throwable" "detailMessage" "Ljava/lang/String;" ∈ WW := wt2 21 rfl rfl
theorem kw_2_22 : Cond.lays "java/lang/Throwable" "java/lang/Throwable" "detailMessage" "Ljava/lang/String;" ∈ WW := wt2 22 rfl rfl
theorem kw_2_23 : Cond.lays "java/lang/IllegalArgumentException" "java/lang/Throwable" "backtrace" "Ljava/lang/Object;" ∈ WW := wt2 23 rfl rfl
theorem kw_2_24 : Cond.lays "java/lang/Throwable" "java/lang/Throwable" "backtrace" "Ljava/lang/Object;" ∈ WW := wt2 24 rfl rfl
theorem kw_2_25 : Cond.fieldLink "java/lang/Throwable" 198 "java/lang/Throwable" "backtrace" "Ljava/lang/Object;" ∈ WW := wt2 25 rfl rfl
theorem kw_2_27 : Cond.instanceMethod ⟨"java/lang/Throwable", "<init>", "()V"⟩ ∈ WW := wt2 27 rfl rfl
theorem kw_2_28 : Cond.code ⟨"java/lang/Throwable", "<init>", "()V"⟩ prog_16_method_1_code 1 none ∈ WW := wt2 28 rfl rfl
theorem kw_2_29 : Cond.methodLink "java/lang/Throwable" 1 ⟨"java/lang/Object", "<init>", "()V"⟩ ∈ WW := wt2 29 rfl rfl
theorem kw_2_30 : Cond.fieldLink "java/lang/Throwable" 13 "java/lang/Throwable" "UNASSIGNED_STACK" "[Ljava/lang/StackTraceElement;" ∈ WW := wt2 30 rfl rfl
theorem kw_2_32 : Cond.fieldLink "java/lang/Throwable" 20 "java/lang/Throwable" "SUPPRESSED_SENTINEL" "Ljava/util/List;" ∈ WW := wt2 32 rfl rfl
theorem kw_2_34 : Cond.methodLink "java/lang/Throwable" 27 ⟨"java/lang/Throwable", "fillInStackTrace", "()Ljava/lang/Throwable;"⟩ ∈ WW := wt2 34 rfl rfl
theorem kw_2_35 : Cond.instanceMethod ⟨"java/lang/Throwable", "fillInStackTrace", "()Ljava/lang/Throwable;"⟩ ∈ WW := wt2 35 rfl rfl
theorem kw_2_37 : Cond.selects "java/lang/IllegalStateException" ⟨"java/lang/Throwable", "fillInStackTrace", "()Ljava/lang/Throwable;"⟩ ⟨"java/lang/Throwable", "fillInStackTrace", "()Ljava/lang/Throwable;"⟩ ∈ WW := wt2 37 rfl rfl
theorem kw_2_38 : Cond.selects "java/lang/IndexOutOfBoundsException" ⟨"java/lang/Throwable", "fillInStackTrace", "()Ljava/lang/Throwable;"⟩ ⟨"java/lang/Throwable", "fillInStackTrace", "()Ljava/lang/Throwable;"⟩ ∈ WW := wt2 38 rfl rfl
theorem kw_2_40 : Cond.methodLink "java/lang/Throwable" 202 ⟨"java/lang/Throwable", "fillInStackTrace", "(I)Ljava/lang/Throwable;"⟩ ∈ WW := wt2 40 rfl rfl
theorem kw_2_42 : Cond.instanceMethod ⟨"java/lang/Throwable", "fillInStackTrace", "(I)Ljava/lang/Throwable;"⟩ ∈ WW := wt2 42 rfl rfl
theorem kw_2_43 : Cond.instantiable "java/lang/Throwable" 6 ∈ WW := wt2 43 rfl rfl
theorem kw_2_44 : Cond.native ⟨"java/lang/Throwable", "fillInStackTrace", "(I)Ljava/lang/Throwable;"⟩ ∈ WW := wt2 44 rfl rfl
theorem kw_2_45 : Cond.methodLink RX4 142 ⟨"java/lang/IllegalArgumentException", "<init>", "()V"⟩ ∈ WW := wt2 45 rfl rfl
theorem kw_2_46 : Cond.instanceMethod ⟨"java/lang/IllegalArgumentException", "<init>", "()V"⟩ ∈ WW := wt2 46 rfl rfl
theorem kw_2_47 : Cond.code ⟨"java/lang/IllegalArgumentException", "<init>", "()V"⟩ prog_10_method_1_code 1 none ∈ WW := wt2 47 rfl rfl
theorem kw_2_48 : Cond.methodLink "java/lang/IllegalArgumentException" 1 ⟨"java/lang/RuntimeException", "<init>", "()V"⟩ ∈ WW := wt2 48 rfl rfl
theorem kw_2_49 : Cond.instanceMethod ⟨"java/lang/RuntimeException", "<init>", "()V"⟩ ∈ WW := wt2 49 rfl rfl
theorem kw_2_50 : Cond.code ⟨"java/lang/RuntimeException", "<init>", "()V"⟩ prog_14_method_1_code 1 none ∈ WW := wt2 50 rfl rfl
theorem kw_2_51 : Cond.methodLink "java/lang/RuntimeException" 1 ⟨"java/lang/Exception", "<init>", "()V"⟩ ∈ WW := wt2 51 rfl rfl
theorem kw_2_52 : Cond.instanceMethod ⟨"java/lang/Exception", "<init>", "()V"⟩ ∈ WW := wt2 52 rfl rfl
theorem kw_2_53 : Cond.code ⟨"java/lang/Exception", "<init>", "()V"⟩ prog_9_method_1_code 1 none ∈ WW := wt2 53 rfl rfl
theorem kw_2_54 : Cond.methodLink "java/lang/Exception" 1 ⟨"java/lang/Throwable", "<init>", "()V"⟩ ∈ WW := wt2 54 rfl rfl
theorem kw_2_56 : Cond.fieldLink "java/lang/Throwable" 7 "java/lang/Throwable" "cause" "Ljava/lang/Throwable;" ∈ WW := wt2 56 rfl rfl
theorem kw_2_57 : Cond.fieldLink "java/lang/Throwable" 17 "java/lang/Throwable" "stackTrace" "[Ljava/lang/StackTraceElement;" ∈ WW := wt2 57 rfl rfl
theorem kw_2_58 : Cond.fieldLink "java/lang/Throwable" 24 "java/lang/Throwable" "suppressedExceptions" "Ljava/util/List;" ∈ WW := wt2 58 rfl rfl
theorem kw_2_63 : Cond.lays "java/lang/IllegalArgumentException" "java/lang/Throwable" "depth" "I" ∈ WW := wt2 63 rfl rfl
theorem kw_2_67 : Cond.methodLink RX4 37 yX4_requireState ∈ WW := wt2 67 rfl rfl
theorem kw_2_68 : Cond.static yX4_requireState ∈ WW := wt2 68 rfl rfl
theorem kw_2_69 : Cond.code yX4_requireState prog_1_method_25_code 1 none ∈ WW := wt2 69 rfl rfl
theorem kw_2_70 : Cond.classLink RX4 143 "java/lang/IllegalStateException" ∈ WW := wt2 70 rfl rfl
theorem kw_2_71 : Cond.instantiable "java/lang/IllegalStateException" 6 ∈ WW := wt2 71 rfl rfl
theorem kw_2_73 : Cond.selects "java/lang/IllegalStateException" ⟨"java/lang/Throwable", "fillInStackTrace", "(I)Ljava/lang/Throwable;"⟩ ⟨"java/lang/Throwable", "fillInStackTrace", "(I)Ljava/lang/Throwable;"⟩ ∈ WW := wt2 73 rfl rfl
theorem kw_2_74 : Cond.lays "java/lang/IllegalStateException" "java/lang/Throwable" "cause" "Ljava/lang/Throwable;" ∈ WW := wt2 74 rfl rfl
theorem kw_2_75 : Cond.lays "java/lang/IllegalStateException" "java/lang/Throwable" "stackTrace" "[Ljava/lang/StackTraceElement;" ∈ WW := wt2 75 rfl rfl
theorem kw_2_76 : Cond.lays "java/lang/IllegalStateException" "java/lang/Throwable" "suppressedExceptions" "Ljava/util/List;" ∈ WW := wt2 76 rfl rfl
theorem kw_2_77 : Cond.lays "java/lang/IllegalStateException" "java/lang/Throwable" "detailMessage" "Ljava/lang/String;" ∈ WW := wt2 77 rfl rfl
theorem kw_2_78 : Cond.lays "java/lang/IllegalStateException" "java/lang/Throwable" "backtrace" "Ljava/lang/Object;" ∈ WW := wt2 78 rfl rfl
theorem kw_2_79 : Cond.methodLink RX4 145 ⟨"java/lang/IllegalStateException", "<init>", "()V"⟩ ∈ WW := wt2 79 rfl rfl
theorem kw_2_80 : Cond.instanceMethod ⟨"java/lang/IllegalStateException", "<init>", "()V"⟩ ∈ WW := wt2 80 rfl rfl
theorem kw_2_81 : Cond.code ⟨"java/lang/IllegalStateException", "<init>", "()V"⟩ prog_11_method_1_code 1 none ∈ WW := wt2 81 rfl rfl
theorem kw_2_82 : Cond.methodLink "java/lang/IllegalStateException" 1 ⟨"java/lang/RuntimeException", "<init>", "()V"⟩ ∈ WW := wt2 82 rfl rfl
theorem kw_2_83 : Cond.lays "java/lang/IllegalStateException" "java/lang/Throwable" "depth" "I" ∈ WW := wt2 83 rfl rfl
theorem kw_2_85 : Cond.methodLink RX4 40 yX3_add ∈ WW := wt2 85 rfl rfl
theorem kw_2_86 : Cond.instanceMethod yX3_add ∈ WW := wt2 86 rfl rfl
theorem kw_2_87 : Cond.selects RX3 yX3_add yX3_add ∈ WW := wt2 87 rfl rfl
theorem kw_2_88 : Cond.code yX3_add prog_5_method_2_code 6 (some .int) ∈ WW := wt2 88 rfl rfl
theorem kw_2_89 : Cond.methodLink RL 79 yL_sign ∈ WW := wt2 89 rfl rfl
theorem kw_2_90 : Cond.static yL_sign ∈ WW := wt2 90 rfl rfl
theorem kw_2_91 : Cond.codeWith yL_sign method_4_code 6 (some .int) [(0, 12, 15, 21)] ∈ WW := wt2 91 rfl rfl
theorem kw_2_92 : Cond.classLink RL 21 "java/lang/IndexOutOfBoundsException" ∈ WW := wt2 92 rfl rfl
theorem kw_2_93 : Cond.methodLink RL 17 yX4_sign ∈ WW := wt2 93 rfl rfl
theorem kw_2_94 : Cond.instanceMethod yX4_sign ∈ WW := wt2 94 rfl rfl
theorem kw_2_95 : Cond.selects RX4 yX4_sign yX4_sign ∈ WW := wt2 95 rfl rfl
theorem kw_2_96 : Cond.code yX4_sign prog_1_method_3_code 4 (some .int) ∈ WW := wt2 96 rfl rfl
theorem kw_2_97 : Cond.methodLink RX4 44 yX4_requireIndex ∈ WW := wt2 97 rfl rfl
theorem kw_2_98 : Cond.static yX4_requireIndex ∈ WW := wt2 98 rfl rfl
theorem kw_2_99 : Cond.code yX4_requireIndex prog_1_method_26_code 2 none ∈ WW := wt2 99 rfl rfl
theorem kw_2_100 : Cond.classLink RX4 146 "java/lang/IndexOutOfBoundsException" ∈ WW := wt2 100 rfl rfl
theorem kw_2_101 : Cond.instantiable "java/lang/IndexOutOfBoundsException" 6 ∈ WW := wt2 101 rfl rfl
theorem kw_2_103 : Cond.selects "java/lang/IndexOutOfBoundsException" ⟨"java/lang/Throwable", "fillInStackTrace", "(I)Ljava/lang/Throwable;"⟩ ⟨"java/lang/Throwable", "fillInStackTrace", "(I)Ljava/lang/Throwable;"⟩ ∈ WW := wt2 103 rfl rfl
theorem kw_2_104 : Cond.lays "java/lang/IndexOutOfBoundsException" "java/lang/Throwable" "cause" "Ljava/lang/Throwable;" ∈ WW := wt2 104 rfl rfl
theorem kw_2_105 : Cond.lays "java/lang/IndexOutOfBoundsException" "java/lang/Throwable" "stackTrace" "[Ljava/lang/StackTraceElement;" ∈ WW := wt2 105 rfl rfl
theorem kw_2_106 : Cond.lays "java/lang/IndexOutOfBoundsException" "java/lang/Throwable" "suppressedExceptions" "Ljava/util/List;" ∈ WW := wt2 106 rfl rfl
theorem kw_2_107 : Cond.lays "java/lang/IndexOutOfBoundsException" "java/lang/Throwable" "detailMessage" "Ljava/lang/String;" ∈ WW := wt2 107 rfl rfl
theorem kw_2_108 : Cond.lays "java/lang/IndexOutOfBoundsException" "java/lang/Throwable" "backtrace" "Ljava/lang/Object;" ∈ WW := wt2 108 rfl rfl
theorem kw_2_109 : Cond.methodLink RX4 148 ⟨"java/lang/IndexOutOfBoundsException", "<init>", "()V"⟩ ∈ WW := wt2 109 rfl rfl
theorem kw_2_110 : Cond.instanceMethod ⟨"java/lang/IndexOutOfBoundsException", "<init>", "()V"⟩ ∈ WW := wt2 110 rfl rfl
theorem kw_2_111 : Cond.code ⟨"java/lang/IndexOutOfBoundsException", "<init>", "()V"⟩ prog_12_method_1_code 1 none ∈ WW := wt2 111 rfl rfl
theorem kw_2_112 : Cond.methodLink "java/lang/IndexOutOfBoundsException" 1 ⟨"java/lang/RuntimeException", "<init>", "()V"⟩ ∈ WW := wt2 112 rfl rfl
theorem kw_2_113 : Cond.lays "java/lang/IndexOutOfBoundsException" "java/lang/Throwable" "depth" "I" ∈ WW := wt2 113 rfl rfl
theorem kw_2_115 : Cond.methodLink RX4 48 yX3_enrol ∈ WW := wt2 115 rfl rfl
theorem kw_2_116 : Cond.instanceMethod yX3_enrol ∈ WW := wt2 116 rfl rfl
theorem kw_2_117 : Cond.selects RX3 yX3_enrol yX3_enrol ∈ WW := wt2 117 rfl rfl
theorem kw_2_118 : Cond.code yX3_enrol prog_5_method_3_code 5 (some .int) ∈ WW := wt2 118 rfl rfl
theorem kw_2_119 : Cond.methodLink RL 83 yL_cannon ∈ WW := wt2 119 rfl rfl
theorem kw_2_120 : Cond.static yL_cannon ∈ WW := wt2 120 rfl rfl
theorem kw_2_121 : Cond.codeWith yL_cannon method_5_code 6 (some .int) [(0, 12, 15, 13), (0, 12, 19, 15)] ∈ WW := wt2 121 rfl rfl
theorem kw_2_122 : Cond.methodLink RL 23 yX4_cannon ∈ WW := wt2 122 rfl rfl
theorem kw_2_123 : Cond.instanceMethod yX4_cannon ∈ WW := wt2 123 rfl rfl
theorem kw_2_124 : Cond.selects RX4 yX4_cannon yX4_cannon ∈ WW := wt2 124 rfl rfl
theorem kw_2_125 : Cond.code yX4_cannon prog_1_method_4_code 4 (some .int) ∈ WW := wt2 125 rfl rfl
theorem kw_2_126 : Cond.methodLink RX4 59 yX0_add ∈ WW := wt2 126 rfl rfl
theorem kw_2_127 : Cond.instanceMethod yX0_add ∈ WW := wt2 127 rfl rfl
theorem kw_2_128 : Cond.selects RX0 yX0_add yX0_add ∈ WW := wt2 128 rfl rfl
theorem kw_2_129 : Cond.code yX0_add prog_2_method_2_code 5 (some .int) ∈ WW := wt2 129 rfl rfl
theorem kw_2_130 : Cond.methodLink RL 87 yL_load ∈ WW := wt2 130 rfl rfl
theorem kw_2_131 : Cond.static yL_load ∈ WW := wt2 131 rfl rfl
theorem kw_2_132 : Cond.codeWith yL_load method_6_code 5 (some .int) [(0, 10, 13, 21), (0, 10, 17, 13)] ∈ WW := wt2 132 rfl rfl
theorem kw_2_133 : Cond.methodLink RL 27 yX4_load ∈ WW := wt2 133 rfl rfl
theorem kw_2_134 : Cond.instanceMethod yX4_load ∈ WW := wt2 134 rfl rfl
theorem kw_2_135 : Cond.selects RX4 yX4_load yX4_load ∈ WW := wt2 135 rfl rfl
theorem kw_2_136 : Cond.code yX4_load prog_1_method_5_code 3 (some .int) ∈ WW := wt2 136 rfl rfl
theorem kw_2_137 : Cond.methodLink RX4 65 yX0_addPowder ∈ WW := wt2 137 rfl rfl
theorem kw_2_138 : Cond.instanceMethod yX0_addPowder ∈ WW := wt2 138 rfl rfl
theorem kw_2_139 : Cond.selects RX0 yX0_addPowder yX0_addPowder ∈ WW := wt2 139 rfl rfl
theorem kw_2_140 : Cond.code yX0_addPowder prog_2_method_3_code 3 (some .int) ∈ WW := wt2 140 rfl rfl
theorem kw_2_141 : Cond.methodLink RX0 28 yJ9_min_7cf53 ∈ WW := wt2 141 rfl rfl
theorem kw_2_142 : Cond.static yJ9_min_7cf53 ∈ WW := wt2 142 rfl rfl
theorem kw_2_143 : Cond.code yJ9_min_7cf53 prog_13_method_69_code 2 (some .int) ∈ WW := wt2 143 rfl rfl
theorem kw_2_144 : Cond.methodLink RL 91 yL_gather ∈ WW := wt2 144 rfl rfl
theorem kw_2_145 : Cond.static yL_gather ∈ WW := wt2 145 rfl rfl
theorem kw_2_146 : Cond.codeWith yL_gather method_7_code 6 (some .int) [(0, 12, 15, 13), (0, 12, 19, 15)] ∈ WW := wt2 146 rfl rfl
theorem kw_2_147 : Cond.methodLink RL 31 yX4_gather ∈ WW := wt2 147 rfl rfl
theorem kw_2_148 : Cond.instanceMethod yX4_gather ∈ WW := wt2 148 rfl rfl
theorem kw_2_149 : Cond.selects RX4 yX4_gather yX4_gather ∈ WW := wt2 149 rfl rfl
theorem kw_2_150 : Cond.code yX4_gather prog_1_method_6_code 4 (some .int) ∈ WW := wt2 150 rfl rfl
theorem kw_2_151 : Cond.methodLink RX4 76 yX1_add ∈ WW := wt2 151 rfl rfl
theorem kw_2_152 : Cond.instanceMethod yX1_add ∈ WW := wt2 152 rfl rfl
theorem kw_2_153 : Cond.selects RX1 yX1_add yX1_add ∈ WW := wt2 153 rfl rfl
theorem kw_2_154 : Cond.code yX1_add prog_3_method_2_code 5 (some .int) ∈ WW := wt2 154 rfl rfl
theorem kw_2_155 : Cond.methodLink RL 94 yL_setWind ∈ WW := wt2 155 rfl rfl
theorem kw_2_156 : Cond.static yL_setWind ∈ WW := wt2 156 rfl rfl
theorem kw_2_157 : Cond.codeWith yL_setWind method_8_code 5 (some .int) [(0, 10, 13, 21), (0, 10, 17, 13)] ∈ WW := wt2 157 rfl rfl
theorem kw_2_158 : Cond.methodLink RL 34 yX4_setWind ∈ WW := wt2 158 rfl rfl
theorem kw_2_159 : Cond.instanceMethod yX4_setWind ∈ WW := wt2 159 rfl rfl
theorem kw_2_160 : Cond.selects RX4 yX4_setWind yX4_setWind ∈ WW := wt2 160 rfl rfl
theorem kw_2_161 : Cond.code yX4_setWind prog_1_method_7_code 4 (some .int) ∈ WW := wt2 161 rfl rfl
theorem kw_2_162 : Cond.methodLink RL 97 yL_vineyard ∈ WW := wt2 162 rfl rfl
theorem kw_2_163 : Cond.static yL_vineyard ∈ WW := wt2 163 rfl rfl
theorem kw_2_164 : Cond.codeWith yL_vineyard method_9_code 5 (some .int) [(0, 10, 13, 21)] ∈ WW := wt2 164 rfl rfl
theorem kw_2_165 : Cond.methodLink RL 37 yX4_vineyard ∈ WW := wt2 165 rfl rfl
theorem kw_2_166 : Cond.instanceMethod yX4_vineyard ∈ WW := wt2 166 rfl rfl
theorem kw_2_167 : Cond.selects RX4 yX4_vineyard yX4_vineyard ∈ WW := wt2 167 rfl rfl
theorem kw_2_168 : Cond.code yX4_vineyard prog_1_method_8_code 3 (some .int) ∈ WW := wt2 168 rfl rfl
theorem kw_2_169 : Cond.methodLink RL 100 yL_about ∈ WW := wt2 169 rfl rfl
theorem kw_2_170 : Cond.static yL_about ∈ WW := wt2 170 rfl rfl
theorem kw_2_171 : Cond.codeWith yL_about method_10_code 5 (some .int) [(0, 10, 13, 21)] ∈ WW := wt2 171 rfl rfl
theorem kw_2_172 : Cond.methodLink RL 40 yX4_about ∈ WW := wt2 172 rfl rfl
theorem kw_2_173 : Cond.instanceMethod yX4_about ∈ WW := wt2 173 rfl rfl
theorem kw_2_174 : Cond.selects RX4 yX4_about yX4_about ∈ WW := wt2 174 rfl rfl
theorem kw_2_175 : Cond.code yX4_about prog_1_method_9_code 3 (some .int) ∈ WW := wt2 175 rfl rfl
theorem kw_2_176 : Cond.methodLink RL 103 yL_cloud ∈ WW := wt2 176 rfl rfl
theorem kw_2_177 : Cond.static yL_cloud ∈ WW := wt2 177 rfl rfl
theorem kw_2_178 : Cond.codeWith yL_cloud method_11_code 5 (some .int) [(0, 10, 13, 21)] ∈ WW := wt2 178 rfl rfl
theorem kw_2_179 : Cond.methodLink RL 43 yX4_cloud ∈ WW := wt2 179 rfl rfl
theorem kw_2_180 : Cond.instanceMethod yX4_cloud ∈ WW := wt2 180 rfl rfl
theorem kw_2_181 : Cond.selects RX4 yX4_cloud yX4_cloud ∈ WW := wt2 181 rfl rfl
theorem kw_2_182 : Cond.code yX4_cloud prog_1_method_10_code 3 (some .int) ∈ WW := wt2 182 rfl rfl
theorem kw_2_183 : Cond.methodLink RL 106 yL_count ∈ WW := wt2 183 rfl rfl
theorem kw_2_184 : Cond.static yL_count ∈ WW := wt2 184 rfl rfl
theorem kw_2_185 : Cond.codeWith yL_count method_12_code 4 (some .int) [(0, 9, 12, 21)] ∈ WW := wt2 185 rfl rfl
theorem kw_2_186 : Cond.methodLink RL 46 yX4_count ∈ WW := wt2 186 rfl rfl
theorem kw_2_187 : Cond.instanceMethod yX4_count ∈ WW := wt2 187 rfl rfl
theorem kw_2_188 : Cond.selects RX4 yX4_count yX4_count ∈ WW := wt2 188 rfl rfl
theorem kw_2_189 : Cond.code yX4_count prog_1_method_11_code 2 (some .int) ∈ WW := wt2 189 rfl rfl
theorem kw_2_190 : Cond.methodLink RL 110 yL_pass ∈ WW := wt2 190 rfl rfl
theorem kw_2_191 : Cond.static yL_pass ∈ WW := wt2 191 rfl rfl
theorem kw_2_192 : Cond.codeWith yL_pass method_13_code 4 (some .int) [(0, 9, 12, 13)] ∈ WW := wt2 192 rfl rfl
theorem kw_2_193 : Cond.methodLink RL 50 yX4_pass ∈ WW := wt2 193 rfl rfl
theorem kw_2_194 : Cond.instanceMethod yX4_pass ∈ WW := wt2 194 rfl rfl
theorem kw_2_195 : Cond.selects RX4 yX4_pass yX4_pass ∈ WW := wt2 195 rfl rfl
theorem kw_2_196 : Cond.code yX4_pass prog_1_method_12_code 3 (some .int) ∈ WW := wt2 196 rfl rfl
theorem kw_2_197 : Cond.methodLink RX4 92 yX3_sumOfLostInAll ∈ WW := wt2 197 rfl rfl
theorem kw_2_198 : Cond.methodLink RX4 96 yX2_goBy ∈ WW := wt2 198 rfl rfl
theorem kw_2_199 : Cond.instanceMethod yX2_goBy ∈ WW := wt2 199 rfl rfl
theorem kw_2_200 : Cond.selects RX2 yX2_goBy yX2_goBy ∈ WW := wt2 200 rfl rfl
theorem kw_2_201 : Cond.code yX2_goBy prog_4_method_3_code 3 none ∈ WW := wt2 201 rfl rfl
theorem kw_2_202 : Cond.methodLink RX2 59 yX2_goByOneHour ∈ WW := wt2 202 rfl rfl
theorem kw_2_203 : Cond.instanceMethod yX2_goByOneHour ∈ WW := wt2 203 rfl rfl
theorem kw_2_204 : Cond.selects RX2 yX2_goByOneHour yX2_goByOneHour ∈ WW := wt2 204 rfl rfl
theorem kw_2_205 : Cond.code yX2_goByOneHour prog_4_method_4_code 1 none ∈ WW := wt2 205 rfl rfl
theorem kw_2_206 : Cond.methodLink RX2 62 yJ9_floorMod_7cf53 ∈ WW := wt2 206 rfl rfl
theorem kw_2_207 : Cond.static yJ9_floorMod_7cf53 ∈ WW := wt2 207 rfl rfl
theorem kw_2_208 : Cond.code yJ9_floorMod_7cf53 prog_13_method_50_code 3 (some .int) ∈ WW := wt2 208 rfl rfl
theorem kw_2_209 : Cond.methodLink RX2 68 yX1_drive ∈ WW := wt2 209 rfl rfl
theorem kw_2_210 : Cond.instanceMethod yX1_drive ∈ WW := wt2 210 rfl rfl
theorem kw_2_211 : Cond.selects RX1 yX1_drive yX1_drive ∈ WW := wt2 211 rfl rfl
theorem kw_2_212 : Cond.code yX1_drive prog_3_method_4_code 3 none ∈ WW := wt2 212 rfl rfl
theorem kw_2_214 : Cond.methodLink RX2 72 yX0_shoot ∈ WW := wt2 214 rfl rfl
theorem kw_2_215 : Cond.instanceMethod yX0_shoot ∈ WW := wt2 215 rfl rfl
theorem kw_2_216 : Cond.selects RX0 yX0_shoot yX0_shoot ∈ WW := wt2 216 rfl rfl
theorem kw_2_217 : Cond.code yX0_shoot prog_2_method_6_code 5 none ∈ WW := wt2 217 rfl rfl
theorem kw_2_218 : Cond.methodLink RX0 43 yX1_takeShot ∈ WW := wt2 218 rfl rfl
theorem kw_2_219 : Cond.instanceMethod yX1_takeShot ∈ WW := wt2 219 rfl rfl
theorem kw_2_220 : Cond.selects RX1 yX1_takeShot yX1_takeShot ∈ WW := wt2 220 rfl rfl
theorem kw_2_221 : Cond.code yX1_takeShot prog_3_method_6_code 5 none ∈ WW := wt2 221 rfl rfl
theorem kw_2_222 : Cond.methodLink RX1 39 yJ9_max_7cf53 ∈ WW := wt2 222 rfl rfl
theorem kw_2_223 : Cond.static yJ9_max_7cf53 ∈ WW := wt2 223 rfl rfl
theorem kw_2_224 : Cond.code yJ9_max_7cf53 prog_13_method_65_code 2 (some .int) ∈ WW := wt2 224 rfl rfl
theorem kw_2_225 : Cond.methodLink RX0 47 yX3_hearShot ∈ WW := wt2 225 rfl rfl
theorem kw_2_226 : Cond.instanceMethod yX3_hearShot ∈ WW := wt2 226 rfl rfl
theorem kw_2_227 : Cond.selects RX3 yX3_hearShot yX3_hearShot ∈ WW := wt2 227 rfl rfl
theorem kw_2_228 : Cond.code yX3_hearShot prog_5_method_5_code 3 none ∈ WW := wt2 228 rfl rfl
theorem kw_2_229 : Cond.methodLink RX3 38 yJ9_abs_0f7a4 ∈ WW := wt2 229 rfl rfl
theorem kw_2_230 : Cond.methodLink RX2 76 yX1_dropUpon ∈ WW := wt2 230 rfl rfl
theorem kw_2_231 : Cond.instanceMethod yX1_dropUpon ∈ WW := wt2 231 rfl rfl
theorem kw_2_232 : Cond.selects RX1 yX1_dropUpon yX1_dropUpon ∈ WW := wt2 232 rfl rfl
theorem kw_2_233 : Cond.code yX1_dropUpon prog_3_method_7_code 4 none ∈ WW := wt2 233 rfl rfl
theorem kw_2_234 : Cond.methodLink RX1 43 yJ9_min_7cf53 ∈ WW := wt2 234 rfl rfl
theorem kw_2_235 : Cond.methodLink RX1 46 yX3_takeHail ∈ WW := wt2 235 rfl rfl
theorem kw_2_236 : Cond.instanceMethod yX3_takeHail ∈ WW := wt2 236 rfl rfl
theorem kw_2_237 : Cond.selects RX3 yX3_takeHail yX3_takeHail ∈ WW := wt2 237 rfl rfl
theorem kw_2_238 : Cond.code yX3_takeHail prog_5_method_6_code 5 none ∈ WW := wt2 238 rfl rfl
theorem kw_2_239 : Cond.methodLink RX3 44 yJ9_min_7cf53 ∈ WW := wt2 239 rfl rfl
theorem kw_3_0 : Cond.methodLink RX2 79 yX3_closeDay ∈ WW := wt3 0 rfl rfl
theorem kw_3_1 : Cond.instanceMethod yX3_closeDay ∈ WW := wt3 1 rfl rfl
theorem kw_3_2 : Cond.selects RX3 yX3_closeDay yX3_closeDay ∈ WW := wt3 2 rfl rfl
theorem kw_3_3 : Cond.code yX3_closeDay prog_5_method_7_code 3 (some .int) ∈ WW := wt3 3 rfl rfl
theorem kw_3_4 : Cond.methodLink RL 113 yL_hit ∈ WW := wt3 4 rfl rfl
theorem kw_3_5 : Cond.static yL_hit ∈ WW := wt3 5 rfl rfl
theorem kw_3_6 : Cond.codeWith yL_hit method_14_code 4 (some .int) [(0, 9, 12, 21)] ∈ WW := wt3 6 rfl rfl
theorem kw_3_7 : Cond.methodLink RL 53 yX4_hit ∈ WW := wt3 7 rfl rfl
theorem kw_3_8 : Cond.instanceMethod yX4_hit ∈ WW := wt3 8 rfl rfl
theorem kw_3_9 : Cond.selects RX4 yX4_hit yX4_hit ∈ WW := wt3 9 rfl rfl
theorem kw_3_10 : Cond.code yX4_hit prog_1_method_13_code 4 (some .int) ∈ WW := wt3 10 rfl rfl
theorem kw_3_11 : Cond.methodLink RX4 100 yX2_copyFrom ∈ WW := wt3 11 rfl rfl
theorem kw_3_12 : Cond.instanceMethod yX2_copyFrom ∈ WW := wt3 12 rfl rfl
theorem kw_3_13 : Cond.selects RX2 yX2_copyFrom yX2_copyFrom ∈ WW := wt3 13 rfl rfl
theorem kw_3_14 : Cond.code yX2_copyFrom prog_4_method_2_code 2 none ∈ WW := wt3 14 rfl rfl
theorem kw_3_15 : Cond.methodLink RX2 43 yX3_copyFrom ∈ WW := wt3 15 rfl rfl
theorem kw_3_16 : Cond.instanceMethod yX3_copyFrom ∈ WW := wt3 16 rfl rfl
theorem kw_3_17 : Cond.selects RX3 yX3_copyFrom yX3_copyFrom ∈ WW := wt3 17 rfl rfl
theorem kw_3_18 : Cond.code yX3_copyFrom prog_5_method_15_code 2 none ∈ WW := wt3 18 rfl rfl
theorem kw_3_19 : Cond.methodLink RX3 56 ⟨"java/lang/System", "arraycopy", "(Ljava/lang/Object;ILjava/lang/Object;II)V"⟩ ∈ WW := wt3 19 rfl rfl
theorem kw_3_20 : Cond.static ⟨"java/lang/System", "arraycopy", "(Ljava/lang/Object;ILjava/lang/Object;II)V"⟩ ∈ WW := wt3 20 rfl rfl
theorem kw_3_21 : Cond.native ⟨"java/lang/System", "arraycopy", "(Ljava/lang/Object;ILjava/lang/Object;II)V"⟩ ∈ WW := wt3 21 rfl rfl
theorem kw_3_22 : Cond.methodLink RX2 47 yX0_copyFrom ∈ WW := wt3 22 rfl rfl
theorem kw_3_23 : Cond.instanceMethod yX0_copyFrom ∈ WW := wt3 23 rfl rfl
theorem kw_3_24 : Cond.selects RX0 yX0_copyFrom yX0_copyFrom ∈ WW := wt3 24 rfl rfl
theorem kw_3_25 : Cond.code yX0_copyFrom prog_2_method_8_code 2 none ∈ WW := wt3 25 rfl rfl
theorem kw_3_26 : Cond.methodLink RX0 53 ⟨"java/lang/System", "arraycopy", "(Ljava/lang/Object;ILjava/lang/Object;II)V"⟩ ∈ WW := wt3 26 rfl rfl
theorem kw_3_27 : Cond.methodLink RX2 50 yX1_copyFrom ∈ WW := wt3 27 rfl rfl
theorem kw_3_28 : Cond.instanceMethod yX1_copyFrom ∈ WW := wt3 28 rfl rfl
theorem kw_3_29 : Cond.selects RX1 yX1_copyFrom yX1_copyFrom ∈ WW := wt3 29 rfl rfl
theorem kw_3_30 : Cond.code yX1_copyFrom prog_3_method_10_code 2 none ∈ WW := wt3 30 rfl rfl
theorem kw_3_31 : Cond.methodLink RX1 52 ⟨"java/lang/System", "arraycopy", "(Ljava/lang/Object;ILjava/lang/Object;II)V"⟩ ∈ WW := wt3 31 rfl rfl
theorem kw_3_32 : Cond.methodLink RX2 53 ⟨"java/lang/System", "arraycopy", "(Ljava/lang/Object;ILjava/lang/Object;II)V"⟩ ∈ WW := wt3 32 rfl rfl
theorem kw_3_33 : Cond.methodLink RX4 107 yX1_haveHail ∈ WW := wt3 33 rfl rfl
theorem kw_3_34 : Cond.instanceMethod yX1_haveHail ∈ WW := wt3 34 rfl rfl
theorem kw_3_35 : Cond.selects RX1 yX1_haveHail yX1_haveHail ∈ WW := wt3 35 rfl rfl
theorem kw_3_36 : Cond.code yX1_haveHail prog_3_method_8_code 2 (some .boolean) ∈ WW := wt3 36 rfl rfl
theorem kw_3_37 : Cond.methodLink RX4 111 yX2_goByOneHour ∈ WW := wt3 37 rfl rfl
theorem kw_3_38 : Cond.methodLink RL 116 yL_foresee ∈ WW := wt3 38 rfl rfl
theorem kw_3_39 : Cond.static yL_foresee ∈ WW := wt3 39 rfl rfl
theorem kw_3_40 : Cond.codeWith yL_foresee method_15_code 5 (some .int) [(0, 10, 13, 13), (0, 10, 17, 21)] ∈ WW := wt3 40 rfl rfl
theorem kw_3_41 : Cond.methodLink RL 56 yX4_foresee ∈ WW := wt3 41 rfl rfl
theorem kw_3_42 : Cond.instanceMethod yX4_foresee ∈ WW := wt3 42 rfl rfl
theorem kw_3_43 : Cond.selects RX4 yX4_foresee yX4_foresee ∈ WW := wt3 43 rfl rfl
theorem kw_3_44 : Cond.code yX4_foresee prog_1_method_14_code 3 (some .int) ∈ WW := wt3 44 rfl rfl
theorem kw_3_45 : Cond.methodLink RX4 114 yX4_requireForeseen ∈ WW := wt3 45 rfl rfl
theorem kw_3_46 : Cond.static yX4_requireForeseen ∈ WW := wt3 46 rfl rfl
theorem kw_3_47 : Cond.code yX4_requireForeseen prog_1_method_27_code 1 none ∈ WW := wt3 47 rfl rfl
theorem kw_3_48 : Cond.methodLink RL 119 yL_advise ∈ WW := wt3 48 rfl rfl
theorem kw_3_49 : Cond.static yL_advise ∈ WW := wt3 49 rfl rfl
theorem kw_3_50 : Cond.codeWith yL_advise method_16_code 5 (some .int) [(0, 10, 13, 21), (0, 10, 17, 13)] ∈ WW := wt3 50 rfl rfl
theorem kw_3_51 : Cond.methodLink RL 59 yX4_advise ∈ WW := wt3 51 rfl rfl
theorem kw_3_52 : Cond.instanceMethod yX4_advise ∈ WW := wt3 52 rfl rfl
theorem kw_3_53 : Cond.selects RX4 yX4_advise yX4_advise ∈ WW := wt3 53 rfl rfl
theorem kw_3_54 : Cond.code yX4_advise prog_1_method_15_code 7 (some .int) ∈ WW := wt3 54 rfl rfl
theorem kw_3_55 : Cond.methodLink RX4 120 yX4_lostWith ∈ WW := wt3 55 rfl rfl
theorem kw_3_57 : Cond.instanceMethod yX4_lostWith ∈ WW := wt3 57 rfl rfl
theorem kw_3_58 : Cond.code yX4_lostWith prog_1_method_22_code 5 (some .int) ∈ WW := wt3 58 rfl rfl
theorem kw_3_59 : Cond.methodLink RL 122 yL_move ∈ WW := wt3 59 rfl rfl
theorem kw_3_60 : Cond.static yL_move ∈ WW := wt3 60 rfl rfl
theorem kw_3_61 : Cond.codeWith yL_move method_17_code 5 (some .int) [(0, 10, 13, 21), (0, 10, 17, 13)] ∈ WW := wt3 61 rfl rfl
theorem kw_3_62 : Cond.methodLink RL 62 yX4_move ∈ WW := wt3 62 rfl rfl
theorem kw_3_63 : Cond.instanceMethod yX4_move ∈ WW := wt3 63 rfl rfl
theorem kw_3_64 : Cond.selects RX4 yX4_move yX4_move ∈ WW := wt3 64 rfl rfl
theorem kw_3_65 : Cond.code yX4_move prog_1_method_16_code 4 (some .int) ∈ WW := wt3 65 rfl rfl
theorem kw_3_66 : Cond.classLink RL 66 "HailLeagueModel" ∈ WW := wt3 66 rfl rfl
theorem kw_3_67 : Cond.instantiable RX6 12 ∈ WW := wt3 67 rfl rfl
theorem kw_3_68 : Cond.methodLink RL 68 yX6_init ∈ WW := wt3 68 rfl rfl
theorem kw_3_69 : Cond.instanceMethod yX6_init ∈ WW := wt3 69 rfl rfl
theorem kw_3_70 : Cond.code yX6_init prog_7_method_1_code 1 none ∈ WW := wt3 70 rfl rfl
theorem kw_3_71 : Cond.methodLink RX6 1 ⟨"java/lang/Object", "<init>", "()V"⟩ ∈ WW := wt3 71 rfl rfl
theorem kw_3_72 : Cond.classLink RX6 28 "HailLeagueModel$State" ∈ WW := wt3 72 rfl rfl
theorem kw_3_73 : Cond.instantiable RX5 12 ∈ WW := wt3 73 rfl rfl
theorem kw_3_75 : Cond.instanceMethod yX5_init ∈ WW := wt3 75 rfl rfl
theorem kw_3_76 : Cond.code yX5_init prog_8_method_1_code 2 none ∈ WW := wt3 76 rfl rfl
theorem kw_3_77 : Cond.methodLink RX5 9 ⟨"java/lang/Object", "<init>", "()V"⟩ ∈ WW := wt3 77 rfl rfl
theorem kw_3_78 : Cond.fieldLink RX5 53 "HailLeagueModel$State" "hour" "I" ∈ WW := wt3 78 rfl rfl
theorem kw_3_79 : Cond.fieldLink RX5 15 "HailLeagueModel$State" "coins" "I" ∈ WW := wt3 79 rfl rfl
theorem kw_3_81 : Cond.fieldLink RX5 19 "HailLeagueModel$State" "vines" "[I" ∈ WW := wt3 81 rfl rfl
theorem kw_3_83 : Cond.fieldLink RX5 23 "HailLeagueModel$State" "lost" "[I" ∈ WW := wt3 83 rfl rfl
theorem kw_3_85 : Cond.fieldLink RX5 26 "HailLeagueModel$State" "lostAll" "[I" ∈ WW := wt3 85 rfl rfl
theorem kw_3_87 : Cond.fieldLink RX5 29 "HailLeagueModel$State" "suits" "[I" ∈ WW := wt3 87 rfl rfl
theorem kw_3_89 : Cond.fieldLink RX5 32 "HailLeagueModel$State" "stands" "[I" ∈ WW := wt3 89 rfl rfl
theorem kw_3_91 : Cond.fieldLink RX5 35 "HailLeagueModel$State" "powder" "[I" ∈ WW := wt3 91 rfl rfl
theorem kw_3_93 : Cond.fieldLink RX5 38 "HailLeagueModel$State" "shots" "[I" ∈ WW := wt3 93 rfl rfl
theorem kw_3_95 : Cond.fieldLink RX5 41 "HailLeagueModel$State" "place" "[I" ∈ WW := wt3 95 rfl rfl
theorem kw_3_97 : Cond.fieldLink RX5 44 "HailLeagueModel$State" "hail" "[I" ∈ WW := wt3 97 rfl rfl
theorem kw_3_99 : Cond.fieldLink RX5 3 "HailLeagueModel$State" "this$0" "LHailLeagueModel;" ∈ WW := wt3 99 rfl rfl
theorem kw_3_100 : Cond.lays RX5 "HailLeagueModel$State" "hour" "I" ∈ WW := wt3 100 rfl rfl
theorem kw_3_102 : Cond.lays RX5 "HailLeagueModel$State" "coins" "I" ∈ WW := wt3 102 rfl rfl
theorem kw_3_104 : Cond.laysFinal RX5 "HailLeagueModel$State" "vines" "[I" ∈ WW := wt3 104 rfl rfl
theorem kw_3_106 : Cond.laysFinal RX5 "HailLeagueModel$State" "lost" "[I" ∈ WW := wt3 106 rfl rfl
theorem kw_3_108 : Cond.laysFinal RX5 "HailLeagueModel$State" "lostAll" "[I" ∈ WW := wt3 108 rfl rfl
theorem kw_3_110 : Cond.laysFinal RX5 "HailLeagueModel$State" "suits" "[I" ∈ WW := wt3 110 rfl rfl
theorem kw_3_112 : Cond.laysFinal RX5 "HailLeagueModel$State" "stands" "[I" ∈ WW := wt3 112 rfl rfl
theorem kw_3_114 : Cond.laysFinal RX5 "HailLeagueModel$State" "powder" "[I" ∈ WW := wt3 114 rfl rfl
theorem kw_3_116 : Cond.laysFinal RX5 "HailLeagueModel$State" "shots" "[I" ∈ WW := wt3 116 rfl rfl
theorem kw_3_118 : Cond.laysFinal RX5 "HailLeagueModel$State" "place" "[I" ∈ WW := wt3 118 rfl rfl
theorem kw_3_120 : Cond.laysFinal RX5 "HailLeagueModel$State" "hail" "[I" ∈ WW := wt3 120 rfl rfl
theorem kw_3_122 : Cond.laysFinal RX5 "HailLeagueModel$State" "this$0" "LHailLeagueModel;" ∈ WW := wt3 122 rfl rfl
theorem kw_3_125 : Cond.fieldLink RX6 40 "HailLeagueModel" "thrown" "I" ∈ WW := wt3 125 rfl rfl
theorem kw_3_126 : Cond.fieldLink RX6 48 "HailLeagueModel" "yards" "I" ∈ WW := wt3 126 rfl rfl
theorem kw_3_128 : Cond.fieldLink RX6 9 "HailLeagueModel" "at" "[I" ∈ WW := wt3 128 rfl rfl
theorem kw_3_130 : Cond.fieldLink RX6 13 "HailLeagueModel" "member" "[I" ∈ WW := wt3 130 rfl rfl
theorem kw_3_132 : Cond.fieldLink RX6 16 "HailLeagueModel" "insured" "[I" ∈ WW := wt3 132 rfl rfl
theorem kw_3_134 : Cond.fieldLink RX6 51 "HailLeagueModel" "cannons" "I" ∈ WW := wt3 134 rfl rfl
theorem kw_3_136 : Cond.fieldLink RX6 19 "HailLeagueModel" "range" "[I" ∈ WW := wt3 136 rfl rfl
theorem kw_3_139 : Cond.fieldLink RX6 86 "HailLeagueModel" "clouds" "I" ∈ WW := wt3 139 rfl rfl
theorem kw_3_140 : Cond.fieldLink RX6 22 "HailLeagueModel" "drift" "[I" ∈ WW := wt3 140 rfl rfl
theorem kw_3_142 : Cond.fieldLink RX6 25 "HailLeagueModel" "wind" "[I" ∈ WW := wt3 142 rfl rfl
theorem kw_3_144 : Cond.fieldLink RX6 33 "HailLeagueModel" "s" "LHailLeagueModel$State;" ∈ WW := wt3 144 rfl rfl
theorem kw_3_145 : Cond.fieldLink RX6 37 "HailLeagueModel" "ahead" "LHailLeagueModel$State;" ∈ WW := wt3 145 rfl rfl
theorem kw_3_146 : Cond.lays RX6 "HailLeagueModel" "thrown" "I" ∈ WW := wt3 146 rfl rfl
theorem kw_3_148 : Cond.lays RX6 "HailLeagueModel" "yards" "I" ∈ WW := wt3 148 rfl rfl
theorem kw_3_150 : Cond.laysFinal RX6 "HailLeagueModel" "at" "[I" ∈ WW := wt3 150 rfl rfl
theorem kw_3_152 : Cond.laysFinal RX6 "HailLeagueModel" "member" "[I" ∈ WW := wt3 152 rfl rfl
theorem kw_3_154 : Cond.laysFinal RX6 "HailLeagueModel" "insured" "[I" ∈ WW := wt3 154 rfl rfl
theorem kw_3_156 : Cond.lays RX6 "HailLeagueModel" "cannons" "I" ∈ WW := wt3 156 rfl rfl
theorem kw_3_158 : Cond.laysFinal RX6 "HailLeagueModel" "range" "[I" ∈ WW := wt3 158 rfl rfl
theorem kw_3_160 : Cond.lays RX6 "HailLeagueModel" "clouds" "I" ∈ WW := wt3 160 rfl rfl
theorem kw_3_162 : Cond.laysFinal RX6 "HailLeagueModel" "drift" "[I" ∈ WW := wt3 162 rfl rfl
theorem kw_3_164 : Cond.laysFinal RX6 "HailLeagueModel" "wind" "[I" ∈ WW := wt3 164 rfl rfl
theorem kw_3_166 : Cond.laysFinal RX6 "HailLeagueModel" "s" "LHailLeagueModel$State;" ∈ WW := wt3 166 rfl rfl
theorem kw_3_168 : Cond.laysFinal RX6 "HailLeagueModel" "ahead" "LHailLeagueModel$State;" ∈ WW := wt3 168 rfl rfl
theorem kw_3_171 : Cond.methodLink RL 75 yX6_thrown ∈ WW := wt3 171 rfl rfl
theorem kw_3_172 : Cond.instanceMethod yX6_thrown ∈ WW := wt3 172 rfl rfl
theorem kw_3_173 : Cond.selects RX6 yX6_thrown yX6_thrown ∈ WW := wt3 173 rfl rfl
theorem kw_3_174 : Cond.code yX6_thrown prog_7_method_2_code 1 (some .int) ∈ WW := wt3 174 rfl rfl
theorem kw_3_175 : Cond.methodLink RL 74 yX6_plant ∈ WW := wt3 175 rfl rfl
theorem kw_3_176 : Cond.instanceMethod yX6_plant ∈ WW := wt3 176 rfl rfl
theorem kw_3_177 : Cond.selects RX6 yX6_plant yX6_plant ∈ WW := wt3 177 rfl rfl
theorem kw_3_178 : Cond.code yX6_plant prog_7_method_8_code 5 (some .int) ∈ WW := wt3 178 rfl rfl
theorem kw_3_179 : Cond.methodLink RX6 54 yX6_isPlace ∈ WW := wt3 179 rfl rfl
theorem kw_3_180 : Cond.static yX6_isPlace ∈ WW := wt3 180 rfl rfl
theorem kw_3_181 : Cond.code yX6_isPlace prog_7_method_5_code 1 (some .boolean) ∈ WW := wt3 181 rfl rfl
theorem kw_3_182 : Cond.methodLink RX6 44 yX6_isIn ∈ WW := wt3 182 rfl rfl
theorem kw_3_183 : Cond.static yX6_isIn ∈ WW := wt3 183 rfl rfl
theorem kw_3_184 : Cond.code yX6_isIn prog_7_method_4_code 3 (some .boolean) ∈ WW := wt3 184 rfl rfl
theorem kw_3_185 : Cond.methodLink RX6 58 yX6_no ∈ WW := wt3 185 rfl rfl
theorem kw_3_187 : Cond.instanceMethod yX6_no ∈ WW := wt3 187 rfl rfl
theorem kw_3_188 : Cond.code yX6_no prog_7_method_3_code 2 (some .int) ∈ WW := wt3 188 rfl rfl
theorem kw_3_189 : Cond.methodLink RL 82 yX6_sign ∈ WW := wt3 189 rfl rfl
theorem kw_3_190 : Cond.instanceMethod yX6_sign ∈ WW := wt3 190 rfl rfl
theorem kw_3_191 : Cond.selects RX6 yX6_sign yX6_sign ∈ WW := wt3 191 rfl rfl
theorem kw_3_192 : Cond.code yX6_sign prog_7_method_9_code 5 (some .int) ∈ WW := wt3 192 rfl rfl
theorem kw_3_193 : Cond.methodLink RX6 65 yX6_isYard ∈ WW := wt3 193 rfl rfl
theorem kw_3_195 : Cond.instanceMethod yX6_isYard ∈ WW := wt3 195 rfl rfl
theorem kw_3_196 : Cond.code yX6_isYard prog_7_method_6_code 2 (some .boolean) ∈ WW := wt3 196 rfl rfl
theorem kw_3_197 : Cond.methodLink RL 86 yX6_cannon ∈ WW := wt3 197 rfl rfl
theorem kw_3_198 : Cond.instanceMethod yX6_cannon ∈ WW := wt3 198 rfl rfl
theorem kw_3_199 : Cond.selects RX6 yX6_cannon yX6_cannon ∈ WW := wt3 199 rfl rfl
theorem kw_3_200 : Cond.code yX6_cannon prog_7_method_10_code 4 (some .int) ∈ WW := wt3 200 rfl rfl
theorem kw_3_201 : Cond.methodLink RL 90 yX6_load ∈ WW := wt3 201 rfl rfl
theorem kw_3_202 : Cond.instanceMethod yX6_load ∈ WW := wt3 202 rfl rfl
theorem kw_3_203 : Cond.selects RX6 yX6_load yX6_load ∈ WW := wt3 203 rfl rfl
theorem kw_3_204 : Cond.code yX6_load prog_7_method_11_code 3 (some .int) ∈ WW := wt3 204 rfl rfl
theorem kw_3_205 : Cond.methodLink RX6 74 yX6_isCannon ∈ WW := wt3 205 rfl rfl
theorem kw_3_207 : Cond.instanceMethod yX6_isCannon ∈ WW := wt3 207 rfl rfl
theorem kw_3_208 : Cond.code yX6_isCannon prog_7_method_7_code 2 (some .boolean) ∈ WW := wt3 208 rfl rfl
theorem kw_3_209 : Cond.methodLink RX6 80 yJ9_min_7cf53 ∈ WW := wt3 209 rfl rfl
theorem kw_3_210 : Cond.methodLink RL 93 yX6_gather ∈ WW := wt3 210 rfl rfl
theorem kw_3_211 : Cond.instanceMethod yX6_gather ∈ WW := wt3 211 rfl rfl
theorem kw_3_212 : Cond.selects RX6 yX6_gather yX6_gather ∈ WW := wt3 212 rfl rfl
theorem kw_3_213 : Cond.code yX6_gather prog_7_method_12_code 4 (some .int) ∈ WW := wt3 213 rfl rfl
theorem kw_3_214 : Cond.methodLink RL 96 yX6_setWind ∈ WW := wt3 214 rfl rfl
theorem kw_3_215 : Cond.instanceMethod yX6_setWind ∈ WW := wt3 215 rfl rfl
theorem kw_3_216 : Cond.selects RX6 yX6_setWind yX6_setWind ∈ WW := wt3 216 rfl rfl
theorem kw_3_217 : Cond.code yX6_setWind prog_7_method_13_code 4 (some .int) ∈ WW := wt3 217 rfl rfl
theorem kw_3_218 : Cond.methodLink RL 99 yX6_vineyard ∈ WW := wt3 218 rfl rfl
theorem kw_3_219 : Cond.instanceMethod yX6_vineyard ∈ WW := wt3 219 rfl rfl
theorem kw_3_220 : Cond.selects RX6 yX6_vineyard yX6_vineyard ∈ WW := wt3 220 rfl rfl
theorem kw_3_221 : Cond.code yX6_vineyard prog_7_method_15_code 3 (some .int) ∈ WW := wt3 221 rfl rfl
theorem kw_3_222 : Cond.methodLink RX6 104 yX6_yardTold ∈ WW := wt3 222 rfl rfl
theorem kw_3_224 : Cond.instanceMethod yX6_yardTold ∈ WW := wt3 224 rfl rfl
theorem kw_3_225 : Cond.code yX6_yardTold prog_7_method_14_code 4 (some .int) ∈ WW := wt3 225 rfl rfl
theorem kw_3_226 : Cond.methodLink RL 102 yX6_about ∈ WW := wt3 226 rfl rfl
theorem kw_3_227 : Cond.instanceMethod yX6_about ∈ WW := wt3 227 rfl rfl
theorem kw_3_228 : Cond.selects RX6 yX6_about yX6_about ∈ WW := wt3 228 rfl rfl
theorem kw_3_229 : Cond.code yX6_about prog_7_method_17_code 3 (some .int) ∈ WW := wt3 229 rfl rfl
theorem kw_3_230 : Cond.methodLink RX6 113 yX6_cannonTold ∈ WW := wt3 230 rfl rfl
theorem kw_3_232 : Cond.instanceMethod yX6_cannonTold ∈ WW := wt3 232 rfl rfl
theorem kw_3_233 : Cond.code yX6_cannonTold prog_7_method_16_code 4 (some .int) ∈ WW := wt3 233 rfl rfl
theorem kw_3_234 : Cond.methodLink RX6 110 yX5_aims ∈ WW := wt3 234 rfl rfl
theorem kw_3_235 : Cond.instanceMethod yX5_aims ∈ WW := wt3 235 rfl rfl
theorem kw_3_236 : Cond.selects RX5 yX5_aims yX5_aims ∈ WW := wt3 236 rfl rfl
theorem kw_3_237 : Cond.code yX5_aims prog_8_method_6_code 4 (some .int) ∈ WW := wt3 237 rfl rfl
theorem kw_3_238 : Cond.methodLink RX5 73 yX5_isGone ∈ WW := wt3 238 rfl rfl
theorem kw_3_239 : Cond.instanceMethod yX5_isGone ∈ WW := wt3 239 rfl rfl
theorem kw_4_0 : Cond.selects RX5 yX5_isGone yX5_isGone ∈ WW := wt4 0 rfl rfl
theorem kw_4_1 : Cond.code yX5_isGone prog_8_method_4_code 2 (some .boolean) ∈ WW := wt4 1 rfl rfl
theorem kw_4_3 : Cond.methodLink RX5 76 yX5_far ∈ WW := wt4 3 rfl rfl
theorem kw_4_4 : Cond.instanceMethod yX5_far ∈ WW := wt4 4 rfl rfl
theorem kw_4_5 : Cond.selects RX5 yX5_far yX5_far ∈ WW := wt4 5 rfl rfl
theorem kw_4_6 : Cond.code yX5_far prog_8_method_5_code 3 (some .int) ∈ WW := wt4 6 rfl rfl
theorem kw_4_7 : Cond.methodLink RX5 64 yJ9_abs_0f7a4 ∈ WW := wt4 7 rfl rfl
theorem kw_4_8 : Cond.methodLink RL 105 yX6_cloud ∈ WW := wt4 8 rfl rfl
theorem kw_4_9 : Cond.instanceMethod yX6_cloud ∈ WW := wt4 9 rfl rfl
theorem kw_4_10 : Cond.selects RX6 yX6_cloud yX6_cloud ∈ WW := wt4 10 rfl rfl
theorem kw_4_11 : Cond.code yX6_cloud prog_7_method_19_code 3 (some .int) ∈ WW := wt4 11 rfl rfl
theorem kw_4_12 : Cond.methodLink RX6 119 yX6_cloudTold ∈ WW := wt4 12 rfl rfl
theorem kw_4_14 : Cond.instanceMethod yX6_cloudTold ∈ WW := wt4 14 rfl rfl
theorem kw_4_15 : Cond.code yX6_cloudTold prog_7_method_18_code 3 (some .int) ∈ WW := wt4 15 rfl rfl
theorem kw_4_16 : Cond.methodLink RX6 116 yX5_isGone ∈ WW := wt4 16 rfl rfl
theorem kw_4_17 : Cond.methodLink RL 109 yX6_count ∈ WW := wt4 17 rfl rfl
theorem kw_4_18 : Cond.instanceMethod yX6_count ∈ WW := wt4 18 rfl rfl
theorem kw_4_19 : Cond.selects RX6 yX6_count yX6_count ∈ WW := wt4 19 rfl rfl
theorem kw_4_20 : Cond.code yX6_count prog_7_method_20_code 2 (some .int) ∈ WW := wt4 20 rfl rfl
theorem kw_4_21 : Cond.methodLink RX6 122 yX5_counted ∈ WW := wt4 21 rfl rfl
theorem kw_4_22 : Cond.instanceMethod yX5_counted ∈ WW := wt4 22 rfl rfl
theorem kw_4_23 : Cond.selects RX5 yX5_counted yX5_counted ∈ WW := wt4 23 rfl rfl
theorem kw_4_24 : Cond.code yX5_counted prog_8_method_14_code 4 (some .int) ∈ WW := wt4 24 rfl rfl
theorem kw_4_25 : Cond.methodLink RX5 130 yX5_sum ∈ WW := wt4 25 rfl rfl
theorem kw_4_27 : Cond.instanceMethod yX5_sum ∈ WW := wt4 27 rfl rfl
theorem kw_4_28 : Cond.code yX5_sum prog_8_method_12_code 5 (some .int) ∈ WW := wt4 28 rfl rfl
theorem kw_4_29 : Cond.methodLink RX5 134 yX5_losses ∈ WW := wt4 29 rfl rfl
theorem kw_4_30 : Cond.instanceMethod yX5_losses ∈ WW := wt4 30 rfl rfl
theorem kw_4_31 : Cond.selects RX5 yX5_losses yX5_losses ∈ WW := wt4 31 rfl rfl
theorem kw_4_32 : Cond.code yX5_losses prog_8_method_13_code 1 (some .int) ∈ WW := wt4 32 rfl rfl
theorem kw_4_33 : Cond.methodLink RL 112 yX6_pass ∈ WW := wt4 33 rfl rfl
theorem kw_4_34 : Cond.instanceMethod yX6_pass ∈ WW := wt4 34 rfl rfl
theorem kw_4_35 : Cond.selects RX6 yX6_pass yX6_pass ∈ WW := wt4 35 rfl rfl
theorem kw_4_36 : Cond.code yX6_pass prog_7_method_21_code 3 (some .int) ∈ WW := wt4 36 rfl rfl
theorem kw_4_37 : Cond.methodLink RX6 125 yX5_losses ∈ WW := wt4 37 rfl rfl
theorem kw_4_38 : Cond.methodLink RX6 129 yX5_pass_ ∈ WW := wt4 38 rfl rfl
theorem kw_4_39 : Cond.instanceMethod yX5_pass_ ∈ WW := wt4 39 rfl rfl
theorem kw_4_40 : Cond.selects RX5 yX5_pass_ yX5_pass_ ∈ WW := wt4 40 rfl rfl
theorem kw_4_41 : Cond.code yX5_pass_ prog_8_method_11_code 3 none ∈ WW := wt4 41 rfl rfl
theorem kw_4_42 : Cond.methodLink RX5 127 yX5_pass ∈ WW := wt4 42 rfl rfl
theorem kw_4_43 : Cond.instanceMethod yX5_pass ∈ WW := wt4 43 rfl rfl
theorem kw_4_44 : Cond.selects RX5 yX5_pass yX5_pass ∈ WW := wt4 44 rfl rfl
theorem kw_4_45 : Cond.code yX5_pass prog_8_method_10_code 2 none ∈ WW := wt4 45 rfl rfl
theorem kw_4_46 : Cond.methodLink RX5 117 yX5_shoot ∈ WW := wt4 46 rfl rfl
theorem kw_4_48 : Cond.instanceMethod yX5_shoot ∈ WW := wt4 48 rfl rfl
theorem kw_4_49 : Cond.code yX5_shoot prog_8_method_7_code 4 none ∈ WW := wt4 49 rfl rfl
theorem kw_4_50 : Cond.methodLink RX5 83 yX5_aims ∈ WW := wt4 50 rfl rfl
theorem kw_4_51 : Cond.methodLink RX5 86 yJ9_max_7cf53 ∈ WW := wt4 51 rfl rfl
theorem kw_4_52 : Cond.methodLink RX5 121 yX5_drop ∈ WW := wt4 52 rfl rfl
theorem kw_4_54 : Cond.instanceMethod yX5_drop ∈ WW := wt4 54 rfl rfl
theorem kw_4_55 : Cond.code yX5_drop prog_8_method_8_code 5 none ∈ WW := wt4 55 rfl rfl
theorem kw_4_56 : Cond.methodLink RX5 98 yJ9_min_7cf53 ∈ WW := wt4 56 rfl rfl
theorem kw_4_57 : Cond.methodLink RX5 124 yX5_settle ∈ WW := wt4 57 rfl rfl
theorem kw_4_59 : Cond.instanceMethod yX5_settle ∈ WW := wt4 59 rfl rfl
theorem kw_4_60 : Cond.code yX5_settle prog_8_method_9_code 2 none ∈ WW := wt4 60 rfl rfl
theorem kw_4_62 : Cond.methodLink RL 115 yX6_hit ∈ WW := wt4 62 rfl rfl
theorem kw_4_63 : Cond.instanceMethod yX6_hit ∈ WW := wt4 63 rfl rfl
theorem kw_4_64 : Cond.selects RX6 yX6_hit yX6_hit ∈ WW := wt4 64 rfl rfl
theorem kw_4_65 : Cond.code yX6_hit prog_7_method_22_code 3 (some .int) ∈ WW := wt4 65 rfl rfl
theorem kw_4_66 : Cond.methodLink RX6 133 yX5_become ∈ WW := wt4 66 rfl rfl
theorem kw_4_67 : Cond.instanceMethod yX5_become ∈ WW := wt4 67 rfl rfl
theorem kw_4_68 : Cond.selects RX5 yX5_become yX5_become ∈ WW := wt4 68 rfl rfl
theorem kw_4_69 : Cond.code yX5_become prog_8_method_3_code 2 none ∈ WW := wt4 69 rfl rfl
theorem kw_4_70 : Cond.methodLink RX5 56 yX5_copy ∈ WW := wt4 70 rfl rfl
theorem kw_4_72 : Cond.instanceMethod yX5_copy ∈ WW := wt4 72 rfl rfl
theorem kw_4_73 : Cond.code yX5_copy prog_8_method_2_code 3 none ∈ WW := wt4 73 rfl rfl
theorem kw_4_74 : Cond.methodLink RX5 47 ⟨"java/lang/System", "arraycopy", "(Ljava/lang/Object;ILjava/lang/Object;II)V"⟩ ∈ WW := wt4 74 rfl rfl
theorem kw_4_75 : Cond.methodLink RX6 137 yX5_pass ∈ WW := wt4 75 rfl rfl
theorem kw_4_76 : Cond.methodLink RL 118 yX6_foresee ∈ WW := wt4 76 rfl rfl
theorem kw_4_77 : Cond.instanceMethod yX6_foresee ∈ WW := wt4 77 rfl rfl
theorem kw_4_78 : Cond.selects RX6 yX6_foresee yX6_foresee ∈ WW := wt4 78 rfl rfl
theorem kw_4_79 : Cond.code yX6_foresee prog_7_method_23_code 3 (some .int) ∈ WW := wt4 79 rfl rfl
theorem kw_4_80 : Cond.methodLink RL 121 yX6_advise ∈ WW := wt4 80 rfl rfl
theorem kw_4_81 : Cond.instanceMethod yX6_advise ∈ WW := wt4 81 rfl rfl
theorem kw_4_82 : Cond.selects RX6 yX6_advise yX6_advise ∈ WW := wt4 82 rfl rfl
theorem kw_4_83 : Cond.code yX6_advise prog_7_method_25_code 7 (some .int) ∈ WW := wt4 83 rfl rfl
theorem kw_4_84 : Cond.methodLink RX6 139 yX6_lostWith ∈ WW := wt4 84 rfl rfl
theorem kw_4_86 : Cond.instanceMethod yX6_lostWith ∈ WW := wt4 86 rfl rfl
theorem kw_4_87 : Cond.code yX6_lostWith prog_7_method_24_code 4 (some .int) ∈ WW := wt4 87 rfl rfl
theorem kw_4_88 : Cond.methodLink RL 124 yX6_move ∈ WW := wt4 88 rfl rfl
theorem kw_4_89 : Cond.instanceMethod yX6_move ∈ WW := wt4 89 rfl rfl
theorem kw_4_90 : Cond.selects RX6 yX6_move yX6_move ∈ WW := wt4 90 rfl rfl
theorem kw_4_91 : Cond.code yX6_move prog_7_method_26_code 4 (some .int) ∈ WW := wt4 91 rfl rfl
theorem kw_4_92 : Cond.methodLink RL 129 yX6_mean ∈ WW := wt4 92 rfl rfl
theorem kw_4_93 : Cond.instanceMethod yX6_mean ∈ WW := wt4 93 rfl rfl
theorem kw_4_94 : Cond.selects RX6 yX6_mean yX6_mean ∈ WW := wt4 94 rfl rfl
theorem kw_4_95 : Cond.code yX6_mean prog_7_method_27_code 1 (some .double) ∈ WW := wt4 95 rfl rfl
theorem kw_4_97 : Cond.methodLink RL 134 yX6_digest ∈ WW := wt4 97 rfl rfl
theorem kw_4_98 : Cond.instanceMethod yX6_digest ∈ WW := wt4 98 rfl rfl
theorem kw_4_99 : Cond.selects RX6 yX6_digest yX6_digest ∈ WW := wt4 99 rfl rfl
theorem kw_4_100 : Cond.code yX6_digest prog_7_method_28_code 7 (some .long) ∈ WW := wt4 100 rfl rfl
theorem kw_4_101 : Cond.constantLong RX6 147 1201 ∈ WW := wt4 101 rfl rfl
theorem kw_4_102 : Cond.constantLong RX6 149 31 ∈ WW := wt4 102 rfl rfl
theorem kw_4_103 : Cond.arrayClass .long ∈ WW := wt4 103 rfl rfl
abbrev NL : List Cond := [Cond.methodLinkNest RX1 29 yX4_isPlace "HailLeague", Cond.methodLinkNest RX6 30 yX5_init "HailLeagueModel", Cond.fieldLinkNest RX6 77 "HailLeagueModel$State" "coins" "I" "HailLeagueModel", Cond.fieldLinkNest RX6 62 "HailLeagueModel$State" "vines" "[I" "HailLeagueModel", Cond.fieldLinkNest RX6 95 "HailLeagueModel$State" "lost" "[I" "HailLeagueModel", Cond.fieldLinkNest RX6 101 "HailLeagueModel$State" "lostAll" "[I" "HailLeagueModel", Cond.fieldLinkNest RX6 98 "HailLeagueModel$State" "suits" "[I" "HailLeagueModel", Cond.fieldLinkNest RX6 68 "HailLeagueModel$State" "stands" "[I" "HailLeagueModel", Cond.fieldLinkNest RX6 71 "HailLeagueModel$State" "powder" "[I" "HailLeagueModel", Cond.fieldLinkNest RX6 107 "HailLeagueModel$State" "shots" "[I" "HailLeagueModel", Cond.fieldLinkNest RX6 89 "HailLeagueModel$State" "place" "[I" "HailLeagueModel", Cond.fieldLinkNest RX6 92 "HailLeagueModel$State" "hail" "[I" "HailLeagueModel", Cond.fieldLinkNest RX5 89 "HailLeagueModel" "yards" "I" "HailLeagueModel", Cond.fieldLinkNest RX5 95 "HailLeagueModel" "at" "[I" "HailLeagueModel", Cond.fieldLinkNest RX5 92 "HailLeagueModel" "member" "[I" "HailLeagueModel", Cond.fieldLinkNest RX5 101 "HailLeagueModel" "insured" "[I" "HailLeagueModel", Cond.fieldLinkNest RX5 114 "HailLeagueModel" "cannons" "I" "HailLeagueModel", Cond.fieldLinkNest RX5 80 "HailLeagueModel" "range" "[I" "HailLeagueModel", Cond.fieldLinkNest RX5 70 "HailLeagueModel" "clouds" "I" "HailLeagueModel", Cond.fieldLinkNest RX5 108 "HailLeagueModel" "drift" "[I" "HailLeagueModel", Cond.fieldLinkNest RX5 111 "HailLeagueModel" "wind" "[I" "HailLeagueModel", Cond.methodLinkNest RX5 60 yX6_isPlace "HailLeagueModel", Cond.methodLinkNest RX5 104 yX6_isIn "HailLeagueModel", Cond.methodLinkNest RX6 143 yX5_sum "HailLeagueModel", Cond.castable "java/lang/IllegalArgumentException" "java/lang/IllegalArgumentException", Cond.declares ⟨"java/lang/RuntimeException", "<init>", "()V"⟩, Cond.declares ⟨"java/lang/RuntimeException", "<init>", "(Ljava/lang/String;)V"⟩, Cond.declares ⟨"java/lang/Exception", "<init>", "()V"⟩, Cond.declares ⟨"java/lang/Exception", "<init>", "(Ljava/lang/String;)V"⟩, Cond.declares ⟨"java/lang/Throwable", "<init>", "()V"⟩, Cond.declares ⟨"java/lang/Throwable", "<init>", "(Ljava/lang/String;)V"⟩, Cond.castable "java/lang/IllegalStateException" "java/lang/IllegalStateException", Cond.castable "java/lang/IndexOutOfBoundsException" "java/lang/IndexOutOfBoundsException"]
theorem NL_in : ∀ w ∈ NL, w ∈ lw_tbl := List.forall_mem_cons.mpr ⟨wn2 213 rfl, List.forall_mem_cons.mpr ⟨wn3 74 rfl, List.forall_mem_cons.mpr ⟨wn3 80 rfl, List.forall_mem_cons.mpr ⟨wn3 82 rfl, List.forall_mem_cons.mpr ⟨wn3 84 rfl, List.forall_mem_cons.mpr ⟨wn3 86 rfl, List.forall_mem_cons.mpr ⟨wn3 88 rfl, List.forall_mem_cons.mpr ⟨wn3 90 rfl, List.forall_mem_cons.mpr ⟨wn3 92 rfl, List.forall_mem_cons.mpr ⟨wn3 94 rfl, List.forall_mem_cons.mpr ⟨wn3 96 rfl, List.forall_mem_cons.mpr ⟨wn3 98 rfl, List.forall_mem_cons.mpr ⟨wn3 127 rfl, List.forall_mem_cons.mpr ⟨wn3 129 rfl, List.forall_mem_cons.mpr ⟨wn3 131 rfl, List.forall_mem_cons.mpr ⟨wn3 133 rfl, List.forall_mem_cons.mpr ⟨wn3 135 rfl, List.forall_mem_cons.mpr ⟨wn3 137 rfl, List.forall_mem_cons.mpr ⟨wn3 138 rfl, List.forall_mem_cons.mpr ⟨wn3 141 rfl, List.forall_mem_cons.mpr ⟨wn3 143 rfl, List.forall_mem_cons.mpr ⟨wn4 2 rfl, List.forall_mem_cons.mpr ⟨wn4 61 rfl, List.forall_mem_cons.mpr ⟨wn4 96 rfl, List.forall_mem_cons.mpr ⟨wn2 6 rfl, List.forall_mem_cons.mpr ⟨wn2 7 rfl, List.forall_mem_cons.mpr ⟨wn2 8 rfl, List.forall_mem_cons.mpr ⟨wn2 9 rfl, List.forall_mem_cons.mpr ⟨wn2 10 rfl, List.forall_mem_cons.mpr ⟨wn2 11 rfl, List.forall_mem_cons.mpr ⟨wn2 12 rfl, List.forall_mem_cons.mpr ⟨wn2 72 rfl, List.forall_mem_cons.mpr ⟨wn2 102 rfl, fun _ h => absurd h List.not_mem_nil⟩⟩⟩⟩⟩⟩⟩⟩⟩⟩⟩⟩⟩⟩⟩⟩⟩⟩⟩⟩⟩⟩⟩⟩⟩⟩⟩⟩⟩⟩⟩⟩⟩
theorem kn_0 : Cond.methodLinkNest RX1 29 yX4_isPlace "HailLeague" ∈ NL := List.mem_of_getElem? (i := 0) rfl
theorem kn_1 : Cond.methodLinkNest RX6 30 yX5_init "HailLeagueModel" ∈ NL := List.mem_of_getElem? (i := 1) rfl
theorem kn_2 : Cond.fieldLinkNest RX6 77 "HailLeagueModel$State" "coins" "I" "HailLeagueModel" ∈ NL := List.mem_of_getElem? (i := 2) rfl
theorem kn_3 : Cond.fieldLinkNest RX6 62 "HailLeagueModel$State" "vines" "[I" "HailLeagueModel" ∈ NL := List.mem_of_getElem? (i := 3) rfl
theorem kn_4 : Cond.fieldLinkNest RX6 95 "HailLeagueModel$State" "lost" "[I" "HailLeagueModel" ∈ NL := List.mem_of_getElem? (i := 4) rfl
theorem kn_5 : Cond.fieldLinkNest RX6 101 "HailLeagueModel$State" "lostAll" "[I" "HailLeagueModel" ∈ NL := List.mem_of_getElem? (i := 5) rfl
theorem kn_6 : Cond.fieldLinkNest RX6 98 "HailLeagueModel$State" "suits" "[I" "HailLeagueModel" ∈ NL := List.mem_of_getElem? (i := 6) rfl
theorem kn_7 : Cond.fieldLinkNest RX6 68 "HailLeagueModel$State" "stands" "[I" "HailLeagueModel" ∈ NL := List.mem_of_getElem? (i := 7) rfl
theorem kn_8 : Cond.fieldLinkNest RX6 71 "HailLeagueModel$State" "powder" "[I" "HailLeagueModel" ∈ NL := List.mem_of_getElem? (i := 8) rfl
theorem kn_9 : Cond.fieldLinkNest RX6 107 "HailLeagueModel$State" "shots" "[I" "HailLeagueModel" ∈ NL := List.mem_of_getElem? (i := 9) rfl
theorem kn_10 : Cond.fieldLinkNest RX6 89 "HailLeagueModel$State" "place" "[I" "HailLeagueModel" ∈ NL := List.mem_of_getElem? (i := 10) rfl
theorem kn_11 : Cond.fieldLinkNest RX6 92 "HailLeagueModel$State" "hail" "[I" "HailLeagueModel" ∈ NL := List.mem_of_getElem? (i := 11) rfl
theorem kn_12 : Cond.fieldLinkNest RX5 89 "HailLeagueModel" "yards" "I" "HailLeagueModel" ∈ NL := List.mem_of_getElem? (i := 12) rfl
theorem kn_13 : Cond.fieldLinkNest RX5 95 "HailLeagueModel" "at" "[I" "HailLeagueModel" ∈ NL := List.mem_of_getElem? (i := 13) rfl
theorem kn_14 : Cond.fieldLinkNest RX5 92 "HailLeagueModel" "member" "[I" "HailLeagueModel" ∈ NL := List.mem_of_getElem? (i := 14) rfl
theorem kn_15 : Cond.fieldLinkNest RX5 101 "HailLeagueModel" "insured" "[I" "HailLeagueModel" ∈ NL := List.mem_of_getElem? (i := 15) rfl
theorem kn_16 : Cond.fieldLinkNest RX5 114 "HailLeagueModel" "cannons" "I" "HailLeagueModel" ∈ NL := List.mem_of_getElem? (i := 16) rfl
theorem kn_17 : Cond.fieldLinkNest RX5 80 "HailLeagueModel" "range" "[I" "HailLeagueModel" ∈ NL := List.mem_of_getElem? (i := 17) rfl
theorem kn_18 : Cond.fieldLinkNest RX5 70 "HailLeagueModel" "clouds" "I" "HailLeagueModel" ∈ NL := List.mem_of_getElem? (i := 18) rfl
theorem kn_19 : Cond.fieldLinkNest RX5 108 "HailLeagueModel" "drift" "[I" "HailLeagueModel" ∈ NL := List.mem_of_getElem? (i := 19) rfl
theorem kn_20 : Cond.fieldLinkNest RX5 111 "HailLeagueModel" "wind" "[I" "HailLeagueModel" ∈ NL := List.mem_of_getElem? (i := 20) rfl
theorem kn_21 : Cond.methodLinkNest RX5 60 yX6_isPlace "HailLeagueModel" ∈ NL := List.mem_of_getElem? (i := 21) rfl
theorem kn_22 : Cond.methodLinkNest RX5 104 yX6_isIn "HailLeagueModel" ∈ NL := List.mem_of_getElem? (i := 22) rfl
theorem kn_23 : Cond.methodLinkNest RX6 143 yX5_sum "HailLeagueModel" ∈ NL := List.mem_of_getElem? (i := 23) rfl
theorem kn_24 : Cond.castable "java/lang/IllegalArgumentException" "java/lang/IllegalArgumentException" ∈ NL := List.mem_of_getElem? (i := 24) rfl
theorem kn_25 : Cond.declares ⟨"java/lang/RuntimeException", "<init>", "()V"⟩ ∈ NL := List.mem_of_getElem? (i := 25) rfl
theorem kn_26 : Cond.declares ⟨"java/lang/RuntimeException", "<init>", "(Ljava/lang/String;)V"⟩ ∈ NL := List.mem_of_getElem? (i := 26) rfl
theorem kn_27 : Cond.declares ⟨"java/lang/Exception", "<init>", "()V"⟩ ∈ NL := List.mem_of_getElem? (i := 27) rfl
theorem kn_28 : Cond.declares ⟨"java/lang/Exception", "<init>", "(Ljava/lang/String;)V"⟩ ∈ NL := List.mem_of_getElem? (i := 28) rfl
theorem kn_29 : Cond.declares ⟨"java/lang/Throwable", "<init>", "()V"⟩ ∈ NL := List.mem_of_getElem? (i := 29) rfl
theorem kn_30 : Cond.declares ⟨"java/lang/Throwable", "<init>", "(Ljava/lang/String;)V"⟩ ∈ NL := List.mem_of_getElem? (i := 30) rfl
theorem kn_31 : Cond.castable "java/lang/IllegalStateException" "java/lang/IllegalStateException" ∈ NL := List.mem_of_getElem? (i := 31) rfl
theorem kn_32 : Cond.castable "java/lang/IndexOutOfBoundsException" "java/lang/IndexOutOfBoundsException" ∈ NL := List.mem_of_getElem? (i := 32) rfl
theorem inX0 : ∀ w ∈ u_ws RX0 TX0 5, w ∈ WW := by
  show ∀ w ∈ [u_lay RX0 TX0 0, u_lay RX0 TX0 1, u_lay RX0 TX0 2, u_lay RX0 TX0 3, u_lay RX0 TX0 4], w ∈ WW
  exact List.forall_mem_cons.mpr ⟨kw_1_78, List.forall_mem_cons.mpr ⟨kw_1_80, List.forall_mem_cons.mpr ⟨kw_1_82, List.forall_mem_cons.mpr ⟨kw_1_84, List.forall_mem_cons.mpr ⟨kw_1_86, fun _ h => absurd h List.not_mem_nil⟩⟩⟩⟩⟩
theorem inX1 : ∀ w ∈ u_ws RX1 TX1 5, w ∈ WW := by
  show ∀ w ∈ [u_lay RX1 TX1 0, u_lay RX1 TX1 1, u_lay RX1 TX1 2, u_lay RX1 TX1 3, u_lay RX1 TX1 4], w ∈ WW
  exact List.forall_mem_cons.mpr ⟨kw_1_101, List.forall_mem_cons.mpr ⟨kw_1_103, List.forall_mem_cons.mpr ⟨kw_1_105, List.forall_mem_cons.mpr ⟨kw_1_107, List.forall_mem_cons.mpr ⟨kw_1_109, fun _ h => absurd h List.not_mem_nil⟩⟩⟩⟩⟩
theorem inX2 : ∀ w ∈ u_ws RX2 TX2 6, w ∈ WW := by
  show ∀ w ∈ [u_lay RX2 TX2 0, u_lay RX2 TX2 1, u_lay RX2 TX2 2, u_lay RX2 TX2 3, u_lay RX2 TX2 4, u_lay RX2 TX2 5], w ∈ WW
  exact List.forall_mem_cons.mpr ⟨kw_1_123, List.forall_mem_cons.mpr ⟨kw_1_125, List.forall_mem_cons.mpr ⟨kw_1_127, List.forall_mem_cons.mpr ⟨kw_1_129, List.forall_mem_cons.mpr ⟨kw_1_131, List.forall_mem_cons.mpr ⟨kw_1_133, fun _ h => absurd h List.not_mem_nil⟩⟩⟩⟩⟩⟩
theorem inX3 : ∀ w ∈ u_ws RX3 TX3 8, w ∈ WW := by
  show ∀ w ∈ [u_lay RX3 TX3 0, u_lay RX3 TX3 1, u_lay RX3 TX3 2, u_lay RX3 TX3 3, u_lay RX3 TX3 4, u_lay RX3 TX3 5, u_lay RX3 TX3 6, u_lay RX3 TX3 7], w ∈ WW
  exact List.forall_mem_cons.mpr ⟨kw_1_46, List.forall_mem_cons.mpr ⟨kw_1_48, List.forall_mem_cons.mpr ⟨kw_1_50, List.forall_mem_cons.mpr ⟨kw_1_52, List.forall_mem_cons.mpr ⟨kw_1_54, List.forall_mem_cons.mpr ⟨kw_1_56, List.forall_mem_cons.mpr ⟨kw_1_58, List.forall_mem_cons.mpr ⟨kw_1_60, fun _ h => absurd h List.not_mem_nil⟩⟩⟩⟩⟩⟩⟩⟩
theorem inX4 : ∀ w ∈ u_ws RX4 TX4 2, w ∈ WW := by
  show ∀ w ∈ [u_lay RX4 TX4 0, u_lay RX4 TX4 1], w ∈ WW
  exact List.forall_mem_cons.mpr ⟨kw_1_138, List.forall_mem_cons.mpr ⟨kw_1_140, fun _ h => absurd h List.not_mem_nil⟩⟩
theorem inX5 : ∀ w ∈ u_ws RX5 TX5 12, w ∈ WW := by
  show ∀ w ∈ [u_lay RX5 TX5 0, u_lay RX5 TX5 1, u_lay RX5 TX5 2, u_lay RX5 TX5 3, u_lay RX5 TX5 4, u_lay RX5 TX5 5, u_lay RX5 TX5 6, u_lay RX5 TX5 7, u_lay RX5 TX5 8, u_lay RX5 TX5 9, u_lay RX5 TX5 10, u_lay RX5 TX5 11], w ∈ WW
  exact List.forall_mem_cons.mpr ⟨kw_3_100, List.forall_mem_cons.mpr ⟨kw_3_102, List.forall_mem_cons.mpr ⟨kw_3_104, List.forall_mem_cons.mpr ⟨kw_3_106, List.forall_mem_cons.mpr ⟨kw_3_108, List.forall_mem_cons.mpr ⟨kw_3_110, List.forall_mem_cons.mpr ⟨kw_3_112, List.forall_mem_cons.mpr ⟨kw_3_114, List.forall_mem_cons.mpr ⟨kw_3_116, List.forall_mem_cons.mpr ⟨kw_3_118, List.forall_mem_cons.mpr ⟨kw_3_120, List.forall_mem_cons.mpr ⟨kw_3_122, fun _ h => absurd h List.not_mem_nil⟩⟩⟩⟩⟩⟩⟩⟩⟩⟩⟩⟩
theorem inX6 : ∀ w ∈ u_ws RX6 TX6 12, w ∈ WW := by
  show ∀ w ∈ [u_lay RX6 TX6 0, u_lay RX6 TX6 1, u_lay RX6 TX6 2, u_lay RX6 TX6 3, u_lay RX6 TX6 4, u_lay RX6 TX6 5, u_lay RX6 TX6 6, u_lay RX6 TX6 7, u_lay RX6 TX6 8, u_lay RX6 TX6 9, u_lay RX6 TX6 10, u_lay RX6 TX6 11], w ∈ WW
  exact List.forall_mem_cons.mpr ⟨kw_3_146, List.forall_mem_cons.mpr ⟨kw_3_148, List.forall_mem_cons.mpr ⟨kw_3_150, List.forall_mem_cons.mpr ⟨kw_3_152, List.forall_mem_cons.mpr ⟨kw_3_154, List.forall_mem_cons.mpr ⟨kw_3_156, List.forall_mem_cons.mpr ⟨kw_3_158, List.forall_mem_cons.mpr ⟨kw_3_160, List.forall_mem_cons.mpr ⟨kw_3_162, List.forall_mem_cons.mpr ⟨kw_3_164, List.forall_mem_cons.mpr ⟨kw_3_166, List.forall_mem_cons.mpr ⟨kw_3_168, fun _ h => absurd h List.not_mem_nil⟩⟩⟩⟩⟩⟩⟩⟩⟩⟩⟩⟩
end
section
theorem dX0_init_0 : decode cX0_init 0 = .ok (.aload_n 0, 1) := by decide +kernel
theorem dX0_init_1 : decode cX0_init 1 = .ok (.invokespecial 3, 3) := by decide +kernel
theorem dX0_init_4 : decode cX0_init 4 = .ok (.aload_n 0, 1) := by decide +kernel
theorem dX0_init_5 : decode cX0_init 5 = .ok (.bipush 6, 2) := by decide +kernel
theorem dX0_init_7 : decode cX0_init 7 = .ok (.newarray .int, 2) := by decide +kernel
theorem dX0_init_9 : decode cX0_init 9 = .ok (.putfield 9, 3) := by decide +kernel
theorem dX0_init_12 : decode cX0_init 12 = .ok (.aload_n 0, 1) := by decide +kernel
theorem dX0_init_13 : decode cX0_init 13 = .ok (.bipush 6, 2) := by decide +kernel
theorem dX0_init_15 : decode cX0_init 15 = .ok (.newarray .int, 2) := by decide +kernel
theorem dX0_init_17 : decode cX0_init 17 = .ok (.putfield 15, 3) := by decide +kernel
theorem dX0_init_20 : decode cX0_init 20 = .ok (.aload_n 0, 1) := by decide +kernel
theorem dX0_init_21 : decode cX0_init 21 = .ok (.bipush 6, 2) := by decide +kernel
theorem dX0_init_23 : decode cX0_init 23 = .ok (.newarray .int, 2) := by decide +kernel
theorem dX0_init_25 : decode cX0_init 25 = .ok (.putfield 18, 3) := by decide +kernel
theorem dX0_init_28 : decode cX0_init 28 = .ok (.aload_n 0, 1) := by decide +kernel
theorem dX0_init_29 : decode cX0_init 29 = .ok (.bipush 6, 2) := by decide +kernel
theorem dX0_init_31 : decode cX0_init 31 = .ok (.newarray .int, 2) := by decide +kernel
theorem dX0_init_33 : decode cX0_init 33 = .ok (.putfield 21, 3) := by decide +kernel
theorem dX0_init_36 : decode cX0_init 36 = .ok (.aload_n 0, 1) := by decide +kernel
theorem dX0_init_37 : decode cX0_init 37 = .ok (.iconst 0, 1) := by decide +kernel
theorem dX0_init_38 : decode cX0_init 38 = .ok (.putfield 24, 3) := by decide +kernel
theorem dX0_init_41 : decode cX0_init 41 = .ok (.return_, 1) := by decide +kernel
theorem dX0_add_0 : decode cX0_add 0 = .ok (.aload_n 0, 1) := by decide +kernel
theorem dX0_add_1 : decode cX0_add 1 = .ok (.getfield 24, 3) := by decide +kernel
theorem dX0_add_4 : decode cX0_add 4 = .ok (.istore 4, 2) := by decide +kernel
theorem dX0_add_6 : decode cX0_add 6 = .ok (.aload_n 0, 1) := by decide +kernel
theorem dX0_add_7 : decode cX0_add 7 = .ok (.getfield 9, 3) := by decide +kernel
theorem dX0_add_10 : decode cX0_add 10 = .ok (.iload 4, 2) := by decide +kernel
theorem dX0_add_12 : decode cX0_add 12 = .ok (.iload_n 1, 1) := by decide +kernel
theorem dX0_add_13 : decode cX0_add 13 = .ok (.iastore, 1) := by decide +kernel
theorem dX0_add_14 : decode cX0_add 14 = .ok (.aload_n 0, 1) := by decide +kernel
theorem dX0_add_15 : decode cX0_add 15 = .ok (.getfield 15, 3) := by decide +kernel
theorem dX0_add_18 : decode cX0_add 18 = .ok (.iload 4, 2) := by decide +kernel
theorem dX0_add_20 : decode cX0_add 20 = .ok (.iload_n 2, 1) := by decide +kernel
theorem dX0_add_21 : decode cX0_add 21 = .ok (.iastore, 1) := by decide +kernel
theorem dX0_add_22 : decode cX0_add 22 = .ok (.aload_n 0, 1) := by decide +kernel
theorem dX0_add_23 : decode cX0_add 23 = .ok (.getfield 18, 3) := by decide +kernel
theorem dX0_add_26 : decode cX0_add 26 = .ok (.iload 4, 2) := by decide +kernel
theorem dX0_add_28 : decode cX0_add 28 = .ok (.iload_n 3, 1) := by decide +kernel
theorem dX0_add_29 : decode cX0_add 29 = .ok (.iastore, 1) := by decide +kernel
theorem dX0_add_30 : decode cX0_add 30 = .ok (.aload_n 0, 1) := by decide +kernel
theorem dX0_add_31 : decode cX0_add 31 = .ok (.dup, 1) := by decide +kernel
theorem dX0_add_32 : decode cX0_add 32 = .ok (.getfield 24, 3) := by decide +kernel
theorem dX0_add_35 : decode cX0_add 35 = .ok (.iconst 1, 1) := by decide +kernel
theorem dX0_add_36 : decode cX0_add 36 = .ok (.iadd, 1) := by decide +kernel
theorem dX0_add_37 : decode cX0_add 37 = .ok (.putfield 24, 3) := by decide +kernel
theorem dX0_add_40 : decode cX0_add 40 = .ok (.iload 4, 2) := by decide +kernel
theorem dX0_add_42 : decode cX0_add 42 = .ok (.ireturn, 1) := by decide +kernel
theorem dX0_addPowder_0 : decode cX0_addPowder 0 = .ok (.aload_n 0, 1) := by decide +kernel
theorem dX0_addPowder_1 : decode cX0_addPowder 1 = .ok (.getfield 18, 3) := by decide +kernel
theorem dX0_addPowder_4 : decode cX0_addPowder 4 = .ok (.iload_n 1, 1) := by decide +kernel
theorem dX0_addPowder_5 : decode cX0_addPowder 5 = .ok (.aload_n 0, 1) := by decide +kernel
theorem dX0_addPowder_6 : decode cX0_addPowder 6 = .ok (.getfield 18, 3) := by decide +kernel
theorem dX0_addPowder_9 : decode cX0_addPowder 9 = .ok (.iload_n 1, 1) := by decide +kernel
theorem dX0_addPowder_10 : decode cX0_addPowder 10 = .ok (.iaload, 1) := by decide +kernel
theorem dX0_addPowder_11 : decode cX0_addPowder 11 = .ok (.iload_n 2, 1) := by decide +kernel
theorem dX0_addPowder_12 : decode cX0_addPowder 12 = .ok (.iadd, 1) := by decide +kernel
theorem dX0_addPowder_13 : decode cX0_addPowder 13 = .ok (.bipush 60, 2) := by decide +kernel
theorem dX0_addPowder_15 : decode cX0_addPowder 15 = .ok (.invokestatic 28, 3) := by decide +kernel
theorem dX0_addPowder_18 : decode cX0_addPowder 18 = .ok (.iastore, 1) := by decide +kernel
theorem dX0_addPowder_19 : decode cX0_addPowder 19 = .ok (.aload_n 0, 1) := by decide +kernel
theorem dX0_addPowder_20 : decode cX0_addPowder 20 = .ok (.getfield 18, 3) := by decide +kernel
theorem dX0_addPowder_23 : decode cX0_addPowder 23 = .ok (.iload_n 1, 1) := by decide +kernel
theorem dX0_addPowder_24 : decode cX0_addPowder 24 = .ok (.iaload, 1) := by decide +kernel
theorem dX0_addPowder_25 : decode cX0_addPowder 25 = .ok (.ireturn, 1) := by decide +kernel
theorem dX0_fact_0 : decode cX0_fact 0 = .ok (.iload_n 2, 1) := by decide +kernel
theorem dX0_fact_1 : decode cX0_fact 1 = .ok (.tableswitch 59 0 3 #[31, 38, 45, 52], 31) := by decide +kernel
theorem dX0_fact_32 : decode cX0_fact 32 = .ok (.aload_n 0, 1) := by decide +kernel
theorem dX0_fact_33 : decode cX0_fact 33 = .ok (.getfield 9, 3) := by decide +kernel
theorem dX0_fact_36 : decode cX0_fact 36 = .ok (.iload_n 1, 1) := by decide +kernel
theorem dX0_fact_37 : decode cX0_fact 37 = .ok (.iaload, 1) := by decide +kernel
theorem dX0_fact_38 : decode cX0_fact 38 = .ok (.ireturn, 1) := by decide +kernel
theorem dX0_fact_39 : decode cX0_fact 39 = .ok (.aload_n 0, 1) := by decide +kernel
theorem dX0_fact_40 : decode cX0_fact 40 = .ok (.getfield 15, 3) := by decide +kernel
theorem dX0_fact_43 : decode cX0_fact 43 = .ok (.iload_n 1, 1) := by decide +kernel
theorem dX0_fact_44 : decode cX0_fact 44 = .ok (.iaload, 1) := by decide +kernel
theorem dX0_fact_45 : decode cX0_fact 45 = .ok (.ireturn, 1) := by decide +kernel
theorem dX0_fact_46 : decode cX0_fact 46 = .ok (.aload_n 0, 1) := by decide +kernel
theorem dX0_fact_47 : decode cX0_fact 47 = .ok (.getfield 18, 3) := by decide +kernel
theorem dX0_fact_50 : decode cX0_fact 50 = .ok (.iload_n 1, 1) := by decide +kernel
theorem dX0_fact_51 : decode cX0_fact 51 = .ok (.iaload, 1) := by decide +kernel
theorem dX0_fact_52 : decode cX0_fact 52 = .ok (.ireturn, 1) := by decide +kernel
theorem dX0_fact_53 : decode cX0_fact 53 = .ok (.aload_n 0, 1) := by decide +kernel
theorem dX0_fact_54 : decode cX0_fact 54 = .ok (.getfield 21, 3) := by decide +kernel
theorem dX0_fact_57 : decode cX0_fact 57 = .ok (.iload_n 1, 1) := by decide +kernel
theorem dX0_fact_58 : decode cX0_fact 58 = .ok (.iaload, 1) := by decide +kernel
theorem dX0_fact_59 : decode cX0_fact 59 = .ok (.ireturn, 1) := by decide +kernel
theorem dX0_fact_60 : decode cX0_fact 60 = .ok (.aload_n 0, 1) := by decide +kernel
theorem dX0_fact_61 : decode cX0_fact 61 = .ok (.iload_n 1, 1) := by decide +kernel
theorem dX0_fact_62 : decode cX0_fact 62 = .ok (.aload_n 3, 1) := by decide +kernel
theorem dX0_fact_63 : decode cX0_fact 63 = .ok (.invokevirtual 34, 3) := by decide +kernel
theorem dX0_fact_66 : decode cX0_fact 66 = .ok (.ireturn, 1) := by decide +kernel
theorem dX0_target_0 : decode cX0_target 0 = .ok (.aload_n 0, 1) := by decide +kernel
theorem dX0_target_1 : decode cX0_target 1 = .ok (.getfield 18, 3) := by decide +kernel
theorem dX0_target_4 : decode cX0_target 4 = .ok (.iload_n 1, 1) := by decide +kernel
theorem dX0_target_5 : decode cX0_target 5 = .ok (.iaload, 1) := by decide +kernel
theorem dX0_target_6 : decode cX0_target 6 = .ok (.ifCond .le 22, 3) := by decide +kernel
theorem dX0_target_9 : decode cX0_target 9 = .ok (.aload_n 2, 1) := by decide +kernel
theorem dX0_target_10 : decode cX0_target 10 = .ok (.aload_n 0, 1) := by decide +kernel
theorem dX0_target_11 : decode cX0_target 11 = .ok (.getfield 9, 3) := by decide +kernel
theorem dX0_target_14 : decode cX0_target 14 = .ok (.iload_n 1, 1) := by decide +kernel
theorem dX0_target_15 : decode cX0_target 15 = .ok (.iaload, 1) := by decide +kernel
theorem dX0_target_16 : decode cX0_target 16 = .ok (.aload_n 0, 1) := by decide +kernel
theorem dX0_target_17 : decode cX0_target 17 = .ok (.getfield 15, 3) := by decide +kernel
theorem dX0_target_20 : decode cX0_target 20 = .ok (.iload_n 1, 1) := by decide +kernel
theorem dX0_target_21 : decode cX0_target 21 = .ok (.iaload, 1) := by decide +kernel
theorem dX0_target_22 : decode cX0_target 22 = .ok (.invokevirtual 38, 3) := by decide +kernel
theorem dX0_target_25 : decode cX0_target 25 = .ok (.goto 4, 3) := by decide +kernel
theorem dX0_target_28 : decode cX0_target 28 = .ok (.iconst (-1), 1) := by decide +kernel
theorem dX0_target_29 : decode cX0_target 29 = .ok (.ireturn, 1) := by decide +kernel
theorem dX0_shoot_0 : decode cX0_shoot 0 = .ok (.iconst 0, 1) := by decide +kernel
theorem dX0_shoot_1 : decode cX0_shoot 1 = .ok (.istore_n 3, 1) := by decide +kernel
theorem dX0_shoot_2 : decode cX0_shoot 2 = .ok (.iload_n 3, 1) := by decide +kernel
theorem dX0_shoot_3 : decode cX0_shoot 3 = .ok (.aload_n 0, 1) := by decide +kernel
theorem dX0_shoot_4 : decode cX0_shoot 4 = .ok (.getfield 24, 3) := by decide +kernel
theorem dX0_shoot_7 : decode cX0_shoot 7 = .ok (.if_icmp .ge 70, 3) := by decide +kernel
theorem dX0_shoot_10 : decode cX0_shoot 10 = .ok (.aload_n 0, 1) := by decide +kernel
theorem dX0_shoot_11 : decode cX0_shoot 11 = .ok (.iload_n 3, 1) := by decide +kernel
theorem dX0_shoot_12 : decode cX0_shoot 12 = .ok (.aload_n 1, 1) := by decide +kernel
theorem dX0_shoot_13 : decode cX0_shoot 13 = .ok (.invokevirtual 34, 3) := by decide +kernel
theorem dX0_shoot_16 : decode cX0_shoot 16 = .ok (.istore 4, 2) := by decide +kernel
theorem dX0_shoot_18 : decode cX0_shoot 18 = .ok (.iload 4, 2) := by decide +kernel
theorem dX0_shoot_20 : decode cX0_shoot 20 = .ok (.ifCond .lt 51, 3) := by decide +kernel
theorem dX0_shoot_23 : decode cX0_shoot 23 = .ok (.aload_n 0, 1) := by decide +kernel
theorem dX0_shoot_24 : decode cX0_shoot 24 = .ok (.getfield 18, 3) := by decide +kernel
theorem dX0_shoot_27 : decode cX0_shoot 27 = .ok (.iload_n 3, 1) := by decide +kernel
theorem dX0_shoot_28 : decode cX0_shoot 28 = .ok (.dup2, 1) := by decide +kernel
theorem dX0_shoot_29 : decode cX0_shoot 29 = .ok (.iaload, 1) := by decide +kernel
theorem dX0_shoot_30 : decode cX0_shoot 30 = .ok (.iconst 1, 1) := by decide +kernel
theorem dX0_shoot_31 : decode cX0_shoot 31 = .ok (.isub, 1) := by decide +kernel
theorem dX0_shoot_32 : decode cX0_shoot 32 = .ok (.iastore, 1) := by decide +kernel
theorem dX0_shoot_33 : decode cX0_shoot 33 = .ok (.aload_n 0, 1) := by decide +kernel
theorem dX0_shoot_34 : decode cX0_shoot 34 = .ok (.getfield 21, 3) := by decide +kernel
theorem dX0_shoot_37 : decode cX0_shoot 37 = .ok (.iload_n 3, 1) := by decide +kernel
theorem dX0_shoot_38 : decode cX0_shoot 38 = .ok (.dup2, 1) := by decide +kernel
theorem dX0_shoot_39 : decode cX0_shoot 39 = .ok (.iaload, 1) := by decide +kernel
theorem dX0_shoot_40 : decode cX0_shoot 40 = .ok (.iconst 1, 1) := by decide +kernel
theorem dX0_shoot_41 : decode cX0_shoot 41 = .ok (.iadd, 1) := by decide +kernel
theorem dX0_shoot_42 : decode cX0_shoot 42 = .ok (.iastore, 1) := by decide +kernel
theorem dX0_shoot_43 : decode cX0_shoot 43 = .ok (.aload_n 1, 1) := by decide +kernel
theorem dX0_shoot_44 : decode cX0_shoot 44 = .ok (.iload 4, 2) := by decide +kernel
theorem dX0_shoot_46 : decode cX0_shoot 46 = .ok (.aload_n 0, 1) := by decide +kernel
theorem dX0_shoot_47 : decode cX0_shoot 47 = .ok (.getfield 9, 3) := by decide +kernel
theorem dX0_shoot_50 : decode cX0_shoot 50 = .ok (.iload_n 3, 1) := by decide +kernel
theorem dX0_shoot_51 : decode cX0_shoot 51 = .ok (.iaload, 1) := by decide +kernel
theorem dX0_shoot_52 : decode cX0_shoot 52 = .ok (.aload_n 0, 1) := by decide +kernel
theorem dX0_shoot_53 : decode cX0_shoot 53 = .ok (.getfield 15, 3) := by decide +kernel
theorem dX0_shoot_56 : decode cX0_shoot 56 = .ok (.iload_n 3, 1) := by decide +kernel
theorem dX0_shoot_57 : decode cX0_shoot 57 = .ok (.iaload, 1) := by decide +kernel
theorem dX0_shoot_58 : decode cX0_shoot 58 = .ok (.invokevirtual 43, 3) := by decide +kernel
theorem dX0_shoot_61 : decode cX0_shoot 61 = .ok (.aload_n 2, 1) := by decide +kernel
theorem dX0_shoot_62 : decode cX0_shoot 62 = .ok (.aload_n 0, 1) := by decide +kernel
theorem dX0_shoot_63 : decode cX0_shoot 63 = .ok (.getfield 9, 3) := by decide +kernel
theorem dX0_shoot_66 : decode cX0_shoot 66 = .ok (.iload_n 3, 1) := by decide +kernel
theorem dX0_shoot_67 : decode cX0_shoot 67 = .ok (.iaload, 1) := by decide +kernel
theorem dX0_shoot_68 : decode cX0_shoot 68 = .ok (.invokevirtual 47, 3) := by decide +kernel
theorem dX0_shoot_71 : decode cX0_shoot 71 = .ok (.iinc 3 1, 3) := by decide +kernel
theorem dX0_shoot_74 : decode cX0_shoot 74 = .ok (.goto (-72), 3) := by decide +kernel
theorem dX0_shoot_77 : decode cX0_shoot 77 = .ok (.return_, 1) := by decide +kernel
theorem dX0_sumOfShots_0 : decode cX0_sumOfShots 0 = .ok (.iconst 0, 1) := by decide +kernel
theorem dX0_sumOfShots_1 : decode cX0_sumOfShots 1 = .ok (.istore_n 1, 1) := by decide +kernel
theorem dX0_sumOfShots_2 : decode cX0_sumOfShots 2 = .ok (.iconst 0, 1) := by decide +kernel
theorem dX0_sumOfShots_3 : decode cX0_sumOfShots 3 = .ok (.istore_n 2, 1) := by decide +kernel
theorem dX0_sumOfShots_4 : decode cX0_sumOfShots 4 = .ok (.iload_n 2, 1) := by decide +kernel
theorem dX0_sumOfShots_5 : decode cX0_sumOfShots 5 = .ok (.aload_n 0, 1) := by decide +kernel
theorem dX0_sumOfShots_6 : decode cX0_sumOfShots 6 = .ok (.getfield 24, 3) := by decide +kernel
theorem dX0_sumOfShots_9 : decode cX0_sumOfShots 9 = .ok (.if_icmp .ge 18, 3) := by decide +kernel
theorem dX0_sumOfShots_12 : decode cX0_sumOfShots 12 = .ok (.iload_n 1, 1) := by decide +kernel
theorem dX0_sumOfShots_13 : decode cX0_sumOfShots 13 = .ok (.aload_n 0, 1) := by decide +kernel
theorem dX0_sumOfShots_14 : decode cX0_sumOfShots 14 = .ok (.getfield 21, 3) := by decide +kernel
theorem dX0_sumOfShots_17 : decode cX0_sumOfShots 17 = .ok (.iload_n 2, 1) := by decide +kernel
theorem dX0_sumOfShots_18 : decode cX0_sumOfShots 18 = .ok (.iaload, 1) := by decide +kernel
theorem dX0_sumOfShots_19 : decode cX0_sumOfShots 19 = .ok (.iadd, 1) := by decide +kernel
theorem dX0_sumOfShots_20 : decode cX0_sumOfShots 20 = .ok (.istore_n 1, 1) := by decide +kernel
theorem dX0_sumOfShots_21 : decode cX0_sumOfShots 21 = .ok (.iinc 2 1, 3) := by decide +kernel
theorem dX0_sumOfShots_24 : decode cX0_sumOfShots 24 = .ok (.goto (-20), 3) := by decide +kernel
theorem dX0_sumOfShots_27 : decode cX0_sumOfShots 27 = .ok (.iload_n 1, 1) := by decide +kernel
theorem dX0_sumOfShots_28 : decode cX0_sumOfShots 28 = .ok (.ireturn, 1) := by decide +kernel
theorem dX0_copyFrom_0 : decode cX0_copyFrom 0 = .ok (.aload_n 1, 1) := by decide +kernel
theorem dX0_copyFrom_1 : decode cX0_copyFrom 1 = .ok (.getfield 9, 3) := by decide +kernel
theorem dX0_copyFrom_4 : decode cX0_copyFrom 4 = .ok (.iconst 0, 1) := by decide +kernel
theorem dX0_copyFrom_5 : decode cX0_copyFrom 5 = .ok (.aload_n 0, 1) := by decide +kernel
theorem dX0_copyFrom_6 : decode cX0_copyFrom 6 = .ok (.getfield 9, 3) := by decide +kernel
theorem dX0_copyFrom_9 : decode cX0_copyFrom 9 = .ok (.iconst 0, 1) := by decide +kernel
theorem dX0_copyFrom_10 : decode cX0_copyFrom 10 = .ok (.bipush 6, 2) := by decide +kernel
theorem dX0_copyFrom_12 : decode cX0_copyFrom 12 = .ok (.invokestatic 53, 3) := by decide +kernel
theorem dX0_copyFrom_15 : decode cX0_copyFrom 15 = .ok (.aload_n 1, 1) := by decide +kernel
theorem dX0_copyFrom_16 : decode cX0_copyFrom 16 = .ok (.getfield 15, 3) := by decide +kernel
theorem dX0_copyFrom_19 : decode cX0_copyFrom 19 = .ok (.iconst 0, 1) := by decide +kernel
theorem dX0_copyFrom_20 : decode cX0_copyFrom 20 = .ok (.aload_n 0, 1) := by decide +kernel
theorem dX0_copyFrom_21 : decode cX0_copyFrom 21 = .ok (.getfield 15, 3) := by decide +kernel
theorem dX0_copyFrom_24 : decode cX0_copyFrom 24 = .ok (.iconst 0, 1) := by decide +kernel
theorem dX0_copyFrom_25 : decode cX0_copyFrom 25 = .ok (.bipush 6, 2) := by decide +kernel
theorem dX0_copyFrom_27 : decode cX0_copyFrom 27 = .ok (.invokestatic 53, 3) := by decide +kernel
theorem dX0_copyFrom_30 : decode cX0_copyFrom 30 = .ok (.aload_n 1, 1) := by decide +kernel
theorem dX0_copyFrom_31 : decode cX0_copyFrom 31 = .ok (.getfield 18, 3) := by decide +kernel
theorem dX0_copyFrom_34 : decode cX0_copyFrom 34 = .ok (.iconst 0, 1) := by decide +kernel
theorem dX0_copyFrom_35 : decode cX0_copyFrom 35 = .ok (.aload_n 0, 1) := by decide +kernel
theorem dX0_copyFrom_36 : decode cX0_copyFrom 36 = .ok (.getfield 18, 3) := by decide +kernel
theorem dX0_copyFrom_39 : decode cX0_copyFrom 39 = .ok (.iconst 0, 1) := by decide +kernel
theorem dX0_copyFrom_40 : decode cX0_copyFrom 40 = .ok (.bipush 6, 2) := by decide +kernel
theorem dX0_copyFrom_42 : decode cX0_copyFrom 42 = .ok (.invokestatic 53, 3) := by decide +kernel
theorem dX0_copyFrom_45 : decode cX0_copyFrom 45 = .ok (.aload_n 1, 1) := by decide +kernel
theorem dX0_copyFrom_46 : decode cX0_copyFrom 46 = .ok (.getfield 21, 3) := by decide +kernel
theorem dX0_copyFrom_49 : decode cX0_copyFrom 49 = .ok (.iconst 0, 1) := by decide +kernel
theorem dX0_copyFrom_50 : decode cX0_copyFrom 50 = .ok (.aload_n 0, 1) := by decide +kernel
theorem dX0_copyFrom_51 : decode cX0_copyFrom 51 = .ok (.getfield 21, 3) := by decide +kernel
theorem dX0_copyFrom_54 : decode cX0_copyFrom 54 = .ok (.iconst 0, 1) := by decide +kernel
theorem dX0_copyFrom_55 : decode cX0_copyFrom 55 = .ok (.bipush 6, 2) := by decide +kernel
theorem dX0_copyFrom_57 : decode cX0_copyFrom 57 = .ok (.invokestatic 53, 3) := by decide +kernel
theorem dX0_copyFrom_60 : decode cX0_copyFrom 60 = .ok (.aload_n 0, 1) := by decide +kernel
theorem dX0_copyFrom_61 : decode cX0_copyFrom 61 = .ok (.aload_n 1, 1) := by decide +kernel
theorem dX0_copyFrom_62 : decode cX0_copyFrom 62 = .ok (.getfield 24, 3) := by decide +kernel
theorem dX0_copyFrom_65 : decode cX0_copyFrom 65 = .ok (.putfield 24, 3) := by decide +kernel
theorem dX0_copyFrom_68 : decode cX0_copyFrom 68 = .ok (.return_, 1) := by decide +kernel
theorem dX1_init_0 : decode cX1_init 0 = .ok (.aload_n 0, 1) := by decide +kernel
theorem dX1_init_1 : decode cX1_init 1 = .ok (.invokespecial 3, 3) := by decide +kernel
theorem dX1_init_4 : decode cX1_init 4 = .ok (.aload_n 0, 1) := by decide +kernel
theorem dX1_init_5 : decode cX1_init 5 = .ok (.bipush 20, 2) := by decide +kernel
theorem dX1_init_7 : decode cX1_init 7 = .ok (.newarray .int, 2) := by decide +kernel
theorem dX1_init_9 : decode cX1_init 9 = .ok (.putfield 9, 3) := by decide +kernel
theorem dX1_init_12 : decode cX1_init 12 = .ok (.aload_n 0, 1) := by decide +kernel
theorem dX1_init_13 : decode cX1_init 13 = .ok (.bipush 20, 2) := by decide +kernel
theorem dX1_init_15 : decode cX1_init 15 = .ok (.newarray .int, 2) := by decide +kernel
theorem dX1_init_17 : decode cX1_init 17 = .ok (.putfield 15, 3) := by decide +kernel
theorem dX1_init_20 : decode cX1_init 20 = .ok (.aload_n 0, 1) := by decide +kernel
theorem dX1_init_21 : decode cX1_init 21 = .ok (.bipush 20, 2) := by decide +kernel
theorem dX1_init_23 : decode cX1_init 23 = .ok (.newarray .int, 2) := by decide +kernel
theorem dX1_init_25 : decode cX1_init 25 = .ok (.putfield 18, 3) := by decide +kernel
theorem dX1_init_28 : decode cX1_init 28 = .ok (.aload_n 0, 1) := by decide +kernel
theorem dX1_init_29 : decode cX1_init 29 = .ok (.bipush 20, 2) := by decide +kernel
theorem dX1_init_31 : decode cX1_init 31 = .ok (.newarray .boolean, 2) := by decide +kernel
theorem dX1_init_33 : decode cX1_init 33 = .ok (.putfield 21, 3) := by decide +kernel
theorem dX1_init_36 : decode cX1_init 36 = .ok (.aload_n 0, 1) := by decide +kernel
theorem dX1_init_37 : decode cX1_init 37 = .ok (.iconst 0, 1) := by decide +kernel
theorem dX1_init_38 : decode cX1_init 38 = .ok (.putfield 25, 3) := by decide +kernel
theorem dX1_init_41 : decode cX1_init 41 = .ok (.return_, 1) := by decide +kernel
theorem dX1_add_0 : decode cX1_add 0 = .ok (.aload_n 0, 1) := by decide +kernel
theorem dX1_add_1 : decode cX1_add 1 = .ok (.getfield 25, 3) := by decide +kernel
theorem dX1_add_4 : decode cX1_add 4 = .ok (.istore 4, 2) := by decide +kernel
theorem dX1_add_6 : decode cX1_add 6 = .ok (.aload_n 0, 1) := by decide +kernel
theorem dX1_add_7 : decode cX1_add 7 = .ok (.getfield 9, 3) := by decide +kernel
theorem dX1_add_10 : decode cX1_add 10 = .ok (.iload 4, 2) := by decide +kernel
theorem dX1_add_12 : decode cX1_add 12 = .ok (.iload_n 1, 1) := by decide +kernel
theorem dX1_add_13 : decode cX1_add 13 = .ok (.iastore, 1) := by decide +kernel
theorem dX1_add_14 : decode cX1_add 14 = .ok (.aload_n 0, 1) := by decide +kernel
theorem dX1_add_15 : decode cX1_add 15 = .ok (.getfield 15, 3) := by decide +kernel
theorem dX1_add_18 : decode cX1_add 18 = .ok (.iload 4, 2) := by decide +kernel
theorem dX1_add_20 : decode cX1_add 20 = .ok (.iload_n 2, 1) := by decide +kernel
theorem dX1_add_21 : decode cX1_add 21 = .ok (.iastore, 1) := by decide +kernel
theorem dX1_add_22 : decode cX1_add 22 = .ok (.aload_n 0, 1) := by decide +kernel
theorem dX1_add_23 : decode cX1_add 23 = .ok (.getfield 18, 3) := by decide +kernel
theorem dX1_add_26 : decode cX1_add 26 = .ok (.iload 4, 2) := by decide +kernel
theorem dX1_add_28 : decode cX1_add 28 = .ok (.iload_n 3, 1) := by decide +kernel
theorem dX1_add_29 : decode cX1_add 29 = .ok (.iastore, 1) := by decide +kernel
theorem dX1_add_30 : decode cX1_add 30 = .ok (.aload_n 0, 1) := by decide +kernel
theorem dX1_add_31 : decode cX1_add 31 = .ok (.dup, 1) := by decide +kernel
theorem dX1_add_32 : decode cX1_add 32 = .ok (.getfield 25, 3) := by decide +kernel
theorem dX1_add_35 : decode cX1_add 35 = .ok (.iconst 1, 1) := by decide +kernel
theorem dX1_add_36 : decode cX1_add 36 = .ok (.iadd, 1) := by decide +kernel
theorem dX1_add_37 : decode cX1_add 37 = .ok (.putfield 25, 3) := by decide +kernel
theorem dX1_add_40 : decode cX1_add 40 = .ok (.iload 4, 2) := by decide +kernel
theorem dX1_add_42 : decode cX1_add 42 = .ok (.ireturn, 1) := by decide +kernel
theorem dX1_fact_0 : decode cX1_fact 0 = .ok (.iload_n 2, 1) := by decide +kernel
theorem dX1_fact_1 : decode cX1_fact 1 = .ok (.tableswitch 48 0 2 #[27, 34, 41], 27) := by decide +kernel
theorem dX1_fact_28 : decode cX1_fact 28 = .ok (.aload_n 0, 1) := by decide +kernel
theorem dX1_fact_29 : decode cX1_fact 29 = .ok (.getfield 9, 3) := by decide +kernel
theorem dX1_fact_32 : decode cX1_fact 32 = .ok (.iload_n 1, 1) := by decide +kernel
theorem dX1_fact_33 : decode cX1_fact 33 = .ok (.iaload, 1) := by decide +kernel
theorem dX1_fact_34 : decode cX1_fact 34 = .ok (.ireturn, 1) := by decide +kernel
theorem dX1_fact_35 : decode cX1_fact 35 = .ok (.aload_n 0, 1) := by decide +kernel
theorem dX1_fact_36 : decode cX1_fact 36 = .ok (.getfield 15, 3) := by decide +kernel
theorem dX1_fact_39 : decode cX1_fact 39 = .ok (.iload_n 1, 1) := by decide +kernel
theorem dX1_fact_40 : decode cX1_fact 40 = .ok (.iaload, 1) := by decide +kernel
theorem dX1_fact_41 : decode cX1_fact 41 = .ok (.ireturn, 1) := by decide +kernel
theorem dX1_fact_42 : decode cX1_fact 42 = .ok (.aload_n 0, 1) := by decide +kernel
theorem dX1_fact_43 : decode cX1_fact 43 = .ok (.getfield 18, 3) := by decide +kernel
theorem dX1_fact_46 : decode cX1_fact 46 = .ok (.iload_n 1, 1) := by decide +kernel
theorem dX1_fact_47 : decode cX1_fact 47 = .ok (.iaload, 1) := by decide +kernel
theorem dX1_fact_48 : decode cX1_fact 48 = .ok (.ireturn, 1) := by decide +kernel
theorem dX1_fact_49 : decode cX1_fact 49 = .ok (.aload_n 0, 1) := by decide +kernel
theorem dX1_fact_50 : decode cX1_fact 50 = .ok (.getfield 21, 3) := by decide +kernel
theorem dX1_fact_53 : decode cX1_fact 53 = .ok (.iload_n 1, 1) := by decide +kernel
theorem dX1_fact_54 : decode cX1_fact 54 = .ok (.baload, 1) := by decide +kernel
theorem dX1_fact_55 : decode cX1_fact 55 = .ok (.ifCond .eq 7, 3) := by decide +kernel
theorem dX1_fact_58 : decode cX1_fact 58 = .ok (.iconst 1, 1) := by decide +kernel
theorem dX1_fact_59 : decode cX1_fact 59 = .ok (.goto 4, 3) := by decide +kernel
theorem dX1_fact_62 : decode cX1_fact 62 = .ok (.iconst 0, 1) := by decide +kernel
theorem dX1_fact_63 : decode cX1_fact 63 = .ok (.ireturn, 1) := by decide +kernel
theorem dX1_drive_0 : decode cX1_drive 0 = .ok (.iconst 0, 1) := by decide +kernel
theorem dX1_drive_1 : decode cX1_drive 1 = .ok (.istore_n 2, 1) := by decide +kernel
theorem dX1_drive_2 : decode cX1_drive 2 = .ok (.iload_n 2, 1) := by decide +kernel
theorem dX1_drive_3 : decode cX1_drive 3 = .ok (.aload_n 0, 1) := by decide +kernel
theorem dX1_drive_4 : decode cX1_drive 4 = .ok (.getfield 25, 3) := by decide +kernel
theorem dX1_drive_7 : decode cX1_drive 7 = .ok (.if_icmp .ge 58, 3) := by decide +kernel
theorem dX1_drive_10 : decode cX1_drive 10 = .ok (.aload_n 0, 1) := by decide +kernel
theorem dX1_drive_11 : decode cX1_drive 11 = .ok (.getfield 21, 3) := by decide +kernel
theorem dX1_drive_14 : decode cX1_drive 14 = .ok (.iload_n 2, 1) := by decide +kernel
theorem dX1_drive_15 : decode cX1_drive 15 = .ok (.baload, 1) := by decide +kernel
theorem dX1_drive_16 : decode cX1_drive 16 = .ok (.ifCond .ne 43, 3) := by decide +kernel
theorem dX1_drive_19 : decode cX1_drive 19 = .ok (.aload_n 0, 1) := by decide +kernel
theorem dX1_drive_20 : decode cX1_drive 20 = .ok (.getfield 9, 3) := by decide +kernel
theorem dX1_drive_23 : decode cX1_drive 23 = .ok (.iload_n 2, 1) := by decide +kernel
theorem dX1_drive_24 : decode cX1_drive 24 = .ok (.dup2, 1) := by decide +kernel
theorem dX1_drive_25 : decode cX1_drive 25 = .ok (.iaload, 1) := by decide +kernel
theorem dX1_drive_26 : decode cX1_drive 26 = .ok (.aload_n 0, 1) := by decide +kernel
theorem dX1_drive_27 : decode cX1_drive 27 = .ok (.getfield 15, 3) := by decide +kernel
theorem dX1_drive_30 : decode cX1_drive 30 = .ok (.iload_n 2, 1) := by decide +kernel
theorem dX1_drive_31 : decode cX1_drive 31 = .ok (.iaload, 1) := by decide +kernel
theorem dX1_drive_32 : decode cX1_drive 32 = .ok (.iload_n 1, 1) := by decide +kernel
theorem dX1_drive_33 : decode cX1_drive 33 = .ok (.iadd, 1) := by decide +kernel
theorem dX1_drive_34 : decode cX1_drive 34 = .ok (.iadd, 1) := by decide +kernel
theorem dX1_drive_35 : decode cX1_drive 35 = .ok (.iastore, 1) := by decide +kernel
theorem dX1_drive_36 : decode cX1_drive 36 = .ok (.aload_n 0, 1) := by decide +kernel
theorem dX1_drive_37 : decode cX1_drive 37 = .ok (.getfield 21, 3) := by decide +kernel
theorem dX1_drive_40 : decode cX1_drive 40 = .ok (.iload_n 2, 1) := by decide +kernel
theorem dX1_drive_41 : decode cX1_drive 41 = .ok (.aload_n 0, 1) := by decide +kernel
theorem dX1_drive_42 : decode cX1_drive 42 = .ok (.getfield 9, 3) := by decide +kernel
theorem dX1_drive_45 : decode cX1_drive 45 = .ok (.iload_n 2, 1) := by decide +kernel
theorem dX1_drive_46 : decode cX1_drive 46 = .ok (.iaload, 1) := by decide +kernel
theorem dX1_drive_47 : decode cX1_drive 47 = .ok (.invokestatic 29, 3) := by decide +kernel
theorem dX1_drive_50 : decode cX1_drive 50 = .ok (.ifCond .ne 7, 3) := by decide +kernel
theorem dX1_drive_53 : decode cX1_drive 53 = .ok (.iconst 1, 1) := by decide +kernel
theorem dX1_drive_54 : decode cX1_drive 54 = .ok (.goto 4, 3) := by decide +kernel
theorem dX1_drive_57 : decode cX1_drive 57 = .ok (.iconst 0, 1) := by decide +kernel
theorem dX1_drive_58 : decode cX1_drive 58 = .ok (.bastore, 1) := by decide +kernel
theorem dX1_drive_59 : decode cX1_drive 59 = .ok (.iinc 2 1, 3) := by decide +kernel
theorem dX1_drive_62 : decode cX1_drive 62 = .ok (.goto (-60), 3) := by decide +kernel
theorem dX1_drive_65 : decode cX1_drive 65 = .ok (.return_, 1) := by decide +kernel
theorem dX1_nearest_0 : decode cX1_nearest 0 = .ok (.iconst (-1), 1) := by decide +kernel
theorem dX1_nearest_1 : decode cX1_nearest 1 = .ok (.istore_n 3, 1) := by decide +kernel
theorem dX1_nearest_2 : decode cX1_nearest 2 = .ok (.iload_n 2, 1) := by decide +kernel
theorem dX1_nearest_3 : decode cX1_nearest 3 = .ok (.iconst 1, 1) := by decide +kernel
theorem dX1_nearest_4 : decode cX1_nearest 4 = .ok (.iadd, 1) := by decide +kernel
theorem dX1_nearest_5 : decode cX1_nearest 5 = .ok (.istore 4, 2) := by decide +kernel
theorem dX1_nearest_7 : decode cX1_nearest 7 = .ok (.iconst 0, 1) := by decide +kernel
theorem dX1_nearest_8 : decode cX1_nearest 8 = .ok (.istore 5, 2) := by decide +kernel
theorem dX1_nearest_10 : decode cX1_nearest 10 = .ok (.iload 5, 2) := by decide +kernel
theorem dX1_nearest_12 : decode cX1_nearest 12 = .ok (.aload_n 0, 1) := by decide +kernel
theorem dX1_nearest_13 : decode cX1_nearest 13 = .ok (.getfield 25, 3) := by decide +kernel
theorem dX1_nearest_16 : decode cX1_nearest 16 = .ok (.if_icmp .ge 57, 3) := by decide +kernel
theorem dX1_nearest_19 : decode cX1_nearest 19 = .ok (.aload_n 0, 1) := by decide +kernel
theorem dX1_nearest_20 : decode cX1_nearest 20 = .ok (.getfield 9, 3) := by decide +kernel
theorem dX1_nearest_23 : decode cX1_nearest 23 = .ok (.iload 5, 2) := by decide +kernel
theorem dX1_nearest_25 : decode cX1_nearest 25 = .ok (.iaload, 1) := by decide +kernel
theorem dX1_nearest_26 : decode cX1_nearest 26 = .ok (.iload_n 1, 1) := by decide +kernel
theorem dX1_nearest_27 : decode cX1_nearest 27 = .ok (.isub, 1) := by decide +kernel
theorem dX1_nearest_28 : decode cX1_nearest 28 = .ok (.invokestatic 33, 3) := by decide +kernel
theorem dX1_nearest_31 : decode cX1_nearest 31 = .ok (.istore 6, 2) := by decide +kernel
theorem dX1_nearest_33 : decode cX1_nearest 33 = .ok (.aload_n 0, 1) := by decide +kernel
theorem dX1_nearest_34 : decode cX1_nearest 34 = .ok (.getfield 21, 3) := by decide +kernel
theorem dX1_nearest_37 : decode cX1_nearest 37 = .ok (.iload 5, 2) := by decide +kernel
theorem dX1_nearest_39 : decode cX1_nearest 39 = .ok (.baload, 1) := by decide +kernel
theorem dX1_nearest_40 : decode cX1_nearest 40 = .ok (.ifCond .ne 27, 3) := by decide +kernel
theorem dX1_nearest_43 : decode cX1_nearest 43 = .ok (.aload_n 0, 1) := by decide +kernel
theorem dX1_nearest_44 : decode cX1_nearest 44 = .ok (.getfield 18, 3) := by decide +kernel
theorem dX1_nearest_47 : decode cX1_nearest 47 = .ok (.iload 5, 2) := by decide +kernel
theorem dX1_nearest_49 : decode cX1_nearest 49 = .ok (.iaload, 1) := by decide +kernel
theorem dX1_nearest_50 : decode cX1_nearest 50 = .ok (.ifCond .le 17, 3) := by decide +kernel
theorem dX1_nearest_53 : decode cX1_nearest 53 = .ok (.iload 6, 2) := by decide +kernel
theorem dX1_nearest_55 : decode cX1_nearest 55 = .ok (.iload 4, 2) := by decide +kernel
theorem dX1_nearest_57 : decode cX1_nearest 57 = .ok (.if_icmp .ge 10, 3) := by decide +kernel
theorem dX1_nearest_60 : decode cX1_nearest 60 = .ok (.iload 5, 2) := by decide +kernel
theorem dX1_nearest_62 : decode cX1_nearest 62 = .ok (.istore_n 3, 1) := by decide +kernel
theorem dX1_nearest_63 : decode cX1_nearest 63 = .ok (.iload 6, 2) := by decide +kernel
theorem dX1_nearest_65 : decode cX1_nearest 65 = .ok (.istore 4, 2) := by decide +kernel
theorem dX1_nearest_67 : decode cX1_nearest 67 = .ok (.iinc 5 1, 3) := by decide +kernel
theorem dX1_nearest_70 : decode cX1_nearest 70 = .ok (.goto (-60), 3) := by decide +kernel
theorem dX1_nearest_73 : decode cX1_nearest 73 = .ok (.iload_n 3, 1) := by decide +kernel
theorem dX1_nearest_74 : decode cX1_nearest 74 = .ok (.ireturn, 1) := by decide +kernel
theorem dX1_takeShot_0 : decode cX1_takeShot 0 = .ok (.aload_n 0, 1) := by decide +kernel
theorem dX1_takeShot_1 : decode cX1_takeShot 1 = .ok (.getfield 9, 3) := by decide +kernel
theorem dX1_takeShot_4 : decode cX1_takeShot 4 = .ok (.iload_n 1, 1) := by decide +kernel
theorem dX1_takeShot_5 : decode cX1_takeShot 5 = .ok (.iaload, 1) := by decide +kernel
theorem dX1_takeShot_6 : decode cX1_takeShot 6 = .ok (.iload_n 2, 1) := by decide +kernel
theorem dX1_takeShot_7 : decode cX1_takeShot 7 = .ok (.isub, 1) := by decide +kernel
theorem dX1_takeShot_8 : decode cX1_takeShot 8 = .ok (.invokestatic 33, 3) := by decide +kernel
theorem dX1_takeShot_11 : decode cX1_takeShot 11 = .ok (.istore 4, 2) := by decide +kernel
theorem dX1_takeShot_13 : decode cX1_takeShot 13 = .ok (.aload_n 0, 1) := by decide +kernel
theorem dX1_takeShot_14 : decode cX1_takeShot 14 = .ok (.getfield 18, 3) := by decide +kernel
theorem dX1_takeShot_17 : decode cX1_takeShot 17 = .ok (.iload_n 1, 1) := by decide +kernel
theorem dX1_takeShot_18 : decode cX1_takeShot 18 = .ok (.aload_n 0, 1) := by decide +kernel
theorem dX1_takeShot_19 : decode cX1_takeShot 19 = .ok (.getfield 18, 3) := by decide +kernel
theorem dX1_takeShot_22 : decode cX1_takeShot 22 = .ok (.iload_n 1, 1) := by decide +kernel
theorem dX1_takeShot_23 : decode cX1_takeShot 23 = .ok (.iaload, 1) := by decide +kernel
theorem dX1_takeShot_24 : decode cX1_takeShot 24 = .ok (.iload_n 3, 1) := by decide +kernel
theorem dX1_takeShot_25 : decode cX1_takeShot 25 = .ok (.iconst 1, 1) := by decide +kernel
theorem dX1_takeShot_26 : decode cX1_takeShot 26 = .ok (.iadd, 1) := by decide +kernel
theorem dX1_takeShot_27 : decode cX1_takeShot 27 = .ok (.iload 4, 2) := by decide +kernel
theorem dX1_takeShot_29 : decode cX1_takeShot 29 = .ok (.isub, 1) := by decide +kernel
theorem dX1_takeShot_30 : decode cX1_takeShot 30 = .ok (.isub, 1) := by decide +kernel
theorem dX1_takeShot_31 : decode cX1_takeShot 31 = .ok (.iconst 0, 1) := by decide +kernel
theorem dX1_takeShot_32 : decode cX1_takeShot 32 = .ok (.invokestatic 39, 3) := by decide +kernel
theorem dX1_takeShot_35 : decode cX1_takeShot 35 = .ok (.iastore, 1) := by decide +kernel
theorem dX1_takeShot_36 : decode cX1_takeShot 36 = .ok (.return_, 1) := by decide +kernel
theorem dX1_dropUpon_0 : decode cX1_dropUpon 0 = .ok (.iconst 0, 1) := by decide +kernel
theorem dX1_dropUpon_1 : decode cX1_dropUpon 1 = .ok (.istore_n 2, 1) := by decide +kernel
theorem dX1_dropUpon_2 : decode cX1_dropUpon 2 = .ok (.iload_n 2, 1) := by decide +kernel
theorem dX1_dropUpon_3 : decode cX1_dropUpon 3 = .ok (.aload_n 0, 1) := by decide +kernel
theorem dX1_dropUpon_4 : decode cX1_dropUpon 4 = .ok (.getfield 25, 3) := by decide +kernel
theorem dX1_dropUpon_7 : decode cX1_dropUpon 7 = .ok (.if_icmp .ge 59, 3) := by decide +kernel
theorem dX1_dropUpon_10 : decode cX1_dropUpon 10 = .ok (.aload_n 0, 1) := by decide +kernel
theorem dX1_dropUpon_11 : decode cX1_dropUpon 11 = .ok (.getfield 21, 3) := by decide +kernel
theorem dX1_dropUpon_14 : decode cX1_dropUpon 14 = .ok (.iload_n 2, 1) := by decide +kernel
theorem dX1_dropUpon_15 : decode cX1_dropUpon 15 = .ok (.baload, 1) := by decide +kernel
theorem dX1_dropUpon_16 : decode cX1_dropUpon 16 = .ok (.ifCond .ne 44, 3) := by decide +kernel
theorem dX1_dropUpon_19 : decode cX1_dropUpon 19 = .ok (.aload_n 0, 1) := by decide +kernel
theorem dX1_dropUpon_20 : decode cX1_dropUpon 20 = .ok (.getfield 18, 3) := by decide +kernel
theorem dX1_dropUpon_23 : decode cX1_dropUpon 23 = .ok (.iload_n 2, 1) := by decide +kernel
theorem dX1_dropUpon_24 : decode cX1_dropUpon 24 = .ok (.iaload, 1) := by decide +kernel
theorem dX1_dropUpon_25 : decode cX1_dropUpon 25 = .ok (.ifCond .le 35, 3) := by decide +kernel
theorem dX1_dropUpon_28 : decode cX1_dropUpon 28 = .ok (.aload_n 0, 1) := by decide +kernel
theorem dX1_dropUpon_29 : decode cX1_dropUpon 29 = .ok (.getfield 18, 3) := by decide +kernel
theorem dX1_dropUpon_32 : decode cX1_dropUpon 32 = .ok (.iload_n 2, 1) := by decide +kernel
theorem dX1_dropUpon_33 : decode cX1_dropUpon 33 = .ok (.iaload, 1) := by decide +kernel
theorem dX1_dropUpon_34 : decode cX1_dropUpon 34 = .ok (.iconst 4, 1) := by decide +kernel
theorem dX1_dropUpon_35 : decode cX1_dropUpon 35 = .ok (.invokestatic 43, 3) := by decide +kernel
theorem dX1_dropUpon_38 : decode cX1_dropUpon 38 = .ok (.istore_n 3, 1) := by decide +kernel
theorem dX1_dropUpon_39 : decode cX1_dropUpon 39 = .ok (.aload_n 0, 1) := by decide +kernel
theorem dX1_dropUpon_40 : decode cX1_dropUpon 40 = .ok (.getfield 18, 3) := by decide +kernel
theorem dX1_dropUpon_43 : decode cX1_dropUpon 43 = .ok (.iload_n 2, 1) := by decide +kernel
theorem dX1_dropUpon_44 : decode cX1_dropUpon 44 = .ok (.dup2, 1) := by decide +kernel
theorem dX1_dropUpon_45 : decode cX1_dropUpon 45 = .ok (.iaload, 1) := by decide +kernel
theorem dX1_dropUpon_46 : decode cX1_dropUpon 46 = .ok (.iload_n 3, 1) := by decide +kernel
theorem dX1_dropUpon_47 : decode cX1_dropUpon 47 = .ok (.isub, 1) := by decide +kernel
theorem dX1_dropUpon_48 : decode cX1_dropUpon 48 = .ok (.iastore, 1) := by decide +kernel
theorem dX1_dropUpon_49 : decode cX1_dropUpon 49 = .ok (.aload_n 1, 1) := by decide +kernel
theorem dX1_dropUpon_50 : decode cX1_dropUpon 50 = .ok (.aload_n 0, 1) := by decide +kernel
theorem dX1_dropUpon_51 : decode cX1_dropUpon 51 = .ok (.getfield 9, 3) := by decide +kernel
theorem dX1_dropUpon_54 : decode cX1_dropUpon 54 = .ok (.iload_n 2, 1) := by decide +kernel
theorem dX1_dropUpon_55 : decode cX1_dropUpon 55 = .ok (.iaload, 1) := by decide +kernel
theorem dX1_dropUpon_56 : decode cX1_dropUpon 56 = .ok (.iload_n 3, 1) := by decide +kernel
theorem dX1_dropUpon_57 : decode cX1_dropUpon 57 = .ok (.invokevirtual 46, 3) := by decide +kernel
theorem dX1_dropUpon_60 : decode cX1_dropUpon 60 = .ok (.iinc 2 1, 3) := by decide +kernel
theorem dX1_dropUpon_63 : decode cX1_dropUpon 63 = .ok (.goto (-61), 3) := by decide +kernel
theorem dX1_dropUpon_66 : decode cX1_dropUpon 66 = .ok (.return_, 1) := by decide +kernel
theorem dX1_haveHail_0 : decode cX1_haveHail 0 = .ok (.iconst 0, 1) := by decide +kernel
theorem dX1_haveHail_1 : decode cX1_haveHail 1 = .ok (.istore_n 1, 1) := by decide +kernel
theorem dX1_haveHail_2 : decode cX1_haveHail 2 = .ok (.iload_n 1, 1) := by decide +kernel
theorem dX1_haveHail_3 : decode cX1_haveHail 3 = .ok (.aload_n 0, 1) := by decide +kernel
theorem dX1_haveHail_4 : decode cX1_haveHail 4 = .ok (.getfield 25, 3) := by decide +kernel
theorem dX1_haveHail_7 : decode cX1_haveHail 7 = .ok (.if_icmp .ge 29, 3) := by decide +kernel
theorem dX1_haveHail_10 : decode cX1_haveHail 10 = .ok (.aload_n 0, 1) := by decide +kernel
theorem dX1_haveHail_11 : decode cX1_haveHail 11 = .ok (.getfield 21, 3) := by decide +kernel
theorem dX1_haveHail_14 : decode cX1_haveHail 14 = .ok (.iload_n 1, 1) := by decide +kernel
theorem dX1_haveHail_15 : decode cX1_haveHail 15 = .ok (.baload, 1) := by decide +kernel
theorem dX1_haveHail_16 : decode cX1_haveHail 16 = .ok (.ifCond .ne 14, 3) := by decide +kernel
theorem dX1_haveHail_19 : decode cX1_haveHail 19 = .ok (.aload_n 0, 1) := by decide +kernel
theorem dX1_haveHail_20 : decode cX1_haveHail 20 = .ok (.getfield 18, 3) := by decide +kernel
theorem dX1_haveHail_23 : decode cX1_haveHail 23 = .ok (.iload_n 1, 1) := by decide +kernel
theorem dX1_haveHail_24 : decode cX1_haveHail 24 = .ok (.iaload, 1) := by decide +kernel
theorem dX1_haveHail_25 : decode cX1_haveHail 25 = .ok (.ifCond .le 5, 3) := by decide +kernel
theorem dX1_haveHail_28 : decode cX1_haveHail 28 = .ok (.iconst 1, 1) := by decide +kernel
theorem dX1_haveHail_29 : decode cX1_haveHail 29 = .ok (.ireturn, 1) := by decide +kernel
theorem dX1_haveHail_30 : decode cX1_haveHail 30 = .ok (.iinc 1 1, 3) := by decide +kernel
theorem dX1_haveHail_33 : decode cX1_haveHail 33 = .ok (.goto (-31), 3) := by decide +kernel
theorem dX1_haveHail_36 : decode cX1_haveHail 36 = .ok (.iconst 0, 1) := by decide +kernel
theorem dX1_haveHail_37 : decode cX1_haveHail 37 = .ok (.ireturn, 1) := by decide +kernel
theorem dX1_there_0 : decode cX1_there 0 = .ok (.iconst 0, 1) := by decide +kernel
theorem dX1_there_1 : decode cX1_there 1 = .ok (.istore_n 1, 1) := by decide +kernel
theorem dX1_there_2 : decode cX1_there 2 = .ok (.iconst 0, 1) := by decide +kernel
theorem dX1_there_3 : decode cX1_there 3 = .ok (.istore_n 2, 1) := by decide +kernel
theorem dX1_there_4 : decode cX1_there 4 = .ok (.iload_n 2, 1) := by decide +kernel
theorem dX1_there_5 : decode cX1_there 5 = .ok (.aload_n 0, 1) := by decide +kernel
theorem dX1_there_6 : decode cX1_there 6 = .ok (.getfield 25, 3) := by decide +kernel
theorem dX1_there_9 : decode cX1_there 9 = .ok (.if_icmp .ge 21, 3) := by decide +kernel
theorem dX1_there_12 : decode cX1_there 12 = .ok (.aload_n 0, 1) := by decide +kernel
theorem dX1_there_13 : decode cX1_there 13 = .ok (.getfield 21, 3) := by decide +kernel
theorem dX1_there_16 : decode cX1_there 16 = .ok (.iload_n 2, 1) := by decide +kernel
theorem dX1_there_17 : decode cX1_there 17 = .ok (.baload, 1) := by decide +kernel
theorem dX1_there_18 : decode cX1_there 18 = .ok (.ifCond .ne 6, 3) := by decide +kernel
theorem dX1_there_21 : decode cX1_there 21 = .ok (.iinc 1 1, 3) := by decide +kernel
theorem dX1_there_24 : decode cX1_there 24 = .ok (.iinc 2 1, 3) := by decide +kernel
theorem dX1_there_27 : decode cX1_there 27 = .ok (.goto (-23), 3) := by decide +kernel
theorem dX1_there_30 : decode cX1_there 30 = .ok (.iload_n 1, 1) := by decide +kernel
theorem dX1_there_31 : decode cX1_there 31 = .ok (.ireturn, 1) := by decide +kernel
theorem dX1_copyFrom_0 : decode cX1_copyFrom 0 = .ok (.aload_n 1, 1) := by decide +kernel
theorem dX1_copyFrom_1 : decode cX1_copyFrom 1 = .ok (.getfield 9, 3) := by decide +kernel
theorem dX1_copyFrom_4 : decode cX1_copyFrom 4 = .ok (.iconst 0, 1) := by decide +kernel
theorem dX1_copyFrom_5 : decode cX1_copyFrom 5 = .ok (.aload_n 0, 1) := by decide +kernel
theorem dX1_copyFrom_6 : decode cX1_copyFrom 6 = .ok (.getfield 9, 3) := by decide +kernel
theorem dX1_copyFrom_9 : decode cX1_copyFrom 9 = .ok (.iconst 0, 1) := by decide +kernel
theorem dX1_copyFrom_10 : decode cX1_copyFrom 10 = .ok (.bipush 20, 2) := by decide +kernel
theorem dX1_copyFrom_12 : decode cX1_copyFrom 12 = .ok (.invokestatic 52, 3) := by decide +kernel
theorem dX1_copyFrom_15 : decode cX1_copyFrom 15 = .ok (.aload_n 1, 1) := by decide +kernel
theorem dX1_copyFrom_16 : decode cX1_copyFrom 16 = .ok (.getfield 15, 3) := by decide +kernel
theorem dX1_copyFrom_19 : decode cX1_copyFrom 19 = .ok (.iconst 0, 1) := by decide +kernel
theorem dX1_copyFrom_20 : decode cX1_copyFrom 20 = .ok (.aload_n 0, 1) := by decide +kernel
theorem dX1_copyFrom_21 : decode cX1_copyFrom 21 = .ok (.getfield 15, 3) := by decide +kernel
theorem dX1_copyFrom_24 : decode cX1_copyFrom 24 = .ok (.iconst 0, 1) := by decide +kernel
theorem dX1_copyFrom_25 : decode cX1_copyFrom 25 = .ok (.bipush 20, 2) := by decide +kernel
theorem dX1_copyFrom_27 : decode cX1_copyFrom 27 = .ok (.invokestatic 52, 3) := by decide +kernel
theorem dX1_copyFrom_30 : decode cX1_copyFrom 30 = .ok (.aload_n 1, 1) := by decide +kernel
theorem dX1_copyFrom_31 : decode cX1_copyFrom 31 = .ok (.getfield 18, 3) := by decide +kernel
theorem dX1_copyFrom_34 : decode cX1_copyFrom 34 = .ok (.iconst 0, 1) := by decide +kernel
theorem dX1_copyFrom_35 : decode cX1_copyFrom 35 = .ok (.aload_n 0, 1) := by decide +kernel
theorem dX1_copyFrom_36 : decode cX1_copyFrom 36 = .ok (.getfield 18, 3) := by decide +kernel
theorem dX1_copyFrom_39 : decode cX1_copyFrom 39 = .ok (.iconst 0, 1) := by decide +kernel
theorem dX1_copyFrom_40 : decode cX1_copyFrom 40 = .ok (.bipush 20, 2) := by decide +kernel
theorem dX1_copyFrom_42 : decode cX1_copyFrom 42 = .ok (.invokestatic 52, 3) := by decide +kernel
theorem dX1_copyFrom_45 : decode cX1_copyFrom 45 = .ok (.aload_n 1, 1) := by decide +kernel
theorem dX1_copyFrom_46 : decode cX1_copyFrom 46 = .ok (.getfield 21, 3) := by decide +kernel
theorem dX1_copyFrom_49 : decode cX1_copyFrom 49 = .ok (.iconst 0, 1) := by decide +kernel
theorem dX1_copyFrom_50 : decode cX1_copyFrom 50 = .ok (.aload_n 0, 1) := by decide +kernel
theorem dX1_copyFrom_51 : decode cX1_copyFrom 51 = .ok (.getfield 21, 3) := by decide +kernel
theorem dX1_copyFrom_54 : decode cX1_copyFrom 54 = .ok (.iconst 0, 1) := by decide +kernel
theorem dX1_copyFrom_55 : decode cX1_copyFrom 55 = .ok (.bipush 20, 2) := by decide +kernel
theorem dX1_copyFrom_57 : decode cX1_copyFrom 57 = .ok (.invokestatic 52, 3) := by decide +kernel
theorem dX1_copyFrom_60 : decode cX1_copyFrom 60 = .ok (.aload_n 0, 1) := by decide +kernel
theorem dX1_copyFrom_61 : decode cX1_copyFrom 61 = .ok (.aload_n 1, 1) := by decide +kernel
theorem dX1_copyFrom_62 : decode cX1_copyFrom 62 = .ok (.getfield 25, 3) := by decide +kernel
theorem dX1_copyFrom_65 : decode cX1_copyFrom 65 = .ok (.putfield 25, 3) := by decide +kernel
theorem dX1_copyFrom_68 : decode cX1_copyFrom 68 = .ok (.return_, 1) := by decide +kernel
theorem dX2_init_0 : decode cX2_init 0 = .ok (.aload_n 0, 1) := by decide +kernel
theorem dX2_init_1 : decode cX2_init 1 = .ok (.invokespecial 3, 3) := by decide +kernel
theorem dX2_init_4 : decode cX2_init 4 = .ok (.aload_n 0, 1) := by decide +kernel
theorem dX2_init_5 : decode cX2_init 5 = .ok (.new 9, 3) := by decide +kernel
theorem dX2_init_8 : decode cX2_init 8 = .ok (.dup, 1) := by decide +kernel
theorem dX2_init_9 : decode cX2_init 9 = .ok (.invokespecial 11, 3) := by decide +kernel
theorem dX2_init_12 : decode cX2_init 12 = .ok (.putfield 12, 3) := by decide +kernel
theorem dX2_init_15 : decode cX2_init 15 = .ok (.aload_n 0, 1) := by decide +kernel
theorem dX2_init_16 : decode cX2_init 16 = .ok (.new 18, 3) := by decide +kernel
theorem dX2_init_19 : decode cX2_init 19 = .ok (.dup, 1) := by decide +kernel
theorem dX2_init_20 : decode cX2_init 20 = .ok (.invokespecial 20, 3) := by decide +kernel
theorem dX2_init_23 : decode cX2_init 23 = .ok (.putfield 21, 3) := by decide +kernel
theorem dX2_init_26 : decode cX2_init 26 = .ok (.aload_n 0, 1) := by decide +kernel
theorem dX2_init_27 : decode cX2_init 27 = .ok (.new 25, 3) := by decide +kernel
theorem dX2_init_30 : decode cX2_init 30 = .ok (.dup, 1) := by decide +kernel
theorem dX2_init_31 : decode cX2_init 31 = .ok (.invokespecial 27, 3) := by decide +kernel
theorem dX2_init_34 : decode cX2_init 34 = .ok (.putfield 28, 3) := by decide +kernel
theorem dX2_init_37 : decode cX2_init 37 = .ok (.aload_n 0, 1) := by decide +kernel
theorem dX2_init_38 : decode cX2_init 38 = .ok (.bipush 6, 2) := by decide +kernel
theorem dX2_init_40 : decode cX2_init 40 = .ok (.newarray .int, 2) := by decide +kernel
theorem dX2_init_42 : decode cX2_init 42 = .ok (.putfield 32, 3) := by decide +kernel
theorem dX2_init_45 : decode cX2_init 45 = .ok (.aload_n 0, 1) := by decide +kernel
theorem dX2_init_46 : decode cX2_init 46 = .ok (.iconst 0, 1) := by decide +kernel
theorem dX2_init_47 : decode cX2_init 47 = .ok (.putfield 36, 3) := by decide +kernel
theorem dX2_init_50 : decode cX2_init 50 = .ok (.aload_n 0, 1) := by decide +kernel
theorem dX2_init_51 : decode cX2_init 51 = .ok (.bipush 50, 2) := by decide +kernel
theorem dX2_init_53 : decode cX2_init 53 = .ok (.putfield 40, 3) := by decide +kernel
theorem dX2_init_56 : decode cX2_init 56 = .ok (.return_, 1) := by decide +kernel
theorem dX2_copyFrom_0 : decode cX2_copyFrom 0 = .ok (.aload_n 0, 1) := by decide +kernel
theorem dX2_copyFrom_1 : decode cX2_copyFrom 1 = .ok (.getfield 12, 3) := by decide +kernel
theorem dX2_copyFrom_4 : decode cX2_copyFrom 4 = .ok (.aload_n 1, 1) := by decide +kernel
theorem dX2_copyFrom_5 : decode cX2_copyFrom 5 = .ok (.getfield 12, 3) := by decide +kernel
theorem dX2_copyFrom_8 : decode cX2_copyFrom 8 = .ok (.invokevirtual 43, 3) := by decide +kernel
theorem dX2_copyFrom_11 : decode cX2_copyFrom 11 = .ok (.aload_n 0, 1) := by decide +kernel
theorem dX2_copyFrom_12 : decode cX2_copyFrom 12 = .ok (.getfield 21, 3) := by decide +kernel
theorem dX2_copyFrom_15 : decode cX2_copyFrom 15 = .ok (.aload_n 1, 1) := by decide +kernel
theorem dX2_copyFrom_16 : decode cX2_copyFrom 16 = .ok (.getfield 21, 3) := by decide +kernel
theorem dX2_copyFrom_19 : decode cX2_copyFrom 19 = .ok (.invokevirtual 47, 3) := by decide +kernel
theorem dX2_copyFrom_22 : decode cX2_copyFrom 22 = .ok (.aload_n 0, 1) := by decide +kernel
theorem dX2_copyFrom_23 : decode cX2_copyFrom 23 = .ok (.getfield 28, 3) := by decide +kernel
theorem dX2_copyFrom_26 : decode cX2_copyFrom 26 = .ok (.aload_n 1, 1) := by decide +kernel
theorem dX2_copyFrom_27 : decode cX2_copyFrom 27 = .ok (.getfield 28, 3) := by decide +kernel
theorem dX2_copyFrom_30 : decode cX2_copyFrom 30 = .ok (.invokevirtual 50, 3) := by decide +kernel
theorem dX2_copyFrom_33 : decode cX2_copyFrom 33 = .ok (.aload_n 1, 1) := by decide +kernel
theorem dX2_copyFrom_34 : decode cX2_copyFrom 34 = .ok (.getfield 32, 3) := by decide +kernel
theorem dX2_copyFrom_37 : decode cX2_copyFrom 37 = .ok (.iconst 0, 1) := by decide +kernel
theorem dX2_copyFrom_38 : decode cX2_copyFrom 38 = .ok (.aload_n 0, 1) := by decide +kernel
theorem dX2_copyFrom_39 : decode cX2_copyFrom 39 = .ok (.getfield 32, 3) := by decide +kernel
theorem dX2_copyFrom_42 : decode cX2_copyFrom 42 = .ok (.iconst 0, 1) := by decide +kernel
theorem dX2_copyFrom_43 : decode cX2_copyFrom 43 = .ok (.bipush 6, 2) := by decide +kernel
theorem dX2_copyFrom_45 : decode cX2_copyFrom 45 = .ok (.invokestatic 53, 3) := by decide +kernel
theorem dX2_copyFrom_48 : decode cX2_copyFrom 48 = .ok (.aload_n 0, 1) := by decide +kernel
theorem dX2_copyFrom_49 : decode cX2_copyFrom 49 = .ok (.aload_n 1, 1) := by decide +kernel
theorem dX2_copyFrom_50 : decode cX2_copyFrom 50 = .ok (.getfield 36, 3) := by decide +kernel
theorem dX2_copyFrom_53 : decode cX2_copyFrom 53 = .ok (.putfield 36, 3) := by decide +kernel
theorem dX2_copyFrom_56 : decode cX2_copyFrom 56 = .ok (.aload_n 0, 1) := by decide +kernel
theorem dX2_copyFrom_57 : decode cX2_copyFrom 57 = .ok (.aload_n 1, 1) := by decide +kernel
theorem dX2_copyFrom_58 : decode cX2_copyFrom 58 = .ok (.getfield 40, 3) := by decide +kernel
theorem dX2_copyFrom_61 : decode cX2_copyFrom 61 = .ok (.putfield 40, 3) := by decide +kernel
theorem dX2_copyFrom_64 : decode cX2_copyFrom 64 = .ok (.return_, 1) := by decide +kernel
theorem dX2_goBy_0 : decode cX2_goBy 0 = .ok (.iconst 0, 1) := by decide +kernel
theorem dX2_goBy_1 : decode cX2_goBy 1 = .ok (.istore_n 2, 1) := by decide +kernel
theorem dX2_goBy_2 : decode cX2_goBy 2 = .ok (.iload_n 2, 1) := by decide +kernel
theorem dX2_goBy_3 : decode cX2_goBy 3 = .ok (.iload_n 1, 1) := by decide +kernel
theorem dX2_goBy_4 : decode cX2_goBy 4 = .ok (.if_icmp .ge 13, 3) := by decide +kernel
theorem dX2_goBy_7 : decode cX2_goBy 7 = .ok (.aload_n 0, 1) := by decide +kernel
theorem dX2_goBy_8 : decode cX2_goBy 8 = .ok (.invokevirtual 59, 3) := by decide +kernel
theorem dX2_goBy_11 : decode cX2_goBy 11 = .ok (.iinc 2 1, 3) := by decide +kernel
theorem dX2_goBy_14 : decode cX2_goBy 14 = .ok (.goto (-12), 3) := by decide +kernel
theorem dX2_goBy_17 : decode cX2_goBy 17 = .ok (.return_, 1) := by decide +kernel
theorem dX2_goByOneHour_0 : decode cX2_goByOneHour 0 = .ok (.aload_n 0, 1) := by decide +kernel
theorem dX2_goByOneHour_1 : decode cX2_goByOneHour 1 = .ok (.getfield 28, 3) := by decide +kernel
theorem dX2_goByOneHour_4 : decode cX2_goByOneHour 4 = .ok (.aload_n 0, 1) := by decide +kernel
theorem dX2_goByOneHour_5 : decode cX2_goByOneHour 5 = .ok (.getfield 32, 3) := by decide +kernel
theorem dX2_goByOneHour_8 : decode cX2_goByOneHour 8 = .ok (.aload_n 0, 1) := by decide +kernel
theorem dX2_goByOneHour_9 : decode cX2_goByOneHour 9 = .ok (.getfield 36, 3) := by decide +kernel
theorem dX2_goByOneHour_12 : decode cX2_goByOneHour 12 = .ok (.bipush 6, 2) := by decide +kernel
theorem dX2_goByOneHour_14 : decode cX2_goByOneHour 14 = .ok (.invokestatic 62, 3) := by decide +kernel
theorem dX2_goByOneHour_17 : decode cX2_goByOneHour 17 = .ok (.iaload, 1) := by decide +kernel
theorem dX2_goByOneHour_18 : decode cX2_goByOneHour 18 = .ok (.invokevirtual 68, 3) := by decide +kernel
theorem dX2_goByOneHour_21 : decode cX2_goByOneHour 21 = .ok (.aload_n 0, 1) := by decide +kernel
theorem dX2_goByOneHour_22 : decode cX2_goByOneHour 22 = .ok (.getfield 21, 3) := by decide +kernel
theorem dX2_goByOneHour_25 : decode cX2_goByOneHour 25 = .ok (.aload_n 0, 1) := by decide +kernel
theorem dX2_goByOneHour_26 : decode cX2_goByOneHour 26 = .ok (.getfield 28, 3) := by decide +kernel
theorem dX2_goByOneHour_29 : decode cX2_goByOneHour 29 = .ok (.aload_n 0, 1) := by decide +kernel
theorem dX2_goByOneHour_30 : decode cX2_goByOneHour 30 = .ok (.getfield 12, 3) := by decide +kernel
theorem dX2_goByOneHour_33 : decode cX2_goByOneHour 33 = .ok (.invokevirtual 72, 3) := by decide +kernel
theorem dX2_goByOneHour_36 : decode cX2_goByOneHour 36 = .ok (.aload_n 0, 1) := by decide +kernel
theorem dX2_goByOneHour_37 : decode cX2_goByOneHour 37 = .ok (.getfield 28, 3) := by decide +kernel
theorem dX2_goByOneHour_40 : decode cX2_goByOneHour 40 = .ok (.aload_n 0, 1) := by decide +kernel
theorem dX2_goByOneHour_41 : decode cX2_goByOneHour 41 = .ok (.getfield 12, 3) := by decide +kernel
theorem dX2_goByOneHour_44 : decode cX2_goByOneHour 44 = .ok (.invokevirtual 76, 3) := by decide +kernel
theorem dX2_goByOneHour_47 : decode cX2_goByOneHour 47 = .ok (.aload_n 0, 1) := by decide +kernel
theorem dX2_goByOneHour_48 : decode cX2_goByOneHour 48 = .ok (.getfield 36, 3) := by decide +kernel
theorem dX2_goByOneHour_51 : decode cX2_goByOneHour 51 = .ok (.bipush 24, 2) := by decide +kernel
theorem dX2_goByOneHour_53 : decode cX2_goByOneHour 53 = .ok (.irem, 1) := by decide +kernel
theorem dX2_goByOneHour_54 : decode cX2_goByOneHour 54 = .ok (.bipush 23, 2) := by decide +kernel
theorem dX2_goByOneHour_56 : decode cX2_goByOneHour 56 = .ok (.if_icmp .ne 19, 3) := by decide +kernel
theorem dX2_goByOneHour_59 : decode cX2_goByOneHour 59 = .ok (.aload_n 0, 1) := by decide +kernel
theorem dX2_goByOneHour_60 : decode cX2_goByOneHour 60 = .ok (.dup, 1) := by decide +kernel
theorem dX2_goByOneHour_61 : decode cX2_goByOneHour 61 = .ok (.getfield 40, 3) := by decide +kernel
theorem dX2_goByOneHour_64 : decode cX2_goByOneHour 64 = .ok (.aload_n 0, 1) := by decide +kernel
theorem dX2_goByOneHour_65 : decode cX2_goByOneHour 65 = .ok (.getfield 12, 3) := by decide +kernel
theorem dX2_goByOneHour_68 : decode cX2_goByOneHour 68 = .ok (.invokevirtual 79, 3) := by decide +kernel
theorem dX2_goByOneHour_71 : decode cX2_goByOneHour 71 = .ok (.iadd, 1) := by decide +kernel
theorem dX2_goByOneHour_72 : decode cX2_goByOneHour 72 = .ok (.putfield 40, 3) := by decide +kernel
theorem dX2_goByOneHour_75 : decode cX2_goByOneHour 75 = .ok (.aload_n 0, 1) := by decide +kernel
theorem dX2_goByOneHour_76 : decode cX2_goByOneHour 76 = .ok (.dup, 1) := by decide +kernel
theorem dX2_goByOneHour_77 : decode cX2_goByOneHour 77 = .ok (.getfield 36, 3) := by decide +kernel
theorem dX2_goByOneHour_80 : decode cX2_goByOneHour 80 = .ok (.iconst 1, 1) := by decide +kernel
theorem dX2_goByOneHour_81 : decode cX2_goByOneHour 81 = .ok (.iadd, 1) := by decide +kernel
theorem dX2_goByOneHour_82 : decode cX2_goByOneHour 82 = .ok (.putfield 36, 3) := by decide +kernel
theorem dX2_goByOneHour_85 : decode cX2_goByOneHour 85 = .ok (.return_, 1) := by decide +kernel
theorem dX2_total_0 : decode cX2_total 0 = .ok (.iload_n 1, 1) := by decide +kernel
theorem dX2_total_1 : decode cX2_total 1 = .ok (.tableswitch 117 0 8 #[51, 56, 64, 69, 77, 85, 93, 101, 109], 51) := by decide +kernel
theorem dX2_total_52 : decode cX2_total 52 = .ok (.aload_n 0, 1) := by decide +kernel
theorem dX2_total_53 : decode cX2_total 53 = .ok (.getfield 36, 3) := by decide +kernel
theorem dX2_total_56 : decode cX2_total 56 = .ok (.ireturn, 1) := by decide +kernel
theorem dX2_total_57 : decode cX2_total 57 = .ok (.aload_n 0, 1) := by decide +kernel
theorem dX2_total_58 : decode cX2_total 58 = .ok (.getfield 36, 3) := by decide +kernel
theorem dX2_total_61 : decode cX2_total 61 = .ok (.bipush 24, 2) := by decide +kernel
theorem dX2_total_63 : decode cX2_total 63 = .ok (.irem, 1) := by decide +kernel
theorem dX2_total_64 : decode cX2_total 64 = .ok (.ireturn, 1) := by decide +kernel
theorem dX2_total_65 : decode cX2_total 65 = .ok (.aload_n 0, 1) := by decide +kernel
theorem dX2_total_66 : decode cX2_total 66 = .ok (.getfield 40, 3) := by decide +kernel
theorem dX2_total_69 : decode cX2_total 69 = .ok (.ireturn, 1) := by decide +kernel
theorem dX2_total_70 : decode cX2_total 70 = .ok (.aload_n 0, 1) := by decide +kernel
theorem dX2_total_71 : decode cX2_total 71 = .ok (.getfield 12, 3) := by decide +kernel
theorem dX2_total_74 : decode cX2_total 74 = .ok (.invokevirtual 83, 3) := by decide +kernel
theorem dX2_total_77 : decode cX2_total 77 = .ok (.ireturn, 1) := by decide +kernel
theorem dX2_total_78 : decode cX2_total 78 = .ok (.aload_n 0, 1) := by decide +kernel
theorem dX2_total_79 : decode cX2_total 79 = .ok (.getfield 12, 3) := by decide +kernel
theorem dX2_total_82 : decode cX2_total 82 = .ok (.invokevirtual 86, 3) := by decide +kernel
theorem dX2_total_85 : decode cX2_total 85 = .ok (.ireturn, 1) := by decide +kernel
theorem dX2_total_86 : decode cX2_total 86 = .ok (.aload_n 0, 1) := by decide +kernel
theorem dX2_total_87 : decode cX2_total 87 = .ok (.getfield 12, 3) := by decide +kernel
theorem dX2_total_90 : decode cX2_total 90 = .ok (.invokevirtual 89, 3) := by decide +kernel
theorem dX2_total_93 : decode cX2_total 93 = .ok (.ireturn, 1) := by decide +kernel
theorem dX2_total_94 : decode cX2_total 94 = .ok (.aload_n 0, 1) := by decide +kernel
theorem dX2_total_95 : decode cX2_total 95 = .ok (.getfield 12, 3) := by decide +kernel
theorem dX2_total_98 : decode cX2_total 98 = .ok (.invokevirtual 92, 3) := by decide +kernel
theorem dX2_total_101 : decode cX2_total 101 = .ok (.ireturn, 1) := by decide +kernel
theorem dX2_total_102 : decode cX2_total 102 = .ok (.aload_n 0, 1) := by decide +kernel
theorem dX2_total_103 : decode cX2_total 103 = .ok (.getfield 12, 3) := by decide +kernel
theorem dX2_total_106 : decode cX2_total 106 = .ok (.invokevirtual 95, 3) := by decide +kernel
theorem dX2_total_109 : decode cX2_total 109 = .ok (.ireturn, 1) := by decide +kernel
theorem dX2_total_110 : decode cX2_total 110 = .ok (.aload_n 0, 1) := by decide +kernel
theorem dX2_total_111 : decode cX2_total 111 = .ok (.getfield 28, 3) := by decide +kernel
theorem dX2_total_114 : decode cX2_total 114 = .ok (.invokevirtual 98, 3) := by decide +kernel
theorem dX2_total_117 : decode cX2_total 117 = .ok (.ireturn, 1) := by decide +kernel
theorem dX2_total_118 : decode cX2_total 118 = .ok (.aload_n 0, 1) := by decide +kernel
theorem dX2_total_119 : decode cX2_total 119 = .ok (.getfield 21, 3) := by decide +kernel
theorem dX2_total_122 : decode cX2_total 122 = .ok (.invokevirtual 101, 3) := by decide +kernel
theorem dX2_total_125 : decode cX2_total 125 = .ok (.ireturn, 1) := by decide +kernel
theorem dX3_init_0 : decode cX3_init 0 = .ok (.aload_n 0, 1) := by decide +kernel
theorem dX3_init_1 : decode cX3_init 1 = .ok (.invokespecial 3, 3) := by decide +kernel
theorem dX3_init_4 : decode cX3_init 4 = .ok (.aload_n 0, 1) := by decide +kernel
theorem dX3_init_5 : decode cX3_init 5 = .ok (.bipush 10, 2) := by decide +kernel
theorem dX3_init_7 : decode cX3_init 7 = .ok (.newarray .int, 2) := by decide +kernel
theorem dX3_init_9 : decode cX3_init 9 = .ok (.putfield 9, 3) := by decide +kernel
theorem dX3_init_12 : decode cX3_init 12 = .ok (.aload_n 0, 1) := by decide +kernel
theorem dX3_init_13 : decode cX3_init 13 = .ok (.bipush 10, 2) := by decide +kernel
theorem dX3_init_15 : decode cX3_init 15 = .ok (.newarray .int, 2) := by decide +kernel
theorem dX3_init_17 : decode cX3_init 17 = .ok (.putfield 15, 3) := by decide +kernel
theorem dX3_init_20 : decode cX3_init 20 = .ok (.aload_n 0, 1) := by decide +kernel
theorem dX3_init_21 : decode cX3_init 21 = .ok (.bipush 10, 2) := by decide +kernel
theorem dX3_init_23 : decode cX3_init 23 = .ok (.newarray .boolean, 2) := by decide +kernel
theorem dX3_init_25 : decode cX3_init 25 = .ok (.putfield 18, 3) := by decide +kernel
theorem dX3_init_28 : decode cX3_init 28 = .ok (.aload_n 0, 1) := by decide +kernel
theorem dX3_init_29 : decode cX3_init 29 = .ok (.bipush 10, 2) := by decide +kernel
theorem dX3_init_31 : decode cX3_init 31 = .ok (.newarray .boolean, 2) := by decide +kernel
theorem dX3_init_33 : decode cX3_init 33 = .ok (.putfield 22, 3) := by decide +kernel
theorem dX3_init_36 : decode cX3_init 36 = .ok (.aload_n 0, 1) := by decide +kernel
theorem dX3_init_37 : decode cX3_init 37 = .ok (.bipush 10, 2) := by decide +kernel
theorem dX3_init_39 : decode cX3_init 39 = .ok (.newarray .int, 2) := by decide +kernel
theorem dX3_init_41 : decode cX3_init 41 = .ok (.putfield 25, 3) := by decide +kernel
theorem dX3_init_44 : decode cX3_init 44 = .ok (.aload_n 0, 1) := by decide +kernel
theorem dX3_init_45 : decode cX3_init 45 = .ok (.bipush 10, 2) := by decide +kernel
theorem dX3_init_47 : decode cX3_init 47 = .ok (.newarray .int, 2) := by decide +kernel
theorem dX3_init_49 : decode cX3_init 49 = .ok (.putfield 28, 3) := by decide +kernel
theorem dX3_init_52 : decode cX3_init 52 = .ok (.aload_n 0, 1) := by decide +kernel
theorem dX3_init_53 : decode cX3_init 53 = .ok (.bipush 10, 2) := by decide +kernel
theorem dX3_init_55 : decode cX3_init 55 = .ok (.newarray .int, 2) := by decide +kernel
theorem dX3_init_57 : decode cX3_init 57 = .ok (.putfield 31, 3) := by decide +kernel
theorem dX3_init_60 : decode cX3_init 60 = .ok (.aload_n 0, 1) := by decide +kernel
theorem dX3_init_61 : decode cX3_init 61 = .ok (.iconst 0, 1) := by decide +kernel
theorem dX3_init_62 : decode cX3_init 62 = .ok (.putfield 34, 3) := by decide +kernel
theorem dX3_init_65 : decode cX3_init 65 = .ok (.return_, 1) := by decide +kernel
theorem dX3_add_0 : decode cX3_add 0 = .ok (.aload_n 0, 1) := by decide +kernel
theorem dX3_add_1 : decode cX3_add 1 = .ok (.getfield 34, 3) := by decide +kernel
theorem dX3_add_4 : decode cX3_add 4 = .ok (.istore 5, 2) := by decide +kernel
theorem dX3_add_6 : decode cX3_add 6 = .ok (.aload_n 0, 1) := by decide +kernel
theorem dX3_add_7 : decode cX3_add 7 = .ok (.getfield 9, 3) := by decide +kernel
theorem dX3_add_10 : decode cX3_add 10 = .ok (.iload 5, 2) := by decide +kernel
theorem dX3_add_12 : decode cX3_add 12 = .ok (.iload_n 1, 1) := by decide +kernel
theorem dX3_add_13 : decode cX3_add 13 = .ok (.iastore, 1) := by decide +kernel
theorem dX3_add_14 : decode cX3_add 14 = .ok (.aload_n 0, 1) := by decide +kernel
theorem dX3_add_15 : decode cX3_add 15 = .ok (.getfield 15, 3) := by decide +kernel
theorem dX3_add_18 : decode cX3_add 18 = .ok (.iload 5, 2) := by decide +kernel
theorem dX3_add_20 : decode cX3_add 20 = .ok (.iload_n 2, 1) := by decide +kernel
theorem dX3_add_21 : decode cX3_add 21 = .ok (.iastore, 1) := by decide +kernel
theorem dX3_add_22 : decode cX3_add 22 = .ok (.aload_n 0, 1) := by decide +kernel
theorem dX3_add_23 : decode cX3_add 23 = .ok (.getfield 18, 3) := by decide +kernel
theorem dX3_add_26 : decode cX3_add 26 = .ok (.iload 5, 2) := by decide +kernel
theorem dX3_add_28 : decode cX3_add 28 = .ok (.iload_n 3, 1) := by decide +kernel
theorem dX3_add_29 : decode cX3_add 29 = .ok (.bastore, 1) := by decide +kernel
theorem dX3_add_30 : decode cX3_add 30 = .ok (.aload_n 0, 1) := by decide +kernel
theorem dX3_add_31 : decode cX3_add 31 = .ok (.getfield 22, 3) := by decide +kernel
theorem dX3_add_34 : decode cX3_add 34 = .ok (.iload 5, 2) := by decide +kernel
theorem dX3_add_36 : decode cX3_add 36 = .ok (.iload 4, 2) := by decide +kernel
theorem dX3_add_38 : decode cX3_add 38 = .ok (.bastore, 1) := by decide +kernel
theorem dX3_add_39 : decode cX3_add 39 = .ok (.aload_n 0, 1) := by decide +kernel
theorem dX3_add_40 : decode cX3_add 40 = .ok (.dup, 1) := by decide +kernel
theorem dX3_add_41 : decode cX3_add 41 = .ok (.getfield 34, 3) := by decide +kernel
theorem dX3_add_44 : decode cX3_add 44 = .ok (.iconst 1, 1) := by decide +kernel
theorem dX3_add_45 : decode cX3_add 45 = .ok (.iadd, 1) := by decide +kernel
theorem dX3_add_46 : decode cX3_add 46 = .ok (.putfield 34, 3) := by decide +kernel
theorem dX3_add_49 : decode cX3_add 49 = .ok (.iload 5, 2) := by decide +kernel
theorem dX3_add_51 : decode cX3_add 51 = .ok (.ireturn, 1) := by decide +kernel
theorem dX3_enrol_0 : decode cX3_enrol 0 = .ok (.aload_n 0, 1) := by decide +kernel
theorem dX3_enrol_1 : decode cX3_enrol 1 = .ok (.getfield 18, 3) := by decide +kernel
theorem dX3_enrol_4 : decode cX3_enrol 4 = .ok (.iload_n 1, 1) := by decide +kernel
theorem dX3_enrol_5 : decode cX3_enrol 5 = .ok (.baload, 1) := by decide +kernel
theorem dX3_enrol_6 : decode cX3_enrol 6 = .ok (.ifCond .eq 7, 3) := by decide +kernel
theorem dX3_enrol_9 : decode cX3_enrol 9 = .ok (.iconst 1, 1) := by decide +kernel
theorem dX3_enrol_10 : decode cX3_enrol 10 = .ok (.goto 4, 3) := by decide +kernel
theorem dX3_enrol_13 : decode cX3_enrol 13 = .ok (.iconst 0, 1) := by decide +kernel
theorem dX3_enrol_14 : decode cX3_enrol 14 = .ok (.aload_n 0, 1) := by decide +kernel
theorem dX3_enrol_15 : decode cX3_enrol 15 = .ok (.getfield 22, 3) := by decide +kernel
theorem dX3_enrol_18 : decode cX3_enrol 18 = .ok (.iload_n 1, 1) := by decide +kernel
theorem dX3_enrol_19 : decode cX3_enrol 19 = .ok (.baload, 1) := by decide +kernel
theorem dX3_enrol_20 : decode cX3_enrol 20 = .ok (.ifCond .eq 7, 3) := by decide +kernel
theorem dX3_enrol_23 : decode cX3_enrol 23 = .ok (.iconst 2, 1) := by decide +kernel
theorem dX3_enrol_24 : decode cX3_enrol 24 = .ok (.goto 4, 3) := by decide +kernel
theorem dX3_enrol_27 : decode cX3_enrol 27 = .ok (.iconst 0, 1) := by decide +kernel
theorem dX3_enrol_28 : decode cX3_enrol 28 = .ok (.iadd, 1) := by decide +kernel
theorem dX3_enrol_29 : decode cX3_enrol 29 = .ok (.istore 4, 2) := by decide +kernel
theorem dX3_enrol_31 : decode cX3_enrol 31 = .ok (.aload_n 0, 1) := by decide +kernel
theorem dX3_enrol_32 : decode cX3_enrol 32 = .ok (.getfield 18, 3) := by decide +kernel
theorem dX3_enrol_35 : decode cX3_enrol 35 = .ok (.iload_n 1, 1) := by decide +kernel
theorem dX3_enrol_36 : decode cX3_enrol 36 = .ok (.iload_n 2, 1) := by decide +kernel
theorem dX3_enrol_37 : decode cX3_enrol 37 = .ok (.bastore, 1) := by decide +kernel
theorem dX3_enrol_38 : decode cX3_enrol 38 = .ok (.aload_n 0, 1) := by decide +kernel
theorem dX3_enrol_39 : decode cX3_enrol 39 = .ok (.getfield 22, 3) := by decide +kernel
theorem dX3_enrol_42 : decode cX3_enrol 42 = .ok (.iload_n 1, 1) := by decide +kernel
theorem dX3_enrol_43 : decode cX3_enrol 43 = .ok (.iload_n 3, 1) := by decide +kernel
theorem dX3_enrol_44 : decode cX3_enrol 44 = .ok (.bastore, 1) := by decide +kernel
theorem dX3_enrol_45 : decode cX3_enrol 45 = .ok (.iload 4, 2) := by decide +kernel
theorem dX3_enrol_47 : decode cX3_enrol 47 = .ok (.ireturn, 1) := by decide +kernel
theorem dX3_fact_0 : decode cX3_fact 0 = .ok (.iload_n 2, 1) := by decide +kernel
theorem dX3_fact_1 : decode cX3_fact 1 = .ok (.tableswitch 97 0 5 #[39, 46, 53, 68, 83, 90], 39) := by decide +kernel
theorem dX3_fact_40 : decode cX3_fact 40 = .ok (.aload_n 0, 1) := by decide +kernel
theorem dX3_fact_41 : decode cX3_fact 41 = .ok (.getfield 9, 3) := by decide +kernel
theorem dX3_fact_44 : decode cX3_fact 44 = .ok (.iload_n 1, 1) := by decide +kernel
theorem dX3_fact_45 : decode cX3_fact 45 = .ok (.iaload, 1) := by decide +kernel
theorem dX3_fact_46 : decode cX3_fact 46 = .ok (.ireturn, 1) := by decide +kernel
theorem dX3_fact_47 : decode cX3_fact 47 = .ok (.aload_n 0, 1) := by decide +kernel
theorem dX3_fact_48 : decode cX3_fact 48 = .ok (.getfield 15, 3) := by decide +kernel
theorem dX3_fact_51 : decode cX3_fact 51 = .ok (.iload_n 1, 1) := by decide +kernel
theorem dX3_fact_52 : decode cX3_fact 52 = .ok (.iaload, 1) := by decide +kernel
theorem dX3_fact_53 : decode cX3_fact 53 = .ok (.ireturn, 1) := by decide +kernel
theorem dX3_fact_54 : decode cX3_fact 54 = .ok (.aload_n 0, 1) := by decide +kernel
theorem dX3_fact_55 : decode cX3_fact 55 = .ok (.getfield 18, 3) := by decide +kernel
theorem dX3_fact_58 : decode cX3_fact 58 = .ok (.iload_n 1, 1) := by decide +kernel
theorem dX3_fact_59 : decode cX3_fact 59 = .ok (.baload, 1) := by decide +kernel
theorem dX3_fact_60 : decode cX3_fact 60 = .ok (.ifCond .eq 7, 3) := by decide +kernel
theorem dX3_fact_63 : decode cX3_fact 63 = .ok (.iconst 1, 1) := by decide +kernel
theorem dX3_fact_64 : decode cX3_fact 64 = .ok (.goto 4, 3) := by decide +kernel
theorem dX3_fact_67 : decode cX3_fact 67 = .ok (.iconst 0, 1) := by decide +kernel
theorem dX3_fact_68 : decode cX3_fact 68 = .ok (.ireturn, 1) := by decide +kernel
theorem dX3_fact_69 : decode cX3_fact 69 = .ok (.aload_n 0, 1) := by decide +kernel
theorem dX3_fact_70 : decode cX3_fact 70 = .ok (.getfield 22, 3) := by decide +kernel
theorem dX3_fact_73 : decode cX3_fact 73 = .ok (.iload_n 1, 1) := by decide +kernel
theorem dX3_fact_74 : decode cX3_fact 74 = .ok (.baload, 1) := by decide +kernel
theorem dX3_fact_75 : decode cX3_fact 75 = .ok (.ifCond .eq 7, 3) := by decide +kernel
theorem dX3_fact_78 : decode cX3_fact 78 = .ok (.iconst 1, 1) := by decide +kernel
theorem dX3_fact_79 : decode cX3_fact 79 = .ok (.goto 4, 3) := by decide +kernel
theorem dX3_fact_82 : decode cX3_fact 82 = .ok (.iconst 0, 1) := by decide +kernel
theorem dX3_fact_83 : decode cX3_fact 83 = .ok (.ireturn, 1) := by decide +kernel
theorem dX3_fact_84 : decode cX3_fact 84 = .ok (.aload_n 0, 1) := by decide +kernel
theorem dX3_fact_85 : decode cX3_fact 85 = .ok (.getfield 25, 3) := by decide +kernel
theorem dX3_fact_88 : decode cX3_fact 88 = .ok (.iload_n 1, 1) := by decide +kernel
theorem dX3_fact_89 : decode cX3_fact 89 = .ok (.iaload, 1) := by decide +kernel
theorem dX3_fact_90 : decode cX3_fact 90 = .ok (.ireturn, 1) := by decide +kernel
theorem dX3_fact_91 : decode cX3_fact 91 = .ok (.aload_n 0, 1) := by decide +kernel
theorem dX3_fact_92 : decode cX3_fact 92 = .ok (.getfield 28, 3) := by decide +kernel
theorem dX3_fact_95 : decode cX3_fact 95 = .ok (.iload_n 1, 1) := by decide +kernel
theorem dX3_fact_96 : decode cX3_fact 96 = .ok (.iaload, 1) := by decide +kernel
theorem dX3_fact_97 : decode cX3_fact 97 = .ok (.ireturn, 1) := by decide +kernel
theorem dX3_fact_98 : decode cX3_fact 98 = .ok (.aload_n 0, 1) := by decide +kernel
theorem dX3_fact_99 : decode cX3_fact 99 = .ok (.getfield 31, 3) := by decide +kernel
theorem dX3_fact_102 : decode cX3_fact 102 = .ok (.iload_n 1, 1) := by decide +kernel
theorem dX3_fact_103 : decode cX3_fact 103 = .ok (.iaload, 1) := by decide +kernel
theorem dX3_fact_104 : decode cX3_fact 104 = .ok (.ireturn, 1) := by decide +kernel
theorem dX3_hearShot_0 : decode cX3_hearShot 0 = .ok (.iconst 0, 1) := by decide +kernel
theorem dX3_hearShot_1 : decode cX3_hearShot 1 = .ok (.istore_n 2, 1) := by decide +kernel
theorem dX3_hearShot_2 : decode cX3_hearShot 2 = .ok (.iload_n 2, 1) := by decide +kernel
theorem dX3_hearShot_3 : decode cX3_hearShot 3 = .ok (.aload_n 0, 1) := by decide +kernel
theorem dX3_hearShot_4 : decode cX3_hearShot 4 = .ok (.getfield 34, 3) := by decide +kernel
theorem dX3_hearShot_7 : decode cX3_hearShot 7 = .ok (.if_icmp .ge 43, 3) := by decide +kernel
theorem dX3_hearShot_10 : decode cX3_hearShot 10 = .ok (.aload_n 0, 1) := by decide +kernel
theorem dX3_hearShot_11 : decode cX3_hearShot 11 = .ok (.getfield 18, 3) := by decide +kernel
theorem dX3_hearShot_14 : decode cX3_hearShot 14 = .ok (.iload_n 2, 1) := by decide +kernel
theorem dX3_hearShot_15 : decode cX3_hearShot 15 = .ok (.baload, 1) := by decide +kernel
theorem dX3_hearShot_16 : decode cX3_hearShot 16 = .ok (.ifCond .ne 28, 3) := by decide +kernel
theorem dX3_hearShot_19 : decode cX3_hearShot 19 = .ok (.aload_n 0, 1) := by decide +kernel
theorem dX3_hearShot_20 : decode cX3_hearShot 20 = .ok (.getfield 9, 3) := by decide +kernel
theorem dX3_hearShot_23 : decode cX3_hearShot 23 = .ok (.iload_n 2, 1) := by decide +kernel
theorem dX3_hearShot_24 : decode cX3_hearShot 24 = .ok (.iaload, 1) := by decide +kernel
theorem dX3_hearShot_25 : decode cX3_hearShot 25 = .ok (.iload_n 1, 1) := by decide +kernel
theorem dX3_hearShot_26 : decode cX3_hearShot 26 = .ok (.isub, 1) := by decide +kernel
theorem dX3_hearShot_27 : decode cX3_hearShot 27 = .ok (.invokestatic 38, 3) := by decide +kernel
theorem dX3_hearShot_30 : decode cX3_hearShot 30 = .ok (.iconst 2, 1) := by decide +kernel
theorem dX3_hearShot_31 : decode cX3_hearShot 31 = .ok (.if_icmp .gt 13, 3) := by decide +kernel
theorem dX3_hearShot_34 : decode cX3_hearShot 34 = .ok (.aload_n 0, 1) := by decide +kernel
theorem dX3_hearShot_35 : decode cX3_hearShot 35 = .ok (.getfield 28, 3) := by decide +kernel
theorem dX3_hearShot_38 : decode cX3_hearShot 38 = .ok (.iload_n 2, 1) := by decide +kernel
theorem dX3_hearShot_39 : decode cX3_hearShot 39 = .ok (.dup2, 1) := by decide +kernel
theorem dX3_hearShot_40 : decode cX3_hearShot 40 = .ok (.iaload, 1) := by decide +kernel
theorem dX3_hearShot_41 : decode cX3_hearShot 41 = .ok (.iconst 1, 1) := by decide +kernel
theorem dX3_hearShot_42 : decode cX3_hearShot 42 = .ok (.iadd, 1) := by decide +kernel
theorem dX3_hearShot_43 : decode cX3_hearShot 43 = .ok (.iastore, 1) := by decide +kernel
theorem dX3_hearShot_44 : decode cX3_hearShot 44 = .ok (.iinc 2 1, 3) := by decide +kernel
theorem dX3_hearShot_47 : decode cX3_hearShot 47 = .ok (.goto (-45), 3) := by decide +kernel
theorem dX3_hearShot_50 : decode cX3_hearShot 50 = .ok (.return_, 1) := by decide +kernel
theorem dX3_takeHail_0 : decode cX3_takeHail 0 = .ok (.iconst 0, 1) := by decide +kernel
theorem dX3_takeHail_1 : decode cX3_takeHail 1 = .ok (.istore_n 3, 1) := by decide +kernel
theorem dX3_takeHail_2 : decode cX3_takeHail 2 = .ok (.iload_n 3, 1) := by decide +kernel
theorem dX3_takeHail_3 : decode cX3_takeHail 3 = .ok (.aload_n 0, 1) := by decide +kernel
theorem dX3_takeHail_4 : decode cX3_takeHail 4 = .ok (.getfield 34, 3) := by decide +kernel
theorem dX3_takeHail_7 : decode cX3_takeHail 7 = .ok (.if_icmp .ge 66, 3) := by decide +kernel
theorem dX3_takeHail_10 : decode cX3_takeHail 10 = .ok (.aload_n 0, 1) := by decide +kernel
theorem dX3_takeHail_11 : decode cX3_takeHail 11 = .ok (.getfield 9, 3) := by decide +kernel
theorem dX3_takeHail_14 : decode cX3_takeHail 14 = .ok (.iload_n 3, 1) := by decide +kernel
theorem dX3_takeHail_15 : decode cX3_takeHail 15 = .ok (.iaload, 1) := by decide +kernel
theorem dX3_takeHail_16 : decode cX3_takeHail 16 = .ok (.iload_n 1, 1) := by decide +kernel
theorem dX3_takeHail_17 : decode cX3_takeHail 17 = .ok (.if_icmp .ne 50, 3) := by decide +kernel
theorem dX3_takeHail_20 : decode cX3_takeHail 20 = .ok (.iconst 2, 1) := by decide +kernel
theorem dX3_takeHail_21 : decode cX3_takeHail 21 = .ok (.iload_n 2, 1) := by decide +kernel
theorem dX3_takeHail_22 : decode cX3_takeHail 22 = .ok (.imul, 1) := by decide +kernel
theorem dX3_takeHail_23 : decode cX3_takeHail 23 = .ok (.aload_n 0, 1) := by decide +kernel
theorem dX3_takeHail_24 : decode cX3_takeHail 24 = .ok (.getfield 15, 3) := by decide +kernel
theorem dX3_takeHail_27 : decode cX3_takeHail 27 = .ok (.iload_n 3, 1) := by decide +kernel
theorem dX3_takeHail_28 : decode cX3_takeHail 28 = .ok (.iaload, 1) := by decide +kernel
theorem dX3_takeHail_29 : decode cX3_takeHail 29 = .ok (.invokestatic 44, 3) := by decide +kernel
theorem dX3_takeHail_32 : decode cX3_takeHail 32 = .ok (.istore 4, 2) := by decide +kernel
theorem dX3_takeHail_34 : decode cX3_takeHail 34 = .ok (.aload_n 0, 1) := by decide +kernel
theorem dX3_takeHail_35 : decode cX3_takeHail 35 = .ok (.getfield 15, 3) := by decide +kernel
theorem dX3_takeHail_38 : decode cX3_takeHail 38 = .ok (.iload_n 3, 1) := by decide +kernel
theorem dX3_takeHail_39 : decode cX3_takeHail 39 = .ok (.dup2, 1) := by decide +kernel
theorem dX3_takeHail_40 : decode cX3_takeHail 40 = .ok (.iaload, 1) := by decide +kernel
theorem dX3_takeHail_41 : decode cX3_takeHail 41 = .ok (.iload 4, 2) := by decide +kernel
theorem dX3_takeHail_43 : decode cX3_takeHail 43 = .ok (.isub, 1) := by decide +kernel
theorem dX3_takeHail_44 : decode cX3_takeHail 44 = .ok (.iastore, 1) := by decide +kernel
theorem dX3_takeHail_45 : decode cX3_takeHail 45 = .ok (.aload_n 0, 1) := by decide +kernel
theorem dX3_takeHail_46 : decode cX3_takeHail 46 = .ok (.getfield 25, 3) := by decide +kernel
theorem dX3_takeHail_49 : decode cX3_takeHail 49 = .ok (.iload_n 3, 1) := by decide +kernel
theorem dX3_takeHail_50 : decode cX3_takeHail 50 = .ok (.dup2, 1) := by decide +kernel
theorem dX3_takeHail_51 : decode cX3_takeHail 51 = .ok (.iaload, 1) := by decide +kernel
theorem dX3_takeHail_52 : decode cX3_takeHail 52 = .ok (.iload 4, 2) := by decide +kernel
theorem dX3_takeHail_54 : decode cX3_takeHail 54 = .ok (.iadd, 1) := by decide +kernel
theorem dX3_takeHail_55 : decode cX3_takeHail 55 = .ok (.iastore, 1) := by decide +kernel
theorem dX3_takeHail_56 : decode cX3_takeHail 56 = .ok (.aload_n 0, 1) := by decide +kernel
theorem dX3_takeHail_57 : decode cX3_takeHail 57 = .ok (.getfield 31, 3) := by decide +kernel
theorem dX3_takeHail_60 : decode cX3_takeHail 60 = .ok (.iload_n 3, 1) := by decide +kernel
theorem dX3_takeHail_61 : decode cX3_takeHail 61 = .ok (.dup2, 1) := by decide +kernel
theorem dX3_takeHail_62 : decode cX3_takeHail 62 = .ok (.iaload, 1) := by decide +kernel
theorem dX3_takeHail_63 : decode cX3_takeHail 63 = .ok (.iload 4, 2) := by decide +kernel
theorem dX3_takeHail_65 : decode cX3_takeHail 65 = .ok (.iadd, 1) := by decide +kernel
theorem dX3_takeHail_66 : decode cX3_takeHail 66 = .ok (.iastore, 1) := by decide +kernel
theorem dX3_takeHail_67 : decode cX3_takeHail 67 = .ok (.iinc 3 1, 3) := by decide +kernel
theorem dX3_takeHail_70 : decode cX3_takeHail 70 = .ok (.goto (-68), 3) := by decide +kernel
theorem dX3_takeHail_73 : decode cX3_takeHail 73 = .ok (.return_, 1) := by decide +kernel
theorem dX3_closeDay_0 : decode cX3_closeDay 0 = .ok (.iconst 0, 1) := by decide +kernel
theorem dX3_closeDay_1 : decode cX3_closeDay 1 = .ok (.istore_n 1, 1) := by decide +kernel
theorem dX3_closeDay_2 : decode cX3_closeDay 2 = .ok (.iconst 0, 1) := by decide +kernel
theorem dX3_closeDay_3 : decode cX3_closeDay 3 = .ok (.istore_n 2, 1) := by decide +kernel
theorem dX3_closeDay_4 : decode cX3_closeDay 4 = .ok (.iload_n 2, 1) := by decide +kernel
theorem dX3_closeDay_5 : decode cX3_closeDay 5 = .ok (.aload_n 0, 1) := by decide +kernel
theorem dX3_closeDay_6 : decode cX3_closeDay 6 = .ok (.getfield 34, 3) := by decide +kernel
theorem dX3_closeDay_9 : decode cX3_closeDay 9 = .ok (.if_icmp .ge 85, 3) := by decide +kernel
theorem dX3_closeDay_12 : decode cX3_closeDay 12 = .ok (.aload_n 0, 1) := by decide +kernel
theorem dX3_closeDay_13 : decode cX3_closeDay 13 = .ok (.getfield 22, 3) := by decide +kernel
theorem dX3_closeDay_16 : decode cX3_closeDay 16 = .ok (.iload_n 2, 1) := by decide +kernel
theorem dX3_closeDay_17 : decode cX3_closeDay 17 = .ok (.baload, 1) := by decide +kernel
theorem dX3_closeDay_18 : decode cX3_closeDay 18 = .ok (.ifCond .eq 16, 3) := by decide +kernel
theorem dX3_closeDay_21 : decode cX3_closeDay 21 = .ok (.iload_n 1, 1) := by decide +kernel
theorem dX3_closeDay_22 : decode cX3_closeDay 22 = .ok (.iconst 1, 1) := by decide +kernel
theorem dX3_closeDay_23 : decode cX3_closeDay 23 = .ok (.aload_n 0, 1) := by decide +kernel
theorem dX3_closeDay_24 : decode cX3_closeDay 24 = .ok (.getfield 25, 3) := by decide +kernel
theorem dX3_closeDay_27 : decode cX3_closeDay 27 = .ok (.iload_n 2, 1) := by decide +kernel
theorem dX3_closeDay_28 : decode cX3_closeDay 28 = .ok (.iaload, 1) := by decide +kernel
theorem dX3_closeDay_29 : decode cX3_closeDay 29 = .ok (.iconst 2, 1) := by decide +kernel
theorem dX3_closeDay_30 : decode cX3_closeDay 30 = .ok (.idiv, 1) := by decide +kernel
theorem dX3_closeDay_31 : decode cX3_closeDay 31 = .ok (.isub, 1) := by decide +kernel
theorem dX3_closeDay_32 : decode cX3_closeDay 32 = .ok (.iadd, 1) := by decide +kernel
theorem dX3_closeDay_33 : decode cX3_closeDay 33 = .ok (.istore_n 1, 1) := by decide +kernel
theorem dX3_closeDay_34 : decode cX3_closeDay 34 = .ok (.iload_n 1, 1) := by decide +kernel
theorem dX3_closeDay_35 : decode cX3_closeDay 35 = .ok (.aload_n 0, 1) := by decide +kernel
theorem dX3_closeDay_36 : decode cX3_closeDay 36 = .ok (.getfield 28, 3) := by decide +kernel
theorem dX3_closeDay_39 : decode cX3_closeDay 39 = .ok (.iload_n 2, 1) := by decide +kernel
theorem dX3_closeDay_40 : decode cX3_closeDay 40 = .ok (.iaload, 1) := by decide +kernel
theorem dX3_closeDay_41 : decode cX3_closeDay 41 = .ok (.isub, 1) := by decide +kernel
theorem dX3_closeDay_42 : decode cX3_closeDay 42 = .ok (.istore_n 1, 1) := by decide +kernel
theorem dX3_closeDay_43 : decode cX3_closeDay 43 = .ok (.aload_n 0, 1) := by decide +kernel
theorem dX3_closeDay_44 : decode cX3_closeDay 44 = .ok (.getfield 25, 3) := by decide +kernel
theorem dX3_closeDay_47 : decode cX3_closeDay 47 = .ok (.iload_n 2, 1) := by decide +kernel
theorem dX3_closeDay_48 : decode cX3_closeDay 48 = .ok (.iconst 0, 1) := by decide +kernel
theorem dX3_closeDay_49 : decode cX3_closeDay 49 = .ok (.iastore, 1) := by decide +kernel
theorem dX3_closeDay_50 : decode cX3_closeDay 50 = .ok (.aload_n 0, 1) := by decide +kernel
theorem dX3_closeDay_51 : decode cX3_closeDay 51 = .ok (.getfield 28, 3) := by decide +kernel
theorem dX3_closeDay_54 : decode cX3_closeDay 54 = .ok (.iload_n 2, 1) := by decide +kernel
theorem dX3_closeDay_55 : decode cX3_closeDay 55 = .ok (.iconst 0, 1) := by decide +kernel
theorem dX3_closeDay_56 : decode cX3_closeDay 56 = .ok (.iastore, 1) := by decide +kernel
theorem dX3_closeDay_57 : decode cX3_closeDay 57 = .ok (.aload_n 0, 1) := by decide +kernel
theorem dX3_closeDay_58 : decode cX3_closeDay 58 = .ok (.getfield 15, 3) := by decide +kernel
theorem dX3_closeDay_61 : decode cX3_closeDay 61 = .ok (.iload_n 2, 1) := by decide +kernel
theorem dX3_closeDay_62 : decode cX3_closeDay 62 = .ok (.iaload, 1) := by decide +kernel
theorem dX3_closeDay_63 : decode cX3_closeDay 63 = .ok (.iconst 1, 1) := by decide +kernel
theorem dX3_closeDay_64 : decode cX3_closeDay 64 = .ok (.if_icmp .lt 24, 3) := by decide +kernel
theorem dX3_closeDay_67 : decode cX3_closeDay 67 = .ok (.aload_n 0, 1) := by decide +kernel
theorem dX3_closeDay_68 : decode cX3_closeDay 68 = .ok (.getfield 15, 3) := by decide +kernel
theorem dX3_closeDay_71 : decode cX3_closeDay 71 = .ok (.iload_n 2, 1) := by decide +kernel
theorem dX3_closeDay_72 : decode cX3_closeDay 72 = .ok (.iaload, 1) := by decide +kernel
theorem dX3_closeDay_73 : decode cX3_closeDay 73 = .ok (.bipush 99, 2) := by decide +kernel
theorem dX3_closeDay_75 : decode cX3_closeDay 75 = .ok (.if_icmp .ge 13, 3) := by decide +kernel
theorem dX3_closeDay_78 : decode cX3_closeDay 78 = .ok (.aload_n 0, 1) := by decide +kernel
theorem dX3_closeDay_79 : decode cX3_closeDay 79 = .ok (.getfield 15, 3) := by decide +kernel
theorem dX3_closeDay_82 : decode cX3_closeDay 82 = .ok (.iload_n 2, 1) := by decide +kernel
theorem dX3_closeDay_83 : decode cX3_closeDay 83 = .ok (.dup2, 1) := by decide +kernel
theorem dX3_closeDay_84 : decode cX3_closeDay 84 = .ok (.iaload, 1) := by decide +kernel
theorem dX3_closeDay_85 : decode cX3_closeDay 85 = .ok (.iconst 1, 1) := by decide +kernel
theorem dX3_closeDay_86 : decode cX3_closeDay 86 = .ok (.iadd, 1) := by decide +kernel
theorem dX3_closeDay_87 : decode cX3_closeDay 87 = .ok (.iastore, 1) := by decide +kernel
theorem dX3_closeDay_88 : decode cX3_closeDay 88 = .ok (.iinc 2 1, 3) := by decide +kernel
theorem dX3_closeDay_91 : decode cX3_closeDay 91 = .ok (.goto (-87), 3) := by decide +kernel
theorem dX3_closeDay_94 : decode cX3_closeDay 94 = .ok (.iload_n 1, 1) := by decide +kernel
theorem dX3_closeDay_95 : decode cX3_closeDay 95 = .ok (.ireturn, 1) := by decide +kernel
theorem dX3_sumOfVines_0 : decode cX3_sumOfVines 0 = .ok (.aload_n 0, 1) := by decide +kernel
theorem dX3_sumOfVines_1 : decode cX3_sumOfVines 1 = .ok (.aload_n 0, 1) := by decide +kernel
theorem dX3_sumOfVines_2 : decode cX3_sumOfVines 2 = .ok (.getfield 15, 3) := by decide +kernel
theorem dX3_sumOfVines_5 : decode cX3_sumOfVines 5 = .ok (.invokevirtual 48, 3) := by decide +kernel
theorem dX3_sumOfVines_8 : decode cX3_sumOfVines 8 = .ok (.ireturn, 1) := by decide +kernel
theorem dX3_sumOfLostInAll_0 : decode cX3_sumOfLostInAll 0 = .ok (.aload_n 0, 1) := by decide +kernel
theorem dX3_sumOfLostInAll_1 : decode cX3_sumOfLostInAll 1 = .ok (.aload_n 0, 1) := by decide +kernel
theorem dX3_sumOfLostInAll_2 : decode cX3_sumOfLostInAll 2 = .ok (.getfield 31, 3) := by decide +kernel
theorem dX3_sumOfLostInAll_5 : decode cX3_sumOfLostInAll 5 = .ok (.invokevirtual 48, 3) := by decide +kernel
theorem dX3_sumOfLostInAll_8 : decode cX3_sumOfLostInAll 8 = .ok (.ireturn, 1) := by decide +kernel
theorem dX3_sumOfSuits_0 : decode cX3_sumOfSuits 0 = .ok (.aload_n 0, 1) := by decide +kernel
theorem dX3_sumOfSuits_1 : decode cX3_sumOfSuits 1 = .ok (.aload_n 0, 1) := by decide +kernel
theorem dX3_sumOfSuits_2 : decode cX3_sumOfSuits 2 = .ok (.getfield 28, 3) := by decide +kernel
theorem dX3_sumOfSuits_5 : decode cX3_sumOfSuits 5 = .ok (.invokevirtual 48, 3) := by decide +kernel
theorem dX3_sumOfSuits_8 : decode cX3_sumOfSuits 8 = .ok (.ireturn, 1) := by decide +kernel
theorem dX3_members_0 : decode cX3_members 0 = .ok (.aload_n 0, 1) := by decide +kernel
theorem dX3_members_1 : decode cX3_members 1 = .ok (.aload_n 0, 1) := by decide +kernel
theorem dX3_members_2 : decode cX3_members 2 = .ok (.getfield 18, 3) := by decide +kernel
theorem dX3_members_5 : decode cX3_members 5 = .ok (.invokevirtual 52, 3) := by decide +kernel
theorem dX3_members_8 : decode cX3_members 8 = .ok (.ireturn, 1) := by decide +kernel
theorem dX3_insuredOnes_0 : decode cX3_insuredOnes 0 = .ok (.aload_n 0, 1) := by decide +kernel
theorem dX3_insuredOnes_1 : decode cX3_insuredOnes 1 = .ok (.aload_n 0, 1) := by decide +kernel
theorem dX3_insuredOnes_2 : decode cX3_insuredOnes 2 = .ok (.getfield 22, 3) := by decide +kernel
theorem dX3_insuredOnes_5 : decode cX3_insuredOnes 5 = .ok (.invokevirtual 52, 3) := by decide +kernel
theorem dX3_insuredOnes_8 : decode cX3_insuredOnes 8 = .ok (.ireturn, 1) := by decide +kernel
theorem dX3_sum_0 : decode cX3_sum 0 = .ok (.iconst 0, 1) := by decide +kernel
theorem dX3_sum_1 : decode cX3_sum 1 = .ok (.istore_n 2, 1) := by decide +kernel
theorem dX3_sum_2 : decode cX3_sum 2 = .ok (.iconst 0, 1) := by decide +kernel
theorem dX3_sum_3 : decode cX3_sum 3 = .ok (.istore_n 3, 1) := by decide +kernel
theorem dX3_sum_4 : decode cX3_sum 4 = .ok (.iload_n 3, 1) := by decide +kernel
theorem dX3_sum_5 : decode cX3_sum 5 = .ok (.aload_n 0, 1) := by decide +kernel
theorem dX3_sum_6 : decode cX3_sum 6 = .ok (.getfield 34, 3) := by decide +kernel
theorem dX3_sum_9 : decode cX3_sum 9 = .ok (.if_icmp .ge 15, 3) := by decide +kernel
theorem dX3_sum_12 : decode cX3_sum 12 = .ok (.iload_n 2, 1) := by decide +kernel
theorem dX3_sum_13 : decode cX3_sum 13 = .ok (.aload_n 1, 1) := by decide +kernel
theorem dX3_sum_14 : decode cX3_sum 14 = .ok (.iload_n 3, 1) := by decide +kernel
theorem dX3_sum_15 : decode cX3_sum 15 = .ok (.iaload, 1) := by decide +kernel
theorem dX3_sum_16 : decode cX3_sum 16 = .ok (.iadd, 1) := by decide +kernel
theorem dX3_sum_17 : decode cX3_sum 17 = .ok (.istore_n 2, 1) := by decide +kernel
theorem dX3_sum_18 : decode cX3_sum 18 = .ok (.iinc 3 1, 3) := by decide +kernel
theorem dX3_sum_21 : decode cX3_sum 21 = .ok (.goto (-17), 3) := by decide +kernel
theorem dX3_sum_24 : decode cX3_sum 24 = .ok (.iload_n 2, 1) := by decide +kernel
theorem dX3_sum_25 : decode cX3_sum 25 = .ok (.ireturn, 1) := by decide +kernel
theorem dX3_howManyAre_0 : decode cX3_howManyAre 0 = .ok (.iconst 0, 1) := by decide +kernel
theorem dX3_howManyAre_1 : decode cX3_howManyAre 1 = .ok (.istore_n 2, 1) := by decide +kernel
theorem dX3_howManyAre_2 : decode cX3_howManyAre 2 = .ok (.iconst 0, 1) := by decide +kernel
theorem dX3_howManyAre_3 : decode cX3_howManyAre 3 = .ok (.istore_n 3, 1) := by decide +kernel
theorem dX3_howManyAre_4 : decode cX3_howManyAre 4 = .ok (.iload_n 3, 1) := by decide +kernel
theorem dX3_howManyAre_5 : decode cX3_howManyAre 5 = .ok (.aload_n 0, 1) := by decide +kernel
theorem dX3_howManyAre_6 : decode cX3_howManyAre 6 = .ok (.getfield 34, 3) := by decide +kernel
theorem dX3_howManyAre_9 : decode cX3_howManyAre 9 = .ok (.if_icmp .ge 18, 3) := by decide +kernel
theorem dX3_howManyAre_12 : decode cX3_howManyAre 12 = .ok (.aload_n 1, 1) := by decide +kernel
theorem dX3_howManyAre_13 : decode cX3_howManyAre 13 = .ok (.iload_n 3, 1) := by decide +kernel
theorem dX3_howManyAre_14 : decode cX3_howManyAre 14 = .ok (.baload, 1) := by decide +kernel
theorem dX3_howManyAre_15 : decode cX3_howManyAre 15 = .ok (.ifCond .eq 6, 3) := by decide +kernel
theorem dX3_howManyAre_18 : decode cX3_howManyAre 18 = .ok (.iinc 2 1, 3) := by decide +kernel
theorem dX3_howManyAre_21 : decode cX3_howManyAre 21 = .ok (.iinc 3 1, 3) := by decide +kernel
theorem dX3_howManyAre_24 : decode cX3_howManyAre 24 = .ok (.goto (-20), 3) := by decide +kernel
theorem dX3_howManyAre_27 : decode cX3_howManyAre 27 = .ok (.iload_n 2, 1) := by decide +kernel
theorem dX3_howManyAre_28 : decode cX3_howManyAre 28 = .ok (.ireturn, 1) := by decide +kernel
theorem dX3_copyFrom_0 : decode cX3_copyFrom 0 = .ok (.aload_n 1, 1) := by decide +kernel
theorem dX3_copyFrom_1 : decode cX3_copyFrom 1 = .ok (.getfield 9, 3) := by decide +kernel
theorem dX3_copyFrom_4 : decode cX3_copyFrom 4 = .ok (.iconst 0, 1) := by decide +kernel
theorem dX3_copyFrom_5 : decode cX3_copyFrom 5 = .ok (.aload_n 0, 1) := by decide +kernel
theorem dX3_copyFrom_6 : decode cX3_copyFrom 6 = .ok (.getfield 9, 3) := by decide +kernel
theorem dX3_copyFrom_9 : decode cX3_copyFrom 9 = .ok (.iconst 0, 1) := by decide +kernel
theorem dX3_copyFrom_10 : decode cX3_copyFrom 10 = .ok (.bipush 10, 2) := by decide +kernel
theorem dX3_copyFrom_12 : decode cX3_copyFrom 12 = .ok (.invokestatic 56, 3) := by decide +kernel
theorem dX3_copyFrom_15 : decode cX3_copyFrom 15 = .ok (.aload_n 1, 1) := by decide +kernel
theorem dX3_copyFrom_16 : decode cX3_copyFrom 16 = .ok (.getfield 15, 3) := by decide +kernel
theorem dX3_copyFrom_19 : decode cX3_copyFrom 19 = .ok (.iconst 0, 1) := by decide +kernel
theorem dX3_copyFrom_20 : decode cX3_copyFrom 20 = .ok (.aload_n 0, 1) := by decide +kernel
theorem dX3_copyFrom_21 : decode cX3_copyFrom 21 = .ok (.getfield 15, 3) := by decide +kernel
theorem dX3_copyFrom_24 : decode cX3_copyFrom 24 = .ok (.iconst 0, 1) := by decide +kernel
theorem dX3_copyFrom_25 : decode cX3_copyFrom 25 = .ok (.bipush 10, 2) := by decide +kernel
theorem dX3_copyFrom_27 : decode cX3_copyFrom 27 = .ok (.invokestatic 56, 3) := by decide +kernel
theorem dX3_copyFrom_30 : decode cX3_copyFrom 30 = .ok (.aload_n 1, 1) := by decide +kernel
theorem dX3_copyFrom_31 : decode cX3_copyFrom 31 = .ok (.getfield 18, 3) := by decide +kernel
theorem dX3_copyFrom_34 : decode cX3_copyFrom 34 = .ok (.iconst 0, 1) := by decide +kernel
theorem dX3_copyFrom_35 : decode cX3_copyFrom 35 = .ok (.aload_n 0, 1) := by decide +kernel
theorem dX3_copyFrom_36 : decode cX3_copyFrom 36 = .ok (.getfield 18, 3) := by decide +kernel
theorem dX3_copyFrom_39 : decode cX3_copyFrom 39 = .ok (.iconst 0, 1) := by decide +kernel
theorem dX3_copyFrom_40 : decode cX3_copyFrom 40 = .ok (.bipush 10, 2) := by decide +kernel
theorem dX3_copyFrom_42 : decode cX3_copyFrom 42 = .ok (.invokestatic 56, 3) := by decide +kernel
theorem dX3_copyFrom_45 : decode cX3_copyFrom 45 = .ok (.aload_n 1, 1) := by decide +kernel
theorem dX3_copyFrom_46 : decode cX3_copyFrom 46 = .ok (.getfield 22, 3) := by decide +kernel
theorem dX3_copyFrom_49 : decode cX3_copyFrom 49 = .ok (.iconst 0, 1) := by decide +kernel
theorem dX3_copyFrom_50 : decode cX3_copyFrom 50 = .ok (.aload_n 0, 1) := by decide +kernel
theorem dX3_copyFrom_51 : decode cX3_copyFrom 51 = .ok (.getfield 22, 3) := by decide +kernel
theorem dX3_copyFrom_54 : decode cX3_copyFrom 54 = .ok (.iconst 0, 1) := by decide +kernel
theorem dX3_copyFrom_55 : decode cX3_copyFrom 55 = .ok (.bipush 10, 2) := by decide +kernel
theorem dX3_copyFrom_57 : decode cX3_copyFrom 57 = .ok (.invokestatic 56, 3) := by decide +kernel
theorem dX3_copyFrom_60 : decode cX3_copyFrom 60 = .ok (.aload_n 1, 1) := by decide +kernel
theorem dX3_copyFrom_61 : decode cX3_copyFrom 61 = .ok (.getfield 25, 3) := by decide +kernel
theorem dX3_copyFrom_64 : decode cX3_copyFrom 64 = .ok (.iconst 0, 1) := by decide +kernel
theorem dX3_copyFrom_65 : decode cX3_copyFrom 65 = .ok (.aload_n 0, 1) := by decide +kernel
theorem dX3_copyFrom_66 : decode cX3_copyFrom 66 = .ok (.getfield 25, 3) := by decide +kernel
theorem dX3_copyFrom_69 : decode cX3_copyFrom 69 = .ok (.iconst 0, 1) := by decide +kernel
theorem dX3_copyFrom_70 : decode cX3_copyFrom 70 = .ok (.bipush 10, 2) := by decide +kernel
theorem dX3_copyFrom_72 : decode cX3_copyFrom 72 = .ok (.invokestatic 56, 3) := by decide +kernel
theorem dX3_copyFrom_75 : decode cX3_copyFrom 75 = .ok (.aload_n 1, 1) := by decide +kernel
theorem dX3_copyFrom_76 : decode cX3_copyFrom 76 = .ok (.getfield 28, 3) := by decide +kernel
theorem dX3_copyFrom_79 : decode cX3_copyFrom 79 = .ok (.iconst 0, 1) := by decide +kernel
theorem dX3_copyFrom_80 : decode cX3_copyFrom 80 = .ok (.aload_n 0, 1) := by decide +kernel
theorem dX3_copyFrom_81 : decode cX3_copyFrom 81 = .ok (.getfield 28, 3) := by decide +kernel
theorem dX3_copyFrom_84 : decode cX3_copyFrom 84 = .ok (.iconst 0, 1) := by decide +kernel
theorem dX3_copyFrom_85 : decode cX3_copyFrom 85 = .ok (.bipush 10, 2) := by decide +kernel
theorem dX3_copyFrom_87 : decode cX3_copyFrom 87 = .ok (.invokestatic 56, 3) := by decide +kernel
theorem dX3_copyFrom_90 : decode cX3_copyFrom 90 = .ok (.aload_n 1, 1) := by decide +kernel
theorem dX3_copyFrom_91 : decode cX3_copyFrom 91 = .ok (.getfield 31, 3) := by decide +kernel
theorem dX3_copyFrom_94 : decode cX3_copyFrom 94 = .ok (.iconst 0, 1) := by decide +kernel
theorem dX3_copyFrom_95 : decode cX3_copyFrom 95 = .ok (.aload_n 0, 1) := by decide +kernel
theorem dX3_copyFrom_96 : decode cX3_copyFrom 96 = .ok (.getfield 31, 3) := by decide +kernel
theorem dX3_copyFrom_99 : decode cX3_copyFrom 99 = .ok (.iconst 0, 1) := by decide +kernel
theorem dX3_copyFrom_100 : decode cX3_copyFrom 100 = .ok (.bipush 10, 2) := by decide +kernel
theorem dX3_copyFrom_102 : decode cX3_copyFrom 102 = .ok (.invokestatic 56, 3) := by decide +kernel
theorem dX3_copyFrom_105 : decode cX3_copyFrom 105 = .ok (.aload_n 0, 1) := by decide +kernel
theorem dX3_copyFrom_106 : decode cX3_copyFrom 106 = .ok (.aload_n 1, 1) := by decide +kernel
theorem dX3_copyFrom_107 : decode cX3_copyFrom 107 = .ok (.getfield 34, 3) := by decide +kernel
theorem dX3_copyFrom_110 : decode cX3_copyFrom 110 = .ok (.putfield 34, 3) := by decide +kernel
theorem dX3_copyFrom_113 : decode cX3_copyFrom 113 = .ok (.return_, 1) := by decide +kernel
end
section
theorem dX4_init_0 : decode cX4_init 0 = .ok (.aload_n 0, 1) := by decide +kernel
theorem dX4_init_1 : decode cX4_init 1 = .ok (.invokespecial 1, 3) := by decide +kernel
theorem dX4_init_4 : decode cX4_init 4 = .ok (.aload_n 0, 1) := by decide +kernel
theorem dX4_init_5 : decode cX4_init 5 = .ok (.new 7, 3) := by decide +kernel
theorem dX4_init_8 : decode cX4_init 8 = .ok (.dup, 1) := by decide +kernel
theorem dX4_init_9 : decode cX4_init 9 = .ok (.invokespecial 9, 3) := by decide +kernel
theorem dX4_init_12 : decode cX4_init 12 = .ok (.putfield 10, 3) := by decide +kernel
theorem dX4_init_15 : decode cX4_init 15 = .ok (.aload_n 0, 1) := by decide +kernel
theorem dX4_init_16 : decode cX4_init 16 = .ok (.new 7, 3) := by decide +kernel
theorem dX4_init_19 : decode cX4_init 19 = .ok (.dup, 1) := by decide +kernel
theorem dX4_init_20 : decode cX4_init 20 = .ok (.invokespecial 9, 3) := by decide +kernel
theorem dX4_init_23 : decode cX4_init 23 = .ok (.putfield 16, 3) := by decide +kernel
theorem dX4_init_26 : decode cX4_init 26 = .ok (.return_, 1) := by decide +kernel
theorem dX4_plant_0 : decode cX4_plant 0 = .ok (.iload_n 1, 1) := by decide +kernel
theorem dX4_plant_1 : decode cX4_plant 1 = .ok (.invokestatic 19, 3) := by decide +kernel
theorem dX4_plant_4 : decode cX4_plant 4 = .ok (.ifCond .eq 17, 3) := by decide +kernel
theorem dX4_plant_7 : decode cX4_plant 7 = .ok (.iload_n 2, 1) := by decide +kernel
theorem dX4_plant_8 : decode cX4_plant 8 = .ok (.ifCond .lt 13, 3) := by decide +kernel
theorem dX4_plant_11 : decode cX4_plant 11 = .ok (.iload_n 2, 1) := by decide +kernel
theorem dX4_plant_12 : decode cX4_plant 12 = .ok (.bipush 99, 2) := by decide +kernel
theorem dX4_plant_14 : decode cX4_plant 14 = .ok (.if_icmp .gt 7, 3) := by decide +kernel
theorem dX4_plant_17 : decode cX4_plant 17 = .ok (.iconst 1, 1) := by decide +kernel
theorem dX4_plant_18 : decode cX4_plant 18 = .ok (.goto 4, 3) := by decide +kernel
theorem dX4_plant_21 : decode cX4_plant 21 = .ok (.iconst 0, 1) := by decide +kernel
theorem dX4_plant_22 : decode cX4_plant 22 = .ok (.invokestatic 23, 3) := by decide +kernel
theorem dX4_plant_25 : decode cX4_plant 25 = .ok (.aload_n 0, 1) := by decide +kernel
theorem dX4_plant_26 : decode cX4_plant 26 = .ok (.getfield 10, 3) := by decide +kernel
theorem dX4_plant_29 : decode cX4_plant 29 = .ok (.getfield 27, 3) := by decide +kernel
theorem dX4_plant_32 : decode cX4_plant 32 = .ok (.getfield 31, 3) := by decide +kernel
theorem dX4_plant_35 : decode cX4_plant 35 = .ok (.bipush 10, 2) := by decide +kernel
theorem dX4_plant_37 : decode cX4_plant 37 = .ok (.if_icmp .ge 7, 3) := by decide +kernel
theorem dX4_plant_40 : decode cX4_plant 40 = .ok (.iconst 1, 1) := by decide +kernel
theorem dX4_plant_41 : decode cX4_plant 41 = .ok (.goto 4, 3) := by decide +kernel
theorem dX4_plant_44 : decode cX4_plant 44 = .ok (.iconst 0, 1) := by decide +kernel
theorem dX4_plant_45 : decode cX4_plant 45 = .ok (.invokestatic 37, 3) := by decide +kernel
theorem dX4_plant_48 : decode cX4_plant 48 = .ok (.aload_n 0, 1) := by decide +kernel
theorem dX4_plant_49 : decode cX4_plant 49 = .ok (.getfield 10, 3) := by decide +kernel
theorem dX4_plant_52 : decode cX4_plant 52 = .ok (.getfield 27, 3) := by decide +kernel
theorem dX4_plant_55 : decode cX4_plant 55 = .ok (.iload_n 1, 1) := by decide +kernel
theorem dX4_plant_56 : decode cX4_plant 56 = .ok (.iload_n 2, 1) := by decide +kernel
theorem dX4_plant_57 : decode cX4_plant 57 = .ok (.iload_n 3, 1) := by decide +kernel
theorem dX4_plant_58 : decode cX4_plant 58 = .ok (.iload 4, 2) := by decide +kernel
theorem dX4_plant_60 : decode cX4_plant 60 = .ok (.invokevirtual 40, 3) := by decide +kernel
theorem dX4_plant_63 : decode cX4_plant 63 = .ok (.ireturn, 1) := by decide +kernel
theorem dX4_sign_0 : decode cX4_sign 0 = .ok (.iload_n 1, 1) := by decide +kernel
theorem dX4_sign_1 : decode cX4_sign 1 = .ok (.aload_n 0, 1) := by decide +kernel
theorem dX4_sign_2 : decode cX4_sign 2 = .ok (.getfield 10, 3) := by decide +kernel
theorem dX4_sign_5 : decode cX4_sign 5 = .ok (.getfield 27, 3) := by decide +kernel
theorem dX4_sign_8 : decode cX4_sign 8 = .ok (.getfield 31, 3) := by decide +kernel
theorem dX4_sign_11 : decode cX4_sign 11 = .ok (.invokestatic 44, 3) := by decide +kernel
theorem dX4_sign_14 : decode cX4_sign 14 = .ok (.aload_n 0, 1) := by decide +kernel
theorem dX4_sign_15 : decode cX4_sign 15 = .ok (.getfield 10, 3) := by decide +kernel
theorem dX4_sign_18 : decode cX4_sign 18 = .ok (.getfield 27, 3) := by decide +kernel
theorem dX4_sign_21 : decode cX4_sign 21 = .ok (.iload_n 1, 1) := by decide +kernel
theorem dX4_sign_22 : decode cX4_sign 22 = .ok (.iload_n 2, 1) := by decide +kernel
theorem dX4_sign_23 : decode cX4_sign 23 = .ok (.iload_n 3, 1) := by decide +kernel
theorem dX4_sign_24 : decode cX4_sign 24 = .ok (.invokevirtual 48, 3) := by decide +kernel
theorem dX4_sign_27 : decode cX4_sign 27 = .ok (.ireturn, 1) := by decide +kernel
theorem dX4_cannon_0 : decode cX4_cannon 0 = .ok (.iload_n 1, 1) := by decide +kernel
theorem dX4_cannon_1 : decode cX4_cannon 1 = .ok (.invokestatic 19, 3) := by decide +kernel
theorem dX4_cannon_4 : decode cX4_cannon 4 = .ok (.ifCond .eq 28, 3) := by decide +kernel
theorem dX4_cannon_7 : decode cX4_cannon 7 = .ok (.iload_n 2, 1) := by decide +kernel
theorem dX4_cannon_8 : decode cX4_cannon 8 = .ok (.iconst 1, 1) := by decide +kernel
theorem dX4_cannon_9 : decode cX4_cannon 9 = .ok (.if_icmp .lt 23, 3) := by decide +kernel
theorem dX4_cannon_12 : decode cX4_cannon 12 = .ok (.iload_n 2, 1) := by decide +kernel
theorem dX4_cannon_13 : decode cX4_cannon 13 = .ok (.bipush 9, 2) := by decide +kernel
theorem dX4_cannon_15 : decode cX4_cannon 15 = .ok (.if_icmp .gt 17, 3) := by decide +kernel
theorem dX4_cannon_18 : decode cX4_cannon 18 = .ok (.iload_n 3, 1) := by decide +kernel
theorem dX4_cannon_19 : decode cX4_cannon 19 = .ok (.ifCond .lt 13, 3) := by decide +kernel
theorem dX4_cannon_22 : decode cX4_cannon 22 = .ok (.iload_n 3, 1) := by decide +kernel
theorem dX4_cannon_23 : decode cX4_cannon 23 = .ok (.bipush 60, 2) := by decide +kernel
theorem dX4_cannon_25 : decode cX4_cannon 25 = .ok (.if_icmp .gt 7, 3) := by decide +kernel
theorem dX4_cannon_28 : decode cX4_cannon 28 = .ok (.iconst 1, 1) := by decide +kernel
theorem dX4_cannon_29 : decode cX4_cannon 29 = .ok (.goto 4, 3) := by decide +kernel
theorem dX4_cannon_32 : decode cX4_cannon 32 = .ok (.iconst 0, 1) := by decide +kernel
theorem dX4_cannon_33 : decode cX4_cannon 33 = .ok (.invokestatic 23, 3) := by decide +kernel
theorem dX4_cannon_36 : decode cX4_cannon 36 = .ok (.aload_n 0, 1) := by decide +kernel
theorem dX4_cannon_37 : decode cX4_cannon 37 = .ok (.getfield 10, 3) := by decide +kernel
theorem dX4_cannon_40 : decode cX4_cannon 40 = .ok (.getfield 52, 3) := by decide +kernel
theorem dX4_cannon_43 : decode cX4_cannon 43 = .ok (.getfield 56, 3) := by decide +kernel
theorem dX4_cannon_46 : decode cX4_cannon 46 = .ok (.bipush 6, 2) := by decide +kernel
theorem dX4_cannon_48 : decode cX4_cannon 48 = .ok (.if_icmp .ge 7, 3) := by decide +kernel
theorem dX4_cannon_51 : decode cX4_cannon 51 = .ok (.iconst 1, 1) := by decide +kernel
theorem dX4_cannon_52 : decode cX4_cannon 52 = .ok (.goto 4, 3) := by decide +kernel
theorem dX4_cannon_55 : decode cX4_cannon 55 = .ok (.iconst 0, 1) := by decide +kernel
theorem dX4_cannon_56 : decode cX4_cannon 56 = .ok (.invokestatic 37, 3) := by decide +kernel
theorem dX4_cannon_59 : decode cX4_cannon 59 = .ok (.aload_n 0, 1) := by decide +kernel
theorem dX4_cannon_60 : decode cX4_cannon 60 = .ok (.getfield 10, 3) := by decide +kernel
theorem dX4_cannon_63 : decode cX4_cannon 63 = .ok (.getfield 52, 3) := by decide +kernel
theorem dX4_cannon_66 : decode cX4_cannon 66 = .ok (.iload_n 1, 1) := by decide +kernel
theorem dX4_cannon_67 : decode cX4_cannon 67 = .ok (.iload_n 2, 1) := by decide +kernel
theorem dX4_cannon_68 : decode cX4_cannon 68 = .ok (.iload_n 3, 1) := by decide +kernel
theorem dX4_cannon_69 : decode cX4_cannon 69 = .ok (.invokevirtual 59, 3) := by decide +kernel
theorem dX4_cannon_72 : decode cX4_cannon 72 = .ok (.ireturn, 1) := by decide +kernel
theorem dX4_load_0 : decode cX4_load 0 = .ok (.iload_n 1, 1) := by decide +kernel
theorem dX4_load_1 : decode cX4_load 1 = .ok (.aload_n 0, 1) := by decide +kernel
theorem dX4_load_2 : decode cX4_load 2 = .ok (.getfield 10, 3) := by decide +kernel
theorem dX4_load_5 : decode cX4_load 5 = .ok (.getfield 52, 3) := by decide +kernel
theorem dX4_load_8 : decode cX4_load 8 = .ok (.getfield 56, 3) := by decide +kernel
theorem dX4_load_11 : decode cX4_load 11 = .ok (.invokestatic 44, 3) := by decide +kernel
theorem dX4_load_14 : decode cX4_load 14 = .ok (.iload_n 2, 1) := by decide +kernel
theorem dX4_load_15 : decode cX4_load 15 = .ok (.iconst 1, 1) := by decide +kernel
theorem dX4_load_16 : decode cX4_load 16 = .ok (.if_icmp .lt 13, 3) := by decide +kernel
theorem dX4_load_19 : decode cX4_load 19 = .ok (.iload_n 2, 1) := by decide +kernel
theorem dX4_load_20 : decode cX4_load 20 = .ok (.bipush 60, 2) := by decide +kernel
theorem dX4_load_22 : decode cX4_load 22 = .ok (.if_icmp .gt 7, 3) := by decide +kernel
theorem dX4_load_25 : decode cX4_load 25 = .ok (.iconst 1, 1) := by decide +kernel
theorem dX4_load_26 : decode cX4_load 26 = .ok (.goto 4, 3) := by decide +kernel
theorem dX4_load_29 : decode cX4_load 29 = .ok (.iconst 0, 1) := by decide +kernel
theorem dX4_load_30 : decode cX4_load 30 = .ok (.invokestatic 23, 3) := by decide +kernel
theorem dX4_load_33 : decode cX4_load 33 = .ok (.aload_n 0, 1) := by decide +kernel
theorem dX4_load_34 : decode cX4_load 34 = .ok (.getfield 10, 3) := by decide +kernel
theorem dX4_load_37 : decode cX4_load 37 = .ok (.dup, 1) := by decide +kernel
theorem dX4_load_38 : decode cX4_load 38 = .ok (.getfield 62, 3) := by decide +kernel
theorem dX4_load_41 : decode cX4_load 41 = .ok (.iload_n 2, 1) := by decide +kernel
theorem dX4_load_42 : decode cX4_load 42 = .ok (.iconst 5, 1) := by decide +kernel
theorem dX4_load_43 : decode cX4_load 43 = .ok (.idiv, 1) := by decide +kernel
theorem dX4_load_44 : decode cX4_load 44 = .ok (.isub, 1) := by decide +kernel
theorem dX4_load_45 : decode cX4_load 45 = .ok (.putfield 62, 3) := by decide +kernel
theorem dX4_load_48 : decode cX4_load 48 = .ok (.aload_n 0, 1) := by decide +kernel
theorem dX4_load_49 : decode cX4_load 49 = .ok (.getfield 10, 3) := by decide +kernel
theorem dX4_load_52 : decode cX4_load 52 = .ok (.getfield 52, 3) := by decide +kernel
theorem dX4_load_55 : decode cX4_load 55 = .ok (.iload_n 1, 1) := by decide +kernel
theorem dX4_load_56 : decode cX4_load 56 = .ok (.iload_n 2, 1) := by decide +kernel
theorem dX4_load_57 : decode cX4_load 57 = .ok (.invokevirtual 65, 3) := by decide +kernel
theorem dX4_load_60 : decode cX4_load 60 = .ok (.ireturn, 1) := by decide +kernel
theorem dX4_gather_0 : decode cX4_gather 0 = .ok (.iload_n 1, 1) := by decide +kernel
theorem dX4_gather_1 : decode cX4_gather 1 = .ok (.invokestatic 19, 3) := by decide +kernel
theorem dX4_gather_4 : decode cX4_gather 4 = .ok (.ifCond .eq 28, 3) := by decide +kernel
theorem dX4_gather_7 : decode cX4_gather 7 = .ok (.iload_n 2, 1) := by decide +kernel
theorem dX4_gather_8 : decode cX4_gather 8 = .ok (.bipush (-3), 2) := by decide +kernel
theorem dX4_gather_10 : decode cX4_gather 10 = .ok (.if_icmp .lt 22, 3) := by decide +kernel
theorem dX4_gather_13 : decode cX4_gather 13 = .ok (.iload_n 2, 1) := by decide +kernel
theorem dX4_gather_14 : decode cX4_gather 14 = .ok (.iconst 3, 1) := by decide +kernel
theorem dX4_gather_15 : decode cX4_gather 15 = .ok (.if_icmp .gt 17, 3) := by decide +kernel
theorem dX4_gather_18 : decode cX4_gather 18 = .ok (.iload_n 3, 1) := by decide +kernel
theorem dX4_gather_19 : decode cX4_gather 19 = .ok (.ifCond .lt 13, 3) := by decide +kernel
theorem dX4_gather_22 : decode cX4_gather 22 = .ok (.iload_n 3, 1) := by decide +kernel
theorem dX4_gather_23 : decode cX4_gather 23 = .ok (.bipush 60, 2) := by decide +kernel
theorem dX4_gather_25 : decode cX4_gather 25 = .ok (.if_icmp .gt 7, 3) := by decide +kernel
theorem dX4_gather_28 : decode cX4_gather 28 = .ok (.iconst 1, 1) := by decide +kernel
theorem dX4_gather_29 : decode cX4_gather 29 = .ok (.goto 4, 3) := by decide +kernel
theorem dX4_gather_32 : decode cX4_gather 32 = .ok (.iconst 0, 1) := by decide +kernel
theorem dX4_gather_33 : decode cX4_gather 33 = .ok (.invokestatic 23, 3) := by decide +kernel
theorem dX4_gather_36 : decode cX4_gather 36 = .ok (.aload_n 0, 1) := by decide +kernel
theorem dX4_gather_37 : decode cX4_gather 37 = .ok (.getfield 10, 3) := by decide +kernel
theorem dX4_gather_40 : decode cX4_gather 40 = .ok (.getfield 69, 3) := by decide +kernel
theorem dX4_gather_43 : decode cX4_gather 43 = .ok (.getfield 73, 3) := by decide +kernel
theorem dX4_gather_46 : decode cX4_gather 46 = .ok (.bipush 20, 2) := by decide +kernel
theorem dX4_gather_48 : decode cX4_gather 48 = .ok (.if_icmp .ge 7, 3) := by decide +kernel
theorem dX4_gather_51 : decode cX4_gather 51 = .ok (.iconst 1, 1) := by decide +kernel
theorem dX4_gather_52 : decode cX4_gather 52 = .ok (.goto 4, 3) := by decide +kernel
theorem dX4_gather_55 : decode cX4_gather 55 = .ok (.iconst 0, 1) := by decide +kernel
theorem dX4_gather_56 : decode cX4_gather 56 = .ok (.invokestatic 37, 3) := by decide +kernel
theorem dX4_gather_59 : decode cX4_gather 59 = .ok (.aload_n 0, 1) := by decide +kernel
theorem dX4_gather_60 : decode cX4_gather 60 = .ok (.getfield 10, 3) := by decide +kernel
theorem dX4_gather_63 : decode cX4_gather 63 = .ok (.getfield 69, 3) := by decide +kernel
theorem dX4_gather_66 : decode cX4_gather 66 = .ok (.iload_n 1, 1) := by decide +kernel
theorem dX4_gather_67 : decode cX4_gather 67 = .ok (.iload_n 2, 1) := by decide +kernel
theorem dX4_gather_68 : decode cX4_gather 68 = .ok (.iload_n 3, 1) := by decide +kernel
theorem dX4_gather_69 : decode cX4_gather 69 = .ok (.invokevirtual 76, 3) := by decide +kernel
theorem dX4_gather_72 : decode cX4_gather 72 = .ok (.ireturn, 1) := by decide +kernel
theorem dX4_setWind_0 : decode cX4_setWind 0 = .ok (.iload_n 1, 1) := by decide +kernel
theorem dX4_setWind_1 : decode cX4_setWind 1 = .ok (.bipush 6, 2) := by decide +kernel
theorem dX4_setWind_3 : decode cX4_setWind 3 = .ok (.invokestatic 44, 3) := by decide +kernel
theorem dX4_setWind_6 : decode cX4_setWind 6 = .ok (.iload_n 2, 1) := by decide +kernel
theorem dX4_setWind_7 : decode cX4_setWind 7 = .ok (.bipush (-2), 2) := by decide +kernel
theorem dX4_setWind_9 : decode cX4_setWind 9 = .ok (.if_icmp .lt 12, 3) := by decide +kernel
theorem dX4_setWind_12 : decode cX4_setWind 12 = .ok (.iload_n 2, 1) := by decide +kernel
theorem dX4_setWind_13 : decode cX4_setWind 13 = .ok (.iconst 2, 1) := by decide +kernel
theorem dX4_setWind_14 : decode cX4_setWind 14 = .ok (.if_icmp .gt 7, 3) := by decide +kernel
theorem dX4_setWind_17 : decode cX4_setWind 17 = .ok (.iconst 1, 1) := by decide +kernel
theorem dX4_setWind_18 : decode cX4_setWind 18 = .ok (.goto 4, 3) := by decide +kernel
theorem dX4_setWind_21 : decode cX4_setWind 21 = .ok (.iconst 0, 1) := by decide +kernel
theorem dX4_setWind_22 : decode cX4_setWind 22 = .ok (.invokestatic 23, 3) := by decide +kernel
theorem dX4_setWind_25 : decode cX4_setWind 25 = .ok (.aload_n 0, 1) := by decide +kernel
theorem dX4_setWind_26 : decode cX4_setWind 26 = .ok (.getfield 10, 3) := by decide +kernel
theorem dX4_setWind_29 : decode cX4_setWind 29 = .ok (.getfield 77, 3) := by decide +kernel
theorem dX4_setWind_32 : decode cX4_setWind 32 = .ok (.iload_n 1, 1) := by decide +kernel
theorem dX4_setWind_33 : decode cX4_setWind 33 = .ok (.iaload, 1) := by decide +kernel
theorem dX4_setWind_34 : decode cX4_setWind 34 = .ok (.istore_n 3, 1) := by decide +kernel
theorem dX4_setWind_35 : decode cX4_setWind 35 = .ok (.aload_n 0, 1) := by decide +kernel
theorem dX4_setWind_36 : decode cX4_setWind 36 = .ok (.getfield 10, 3) := by decide +kernel
theorem dX4_setWind_39 : decode cX4_setWind 39 = .ok (.getfield 77, 3) := by decide +kernel
theorem dX4_setWind_42 : decode cX4_setWind 42 = .ok (.iload_n 1, 1) := by decide +kernel
theorem dX4_setWind_43 : decode cX4_setWind 43 = .ok (.iload_n 2, 1) := by decide +kernel
theorem dX4_setWind_44 : decode cX4_setWind 44 = .ok (.iastore, 1) := by decide +kernel
theorem dX4_setWind_45 : decode cX4_setWind 45 = .ok (.iload_n 3, 1) := by decide +kernel
theorem dX4_setWind_46 : decode cX4_setWind 46 = .ok (.ireturn, 1) := by decide +kernel
theorem dX4_vineyard_0 : decode cX4_vineyard 0 = .ok (.iload_n 1, 1) := by decide +kernel
theorem dX4_vineyard_1 : decode cX4_vineyard 1 = .ok (.aload_n 0, 1) := by decide +kernel
theorem dX4_vineyard_2 : decode cX4_vineyard 2 = .ok (.getfield 10, 3) := by decide +kernel
theorem dX4_vineyard_5 : decode cX4_vineyard 5 = .ok (.getfield 27, 3) := by decide +kernel
theorem dX4_vineyard_8 : decode cX4_vineyard 8 = .ok (.getfield 31, 3) := by decide +kernel
theorem dX4_vineyard_11 : decode cX4_vineyard 11 = .ok (.invokestatic 44, 3) := by decide +kernel
theorem dX4_vineyard_14 : decode cX4_vineyard 14 = .ok (.iload_n 2, 1) := by decide +kernel
theorem dX4_vineyard_15 : decode cX4_vineyard 15 = .ok (.bipush 7, 2) := by decide +kernel
theorem dX4_vineyard_17 : decode cX4_vineyard 17 = .ok (.invokestatic 44, 3) := by decide +kernel
theorem dX4_vineyard_20 : decode cX4_vineyard 20 = .ok (.aload_n 0, 1) := by decide +kernel
theorem dX4_vineyard_21 : decode cX4_vineyard 21 = .ok (.getfield 10, 3) := by decide +kernel
theorem dX4_vineyard_24 : decode cX4_vineyard 24 = .ok (.getfield 27, 3) := by decide +kernel
theorem dX4_vineyard_27 : decode cX4_vineyard 27 = .ok (.iload_n 1, 1) := by decide +kernel
theorem dX4_vineyard_28 : decode cX4_vineyard 28 = .ok (.iload_n 2, 1) := by decide +kernel
theorem dX4_vineyard_29 : decode cX4_vineyard 29 = .ok (.invokevirtual 81, 3) := by decide +kernel
theorem dX4_vineyard_32 : decode cX4_vineyard 32 = .ok (.ireturn, 1) := by decide +kernel
theorem dX4_about_0 : decode cX4_about 0 = .ok (.iload_n 1, 1) := by decide +kernel
theorem dX4_about_1 : decode cX4_about 1 = .ok (.aload_n 0, 1) := by decide +kernel
theorem dX4_about_2 : decode cX4_about 2 = .ok (.getfield 10, 3) := by decide +kernel
theorem dX4_about_5 : decode cX4_about 5 = .ok (.getfield 52, 3) := by decide +kernel
theorem dX4_about_8 : decode cX4_about 8 = .ok (.getfield 56, 3) := by decide +kernel
theorem dX4_about_11 : decode cX4_about 11 = .ok (.invokestatic 44, 3) := by decide +kernel
theorem dX4_about_14 : decode cX4_about 14 = .ok (.iload_n 2, 1) := by decide +kernel
theorem dX4_about_15 : decode cX4_about 15 = .ok (.iconst 5, 1) := by decide +kernel
theorem dX4_about_16 : decode cX4_about 16 = .ok (.invokestatic 44, 3) := by decide +kernel
theorem dX4_about_19 : decode cX4_about 19 = .ok (.aload_n 0, 1) := by decide +kernel
theorem dX4_about_20 : decode cX4_about 20 = .ok (.getfield 10, 3) := by decide +kernel
theorem dX4_about_23 : decode cX4_about 23 = .ok (.getfield 52, 3) := by decide +kernel
theorem dX4_about_26 : decode cX4_about 26 = .ok (.iload_n 1, 1) := by decide +kernel
theorem dX4_about_27 : decode cX4_about 27 = .ok (.iload_n 2, 1) := by decide +kernel
theorem dX4_about_28 : decode cX4_about 28 = .ok (.aload_n 0, 1) := by decide +kernel
theorem dX4_about_29 : decode cX4_about 29 = .ok (.getfield 10, 3) := by decide +kernel
theorem dX4_about_32 : decode cX4_about 32 = .ok (.getfield 69, 3) := by decide +kernel
theorem dX4_about_35 : decode cX4_about 35 = .ok (.invokevirtual 84, 3) := by decide +kernel
theorem dX4_about_38 : decode cX4_about 38 = .ok (.ireturn, 1) := by decide +kernel
theorem dX4_cloud_0 : decode cX4_cloud 0 = .ok (.iload_n 1, 1) := by decide +kernel
theorem dX4_cloud_1 : decode cX4_cloud 1 = .ok (.aload_n 0, 1) := by decide +kernel
theorem dX4_cloud_2 : decode cX4_cloud 2 = .ok (.getfield 10, 3) := by decide +kernel
theorem dX4_cloud_5 : decode cX4_cloud 5 = .ok (.getfield 69, 3) := by decide +kernel
theorem dX4_cloud_8 : decode cX4_cloud 8 = .ok (.getfield 73, 3) := by decide +kernel
theorem dX4_cloud_11 : decode cX4_cloud 11 = .ok (.invokestatic 44, 3) := by decide +kernel
theorem dX4_cloud_14 : decode cX4_cloud 14 = .ok (.iload_n 2, 1) := by decide +kernel
theorem dX4_cloud_15 : decode cX4_cloud 15 = .ok (.iconst 4, 1) := by decide +kernel
theorem dX4_cloud_16 : decode cX4_cloud 16 = .ok (.invokestatic 44, 3) := by decide +kernel
theorem dX4_cloud_19 : decode cX4_cloud 19 = .ok (.aload_n 0, 1) := by decide +kernel
theorem dX4_cloud_20 : decode cX4_cloud 20 = .ok (.getfield 10, 3) := by decide +kernel
theorem dX4_cloud_23 : decode cX4_cloud 23 = .ok (.getfield 69, 3) := by decide +kernel
theorem dX4_cloud_26 : decode cX4_cloud 26 = .ok (.iload_n 1, 1) := by decide +kernel
theorem dX4_cloud_27 : decode cX4_cloud 27 = .ok (.iload_n 2, 1) := by decide +kernel
theorem dX4_cloud_28 : decode cX4_cloud 28 = .ok (.invokevirtual 87, 3) := by decide +kernel
theorem dX4_cloud_31 : decode cX4_cloud 31 = .ok (.ireturn, 1) := by decide +kernel
theorem dX4_count_0 : decode cX4_count 0 = .ok (.iload_n 1, 1) := by decide +kernel
theorem dX4_count_1 : decode cX4_count 1 = .ok (.bipush 10, 2) := by decide +kernel
theorem dX4_count_3 : decode cX4_count 3 = .ok (.invokestatic 44, 3) := by decide +kernel
theorem dX4_count_6 : decode cX4_count 6 = .ok (.aload_n 0, 1) := by decide +kernel
theorem dX4_count_7 : decode cX4_count 7 = .ok (.getfield 10, 3) := by decide +kernel
theorem dX4_count_10 : decode cX4_count 10 = .ok (.iload_n 1, 1) := by decide +kernel
theorem dX4_count_11 : decode cX4_count 11 = .ok (.invokevirtual 88, 3) := by decide +kernel
theorem dX4_count_14 : decode cX4_count 14 = .ok (.ireturn, 1) := by decide +kernel
theorem dX4_pass_0 : decode cX4_pass 0 = .ok (.iload_n 1, 1) := by decide +kernel
theorem dX4_pass_1 : decode cX4_pass 1 = .ok (.iconst 1, 1) := by decide +kernel
theorem dX4_pass_2 : decode cX4_pass 2 = .ok (.if_icmp .lt 13, 3) := by decide +kernel
theorem dX4_pass_5 : decode cX4_pass 5 = .ok (.iload_n 1, 1) := by decide +kernel
theorem dX4_pass_6 : decode cX4_pass 6 = .ok (.bipush 96, 2) := by decide +kernel
theorem dX4_pass_8 : decode cX4_pass 8 = .ok (.if_icmp .gt 7, 3) := by decide +kernel
theorem dX4_pass_11 : decode cX4_pass 11 = .ok (.iconst 1, 1) := by decide +kernel
theorem dX4_pass_12 : decode cX4_pass 12 = .ok (.goto 4, 3) := by decide +kernel
theorem dX4_pass_15 : decode cX4_pass 15 = .ok (.iconst 0, 1) := by decide +kernel
theorem dX4_pass_16 : decode cX4_pass 16 = .ok (.invokestatic 23, 3) := by decide +kernel
theorem dX4_pass_19 : decode cX4_pass 19 = .ok (.aload_n 0, 1) := by decide +kernel
theorem dX4_pass_20 : decode cX4_pass 20 = .ok (.getfield 10, 3) := by decide +kernel
theorem dX4_pass_23 : decode cX4_pass 23 = .ok (.getfield 27, 3) := by decide +kernel
theorem dX4_pass_26 : decode cX4_pass 26 = .ok (.invokevirtual 92, 3) := by decide +kernel
theorem dX4_pass_29 : decode cX4_pass 29 = .ok (.istore_n 2, 1) := by decide +kernel
theorem dX4_pass_30 : decode cX4_pass 30 = .ok (.aload_n 0, 1) := by decide +kernel
theorem dX4_pass_31 : decode cX4_pass 31 = .ok (.getfield 10, 3) := by decide +kernel
theorem dX4_pass_34 : decode cX4_pass 34 = .ok (.iload_n 1, 1) := by decide +kernel
theorem dX4_pass_35 : decode cX4_pass 35 = .ok (.invokevirtual 96, 3) := by decide +kernel
theorem dX4_pass_38 : decode cX4_pass 38 = .ok (.aload_n 0, 1) := by decide +kernel
theorem dX4_pass_39 : decode cX4_pass 39 = .ok (.getfield 10, 3) := by decide +kernel
theorem dX4_pass_42 : decode cX4_pass 42 = .ok (.getfield 27, 3) := by decide +kernel
theorem dX4_pass_45 : decode cX4_pass 45 = .ok (.invokevirtual 92, 3) := by decide +kernel
theorem dX4_pass_48 : decode cX4_pass 48 = .ok (.iload_n 2, 1) := by decide +kernel
theorem dX4_pass_49 : decode cX4_pass 49 = .ok (.isub, 1) := by decide +kernel
theorem dX4_pass_50 : decode cX4_pass 50 = .ok (.ireturn, 1) := by decide +kernel
theorem dX4_hit_0 : decode cX4_hit 0 = .ok (.iload_n 1, 1) := by decide +kernel
theorem dX4_hit_1 : decode cX4_hit 1 = .ok (.aload_n 0, 1) := by decide +kernel
theorem dX4_hit_2 : decode cX4_hit 2 = .ok (.getfield 10, 3) := by decide +kernel
theorem dX4_hit_5 : decode cX4_hit 5 = .ok (.getfield 27, 3) := by decide +kernel
theorem dX4_hit_8 : decode cX4_hit 8 = .ok (.getfield 31, 3) := by decide +kernel
theorem dX4_hit_11 : decode cX4_hit 11 = .ok (.invokestatic 44, 3) := by decide +kernel
theorem dX4_hit_14 : decode cX4_hit 14 = .ok (.aload_n 0, 1) := by decide +kernel
theorem dX4_hit_15 : decode cX4_hit 15 = .ok (.getfield 16, 3) := by decide +kernel
theorem dX4_hit_18 : decode cX4_hit 18 = .ok (.aload_n 0, 1) := by decide +kernel
theorem dX4_hit_19 : decode cX4_hit 19 = .ok (.getfield 10, 3) := by decide +kernel
theorem dX4_hit_22 : decode cX4_hit 22 = .ok (.invokevirtual 100, 3) := by decide +kernel
theorem dX4_hit_25 : decode cX4_hit 25 = .ok (.aload_n 0, 1) := by decide +kernel
theorem dX4_hit_26 : decode cX4_hit 26 = .ok (.getfield 16, 3) := by decide +kernel
theorem dX4_hit_29 : decode cX4_hit 29 = .ok (.getfield 27, 3) := by decide +kernel
theorem dX4_hit_32 : decode cX4_hit 32 = .ok (.getfield 104, 3) := by decide +kernel
theorem dX4_hit_35 : decode cX4_hit 35 = .ok (.iload_n 1, 1) := by decide +kernel
theorem dX4_hit_36 : decode cX4_hit 36 = .ok (.iaload, 1) := by decide +kernel
theorem dX4_hit_37 : decode cX4_hit 37 = .ok (.istore_n 2, 1) := by decide +kernel
theorem dX4_hit_38 : decode cX4_hit 38 = .ok (.iconst 1, 1) := by decide +kernel
theorem dX4_hit_39 : decode cX4_hit 39 = .ok (.istore_n 3, 1) := by decide +kernel
theorem dX4_hit_40 : decode cX4_hit 40 = .ok (.iload_n 3, 1) := by decide +kernel
theorem dX4_hit_41 : decode cX4_hit 41 = .ok (.bipush 60, 2) := by decide +kernel
theorem dX4_hit_43 : decode cX4_hit 43 = .ok (.if_icmp .gt 47, 3) := by decide +kernel
theorem dX4_hit_46 : decode cX4_hit 46 = .ok (.aload_n 0, 1) := by decide +kernel
theorem dX4_hit_47 : decode cX4_hit 47 = .ok (.getfield 16, 3) := by decide +kernel
theorem dX4_hit_50 : decode cX4_hit 50 = .ok (.getfield 69, 3) := by decide +kernel
theorem dX4_hit_53 : decode cX4_hit 53 = .ok (.invokevirtual 107, 3) := by decide +kernel
theorem dX4_hit_56 : decode cX4_hit 56 = .ok (.ifCond .eq 34, 3) := by decide +kernel
theorem dX4_hit_59 : decode cX4_hit 59 = .ok (.aload_n 0, 1) := by decide +kernel
theorem dX4_hit_60 : decode cX4_hit 60 = .ok (.getfield 16, 3) := by decide +kernel
theorem dX4_hit_63 : decode cX4_hit 63 = .ok (.invokevirtual 111, 3) := by decide +kernel
theorem dX4_hit_66 : decode cX4_hit 66 = .ok (.aload_n 0, 1) := by decide +kernel
theorem dX4_hit_67 : decode cX4_hit 67 = .ok (.getfield 16, 3) := by decide +kernel
theorem dX4_hit_70 : decode cX4_hit 70 = .ok (.getfield 27, 3) := by decide +kernel
theorem dX4_hit_73 : decode cX4_hit 73 = .ok (.getfield 104, 3) := by decide +kernel
theorem dX4_hit_76 : decode cX4_hit 76 = .ok (.iload_n 1, 1) := by decide +kernel
theorem dX4_hit_77 : decode cX4_hit 77 = .ok (.iaload, 1) := by decide +kernel
theorem dX4_hit_78 : decode cX4_hit 78 = .ok (.iload_n 2, 1) := by decide +kernel
theorem dX4_hit_79 : decode cX4_hit 79 = .ok (.if_icmp .le 5, 3) := by decide +kernel
theorem dX4_hit_82 : decode cX4_hit 82 = .ok (.iload_n 3, 1) := by decide +kernel
theorem dX4_hit_83 : decode cX4_hit 83 = .ok (.ireturn, 1) := by decide +kernel
theorem dX4_hit_84 : decode cX4_hit 84 = .ok (.iinc 3 1, 3) := by decide +kernel
theorem dX4_hit_87 : decode cX4_hit 87 = .ok (.goto (-47), 3) := by decide +kernel
theorem dX4_hit_90 : decode cX4_hit 90 = .ok (.iconst (-1), 1) := by decide +kernel
theorem dX4_hit_91 : decode cX4_hit 91 = .ok (.ireturn, 1) := by decide +kernel
theorem dX4_foresee_0 : decode cX4_foresee 0 = .ok (.iload_n 1, 1) := by decide +kernel
theorem dX4_foresee_1 : decode cX4_foresee 1 = .ok (.iconst 1, 1) := by decide +kernel
theorem dX4_foresee_2 : decode cX4_foresee 2 = .ok (.if_icmp .lt 13, 3) := by decide +kernel
theorem dX4_foresee_5 : decode cX4_foresee 5 = .ok (.iload_n 1, 1) := by decide +kernel
theorem dX4_foresee_6 : decode cX4_foresee 6 = .ok (.bipush 96, 2) := by decide +kernel
theorem dX4_foresee_8 : decode cX4_foresee 8 = .ok (.if_icmp .gt 7, 3) := by decide +kernel
theorem dX4_foresee_11 : decode cX4_foresee 11 = .ok (.iconst 1, 1) := by decide +kernel
theorem dX4_foresee_12 : decode cX4_foresee 12 = .ok (.goto 4, 3) := by decide +kernel
theorem dX4_foresee_15 : decode cX4_foresee 15 = .ok (.iconst 0, 1) := by decide +kernel
theorem dX4_foresee_16 : decode cX4_foresee 16 = .ok (.invokestatic 23, 3) := by decide +kernel
theorem dX4_foresee_19 : decode cX4_foresee 19 = .ok (.iload_n 2, 1) := by decide +kernel
theorem dX4_foresee_20 : decode cX4_foresee 20 = .ok (.invokestatic 114, 3) := by decide +kernel
theorem dX4_foresee_23 : decode cX4_foresee 23 = .ok (.aload_n 0, 1) := by decide +kernel
theorem dX4_foresee_24 : decode cX4_foresee 24 = .ok (.getfield 16, 3) := by decide +kernel
theorem dX4_foresee_27 : decode cX4_foresee 27 = .ok (.aload_n 0, 1) := by decide +kernel
theorem dX4_foresee_28 : decode cX4_foresee 28 = .ok (.getfield 10, 3) := by decide +kernel
theorem dX4_foresee_31 : decode cX4_foresee 31 = .ok (.invokevirtual 100, 3) := by decide +kernel
theorem dX4_foresee_34 : decode cX4_foresee 34 = .ok (.aload_n 0, 1) := by decide +kernel
theorem dX4_foresee_35 : decode cX4_foresee 35 = .ok (.getfield 16, 3) := by decide +kernel
theorem dX4_foresee_38 : decode cX4_foresee 38 = .ok (.iload_n 1, 1) := by decide +kernel
theorem dX4_foresee_39 : decode cX4_foresee 39 = .ok (.invokevirtual 96, 3) := by decide +kernel
theorem dX4_foresee_42 : decode cX4_foresee 42 = .ok (.aload_n 0, 1) := by decide +kernel
theorem dX4_foresee_43 : decode cX4_foresee 43 = .ok (.getfield 16, 3) := by decide +kernel
theorem dX4_foresee_46 : decode cX4_foresee 46 = .ok (.iload_n 2, 1) := by decide +kernel
theorem dX4_foresee_47 : decode cX4_foresee 47 = .ok (.invokevirtual 88, 3) := by decide +kernel
theorem dX4_foresee_50 : decode cX4_foresee 50 = .ok (.ireturn, 1) := by decide +kernel
theorem dX4_advise_0 : decode cX4_advise 0 = .ok (.iload_n 1, 1) := by decide +kernel
theorem dX4_advise_1 : decode cX4_advise 1 = .ok (.aload_n 0, 1) := by decide +kernel
theorem dX4_advise_2 : decode cX4_advise 2 = .ok (.getfield 10, 3) := by decide +kernel
theorem dX4_advise_5 : decode cX4_advise 5 = .ok (.getfield 52, 3) := by decide +kernel
theorem dX4_advise_8 : decode cX4_advise 8 = .ok (.getfield 56, 3) := by decide +kernel
theorem dX4_advise_11 : decode cX4_advise 11 = .ok (.invokestatic 44, 3) := by decide +kernel
theorem dX4_advise_14 : decode cX4_advise 14 = .ok (.iload_n 2, 1) := by decide +kernel
theorem dX4_advise_15 : decode cX4_advise 15 = .ok (.iconst 1, 1) := by decide +kernel
theorem dX4_advise_16 : decode cX4_advise 16 = .ok (.if_icmp .lt 13, 3) := by decide +kernel
theorem dX4_advise_19 : decode cX4_advise 19 = .ok (.iload_n 2, 1) := by decide +kernel
theorem dX4_advise_20 : decode cX4_advise 20 = .ok (.bipush 36, 2) := by decide +kernel
theorem dX4_advise_22 : decode cX4_advise 22 = .ok (.if_icmp .gt 7, 3) := by decide +kernel
theorem dX4_advise_25 : decode cX4_advise 25 = .ok (.iconst 1, 1) := by decide +kernel
theorem dX4_advise_26 : decode cX4_advise 26 = .ok (.goto 4, 3) := by decide +kernel
theorem dX4_advise_29 : decode cX4_advise 29 = .ok (.iconst 0, 1) := by decide +kernel
theorem dX4_advise_30 : decode cX4_advise 30 = .ok (.invokestatic 23, 3) := by decide +kernel
theorem dX4_advise_33 : decode cX4_advise 33 = .ok (.aload_n 0, 1) := by decide +kernel
theorem dX4_advise_34 : decode cX4_advise 34 = .ok (.iload_n 1, 1) := by decide +kernel
theorem dX4_advise_35 : decode cX4_advise 35 = .ok (.aload_n 0, 1) := by decide +kernel
theorem dX4_advise_36 : decode cX4_advise 36 = .ok (.getfield 10, 3) := by decide +kernel
theorem dX4_advise_39 : decode cX4_advise 39 = .ok (.getfield 52, 3) := by decide +kernel
theorem dX4_advise_42 : decode cX4_advise 42 = .ok (.getfield 117, 3) := by decide +kernel
theorem dX4_advise_45 : decode cX4_advise 45 = .ok (.iload_n 1, 1) := by decide +kernel
theorem dX4_advise_46 : decode cX4_advise 46 = .ok (.iaload, 1) := by decide +kernel
theorem dX4_advise_47 : decode cX4_advise 47 = .ok (.iload_n 2, 1) := by decide +kernel
theorem dX4_advise_48 : decode cX4_advise 48 = .ok (.invokevirtual 120, 3) := by decide +kernel
theorem dX4_advise_51 : decode cX4_advise 51 = .ok (.istore_n 3, 1) := by decide +kernel
theorem dX4_advise_52 : decode cX4_advise 52 = .ok (.iconst (-1), 1) := by decide +kernel
theorem dX4_advise_53 : decode cX4_advise 53 = .ok (.istore 4, 2) := by decide +kernel
theorem dX4_advise_55 : decode cX4_advise 55 = .ok (.iconst 0, 1) := by decide +kernel
theorem dX4_advise_56 : decode cX4_advise 56 = .ok (.istore 5, 2) := by decide +kernel
theorem dX4_advise_58 : decode cX4_advise 58 = .ok (.iload 5, 2) := by decide +kernel
theorem dX4_advise_60 : decode cX4_advise 60 = .ok (.bipush 30, 2) := by decide +kernel
theorem dX4_advise_62 : decode cX4_advise 62 = .ok (.if_icmp .ge 32, 3) := by decide +kernel
theorem dX4_advise_65 : decode cX4_advise 65 = .ok (.aload_n 0, 1) := by decide +kernel
theorem dX4_advise_66 : decode cX4_advise 66 = .ok (.iload_n 1, 1) := by decide +kernel
theorem dX4_advise_67 : decode cX4_advise 67 = .ok (.iload 5, 2) := by decide +kernel
theorem dX4_advise_69 : decode cX4_advise 69 = .ok (.iload_n 2, 1) := by decide +kernel
theorem dX4_advise_70 : decode cX4_advise 70 = .ok (.invokevirtual 120, 3) := by decide +kernel
theorem dX4_advise_73 : decode cX4_advise 73 = .ok (.istore 6, 2) := by decide +kernel
theorem dX4_advise_75 : decode cX4_advise 75 = .ok (.iload 6, 2) := by decide +kernel
theorem dX4_advise_77 : decode cX4_advise 77 = .ok (.iload_n 3, 1) := by decide +kernel
theorem dX4_advise_78 : decode cX4_advise 78 = .ok (.if_icmp .ge 10, 3) := by decide +kernel
theorem dX4_advise_81 : decode cX4_advise 81 = .ok (.iload 6, 2) := by decide +kernel
theorem dX4_advise_83 : decode cX4_advise 83 = .ok (.istore_n 3, 1) := by decide +kernel
theorem dX4_advise_84 : decode cX4_advise 84 = .ok (.iload 5, 2) := by decide +kernel
theorem dX4_advise_86 : decode cX4_advise 86 = .ok (.istore 4, 2) := by decide +kernel
theorem dX4_advise_88 : decode cX4_advise 88 = .ok (.iinc 5 1, 3) := by decide +kernel
theorem dX4_advise_91 : decode cX4_advise 91 = .ok (.goto (-33), 3) := by decide +kernel
theorem dX4_advise_94 : decode cX4_advise 94 = .ok (.iload 4, 2) := by decide +kernel
theorem dX4_advise_96 : decode cX4_advise 96 = .ok (.ireturn, 1) := by decide +kernel
theorem dX4_move_0 : decode cX4_move 0 = .ok (.iload_n 1, 1) := by decide +kernel
theorem dX4_move_1 : decode cX4_move 1 = .ok (.aload_n 0, 1) := by decide +kernel
theorem dX4_move_2 : decode cX4_move 2 = .ok (.getfield 10, 3) := by decide +kernel
theorem dX4_move_5 : decode cX4_move 5 = .ok (.getfield 52, 3) := by decide +kernel
theorem dX4_move_8 : decode cX4_move 8 = .ok (.getfield 56, 3) := by decide +kernel
theorem dX4_move_11 : decode cX4_move 11 = .ok (.invokestatic 44, 3) := by decide +kernel
theorem dX4_move_14 : decode cX4_move 14 = .ok (.iload_n 2, 1) := by decide +kernel
theorem dX4_move_15 : decode cX4_move 15 = .ok (.invokestatic 19, 3) := by decide +kernel
theorem dX4_move_18 : decode cX4_move 18 = .ok (.invokestatic 23, 3) := by decide +kernel
theorem dX4_move_21 : decode cX4_move 21 = .ok (.aload_n 0, 1) := by decide +kernel
theorem dX4_move_22 : decode cX4_move 22 = .ok (.getfield 10, 3) := by decide +kernel
theorem dX4_move_25 : decode cX4_move 25 = .ok (.getfield 52, 3) := by decide +kernel
theorem dX4_move_28 : decode cX4_move 28 = .ok (.getfield 117, 3) := by decide +kernel
theorem dX4_move_31 : decode cX4_move 31 = .ok (.iload_n 1, 1) := by decide +kernel
theorem dX4_move_32 : decode cX4_move 32 = .ok (.iaload, 1) := by decide +kernel
theorem dX4_move_33 : decode cX4_move 33 = .ok (.istore_n 3, 1) := by decide +kernel
theorem dX4_move_34 : decode cX4_move 34 = .ok (.aload_n 0, 1) := by decide +kernel
theorem dX4_move_35 : decode cX4_move 35 = .ok (.getfield 10, 3) := by decide +kernel
theorem dX4_move_38 : decode cX4_move 38 = .ok (.getfield 52, 3) := by decide +kernel
theorem dX4_move_41 : decode cX4_move 41 = .ok (.getfield 117, 3) := by decide +kernel
theorem dX4_move_44 : decode cX4_move 44 = .ok (.iload_n 1, 1) := by decide +kernel
theorem dX4_move_45 : decode cX4_move 45 = .ok (.iload_n 2, 1) := by decide +kernel
theorem dX4_move_46 : decode cX4_move 46 = .ok (.iastore, 1) := by decide +kernel
theorem dX4_move_47 : decode cX4_move 47 = .ok (.aload_n 0, 1) := by decide +kernel
theorem dX4_move_48 : decode cX4_move 48 = .ok (.getfield 10, 3) := by decide +kernel
theorem dX4_move_51 : decode cX4_move 51 = .ok (.dup, 1) := by decide +kernel
theorem dX4_move_52 : decode cX4_move 52 = .ok (.getfield 62, 3) := by decide +kernel
theorem dX4_move_55 : decode cX4_move 55 = .ok (.iconst 2, 1) := by decide +kernel
theorem dX4_move_56 : decode cX4_move 56 = .ok (.isub, 1) := by decide +kernel
theorem dX4_move_57 : decode cX4_move 57 = .ok (.putfield 62, 3) := by decide +kernel
theorem dX4_move_60 : decode cX4_move 60 = .ok (.iload_n 3, 1) := by decide +kernel
theorem dX4_move_61 : decode cX4_move 61 = .ok (.ireturn, 1) := by decide +kernel
theorem dX4_mean_0 : decode cX4_mean 0 = .ok (.aload_n 0, 1) := by decide +kernel
theorem dX4_mean_1 : decode cX4_mean 1 = .ok (.getfield 10, 3) := by decide +kernel
theorem dX4_mean_4 : decode cX4_mean 4 = .ok (.getfield 27, 3) := by decide +kernel
theorem dX4_mean_7 : decode cX4_mean 7 = .ok (.getfield 31, 3) := by decide +kernel
theorem dX4_mean_10 : decode cX4_mean 10 = .ok (.ifCond .ne 5, 3) := by decide +kernel
theorem dX4_mean_13 : decode cX4_mean 13 = .ok (.dconst 0, 1) := by decide +kernel
theorem dX4_mean_14 : decode cX4_mean 14 = .ok (.dreturn, 1) := by decide +kernel
theorem dX4_mean_15 : decode cX4_mean 15 = .ok (.aload_n 0, 1) := by decide +kernel
theorem dX4_mean_16 : decode cX4_mean 16 = .ok (.getfield 10, 3) := by decide +kernel
theorem dX4_mean_19 : decode cX4_mean 19 = .ok (.getfield 27, 3) := by decide +kernel
theorem dX4_mean_22 : decode cX4_mean 22 = .ok (.invokevirtual 123, 3) := by decide +kernel
theorem dX4_mean_25 : decode cX4_mean 25 = .ok (.i2d, 1) := by decide +kernel
theorem dX4_mean_26 : decode cX4_mean 26 = .ok (.aload_n 0, 1) := by decide +kernel
theorem dX4_mean_27 : decode cX4_mean 27 = .ok (.getfield 10, 3) := by decide +kernel
theorem dX4_mean_30 : decode cX4_mean 30 = .ok (.getfield 27, 3) := by decide +kernel
theorem dX4_mean_33 : decode cX4_mean 33 = .ok (.getfield 31, 3) := by decide +kernel
theorem dX4_mean_36 : decode cX4_mean 36 = .ok (.i2d, 1) := by decide +kernel
theorem dX4_mean_37 : decode cX4_mean 37 = .ok (.ddiv, 1) := by decide +kernel
theorem dX4_mean_38 : decode cX4_mean 38 = .ok (.dreturn, 1) := by decide +kernel
theorem dX4_digest_0 : decode cX4_digest 0 = .ok (.ldc2_w 126, 3) := by decide +kernel
theorem dX4_digest_3 : decode cX4_digest 3 = .ok (.lstore_n 1, 1) := by decide +kernel
theorem dX4_digest_4 : decode cX4_digest 4 = .ok (.iconst 0, 1) := by decide +kernel
theorem dX4_digest_5 : decode cX4_digest 5 = .ok (.istore_n 3, 1) := by decide +kernel
theorem dX4_digest_6 : decode cX4_digest 6 = .ok (.iload_n 3, 1) := by decide +kernel
theorem dX4_digest_7 : decode cX4_digest 7 = .ok (.bipush 10, 2) := by decide +kernel
theorem dX4_digest_9 : decode cX4_digest 9 = .ok (.if_icmp .ge 25, 3) := by decide +kernel
theorem dX4_digest_12 : decode cX4_digest 12 = .ok (.lload_n 1, 1) := by decide +kernel
theorem dX4_digest_13 : decode cX4_digest 13 = .ok (.ldc2_w 128, 3) := by decide +kernel
theorem dX4_digest_16 : decode cX4_digest 16 = .ok (.lmul, 1) := by decide +kernel
theorem dX4_digest_17 : decode cX4_digest 17 = .ok (.aload_n 0, 1) := by decide +kernel
theorem dX4_digest_18 : decode cX4_digest 18 = .ok (.getfield 10, 3) := by decide +kernel
theorem dX4_digest_21 : decode cX4_digest 21 = .ok (.iload_n 3, 1) := by decide +kernel
theorem dX4_digest_22 : decode cX4_digest 22 = .ok (.invokevirtual 88, 3) := by decide +kernel
theorem dX4_digest_25 : decode cX4_digest 25 = .ok (.i2l, 1) := by decide +kernel
theorem dX4_digest_26 : decode cX4_digest 26 = .ok (.ladd, 1) := by decide +kernel
theorem dX4_digest_27 : decode cX4_digest 27 = .ok (.lstore_n 1, 1) := by decide +kernel
theorem dX4_digest_28 : decode cX4_digest 28 = .ok (.iinc 3 1, 3) := by decide +kernel
theorem dX4_digest_31 : decode cX4_digest 31 = .ok (.goto (-25), 3) := by decide +kernel
theorem dX4_digest_34 : decode cX4_digest 34 = .ok (.iconst 0, 1) := by decide +kernel
theorem dX4_digest_35 : decode cX4_digest 35 = .ok (.istore_n 3, 1) := by decide +kernel
theorem dX4_digest_36 : decode cX4_digest 36 = .ok (.iload_n 3, 1) := by decide +kernel
theorem dX4_digest_37 : decode cX4_digest 37 = .ok (.bipush 6, 2) := by decide +kernel
theorem dX4_digest_39 : decode cX4_digest 39 = .ok (.if_icmp .ge 26, 3) := by decide +kernel
theorem dX4_digest_42 : decode cX4_digest 42 = .ok (.lload_n 1, 1) := by decide +kernel
theorem dX4_digest_43 : decode cX4_digest 43 = .ok (.ldc2_w 128, 3) := by decide +kernel
theorem dX4_digest_46 : decode cX4_digest 46 = .ok (.lmul, 1) := by decide +kernel
theorem dX4_digest_47 : decode cX4_digest 47 = .ok (.aload_n 0, 1) := by decide +kernel
theorem dX4_digest_48 : decode cX4_digest 48 = .ok (.getfield 10, 3) := by decide +kernel
theorem dX4_digest_51 : decode cX4_digest 51 = .ok (.getfield 77, 3) := by decide +kernel
theorem dX4_digest_54 : decode cX4_digest 54 = .ok (.iload_n 3, 1) := by decide +kernel
theorem dX4_digest_55 : decode cX4_digest 55 = .ok (.iaload, 1) := by decide +kernel
theorem dX4_digest_56 : decode cX4_digest 56 = .ok (.i2l, 1) := by decide +kernel
theorem dX4_digest_57 : decode cX4_digest 57 = .ok (.ladd, 1) := by decide +kernel
theorem dX4_digest_58 : decode cX4_digest 58 = .ok (.lstore_n 1, 1) := by decide +kernel
theorem dX4_digest_59 : decode cX4_digest 59 = .ok (.iinc 3 1, 3) := by decide +kernel
theorem dX4_digest_62 : decode cX4_digest 62 = .ok (.goto (-26), 3) := by decide +kernel
theorem dX4_digest_65 : decode cX4_digest 65 = .ok (.aload_n 0, 1) := by decide +kernel
theorem dX4_digest_66 : decode cX4_digest 66 = .ok (.lload_n 1, 1) := by decide +kernel
theorem dX4_digest_67 : decode cX4_digest 67 = .ok (.invokevirtual 130, 3) := by decide +kernel
theorem dX4_digest_70 : decode cX4_digest 70 = .ok (.lstore_n 1, 1) := by decide +kernel
theorem dX4_digest_71 : decode cX4_digest 71 = .ok (.aload_n 0, 1) := by decide +kernel
theorem dX4_digest_72 : decode cX4_digest 72 = .ok (.lload_n 1, 1) := by decide +kernel
theorem dX4_digest_73 : decode cX4_digest 73 = .ok (.invokevirtual 134, 3) := by decide +kernel
theorem dX4_digest_76 : decode cX4_digest 76 = .ok (.lstore_n 1, 1) := by decide +kernel
theorem dX4_digest_77 : decode cX4_digest 77 = .ok (.aload_n 0, 1) := by decide +kernel
theorem dX4_digest_78 : decode cX4_digest 78 = .ok (.lload_n 1, 1) := by decide +kernel
theorem dX4_digest_79 : decode cX4_digest 79 = .ok (.invokevirtual 137, 3) := by decide +kernel
theorem dX4_digest_82 : decode cX4_digest 82 = .ok (.lreturn, 1) := by decide +kernel
theorem dX4_digestOfVineyards_0 : decode cX4_digestOfVineyards 0 = .ok (.lload_n 1, 1) := by decide +kernel
theorem dX4_digestOfVineyards_1 : decode cX4_digestOfVineyards 1 = .ok (.lstore_n 3, 1) := by decide +kernel
theorem dX4_digestOfVineyards_2 : decode cX4_digestOfVineyards 2 = .ok (.iconst 0, 1) := by decide +kernel
theorem dX4_digestOfVineyards_3 : decode cX4_digestOfVineyards 3 = .ok (.istore 5, 2) := by decide +kernel
theorem dX4_digestOfVineyards_5 : decode cX4_digestOfVineyards 5 = .ok (.iload 5, 2) := by decide +kernel
theorem dX4_digestOfVineyards_7 : decode cX4_digestOfVineyards 7 = .ok (.aload_n 0, 1) := by decide +kernel
theorem dX4_digestOfVineyards_8 : decode cX4_digestOfVineyards 8 = .ok (.getfield 10, 3) := by decide +kernel
theorem dX4_digestOfVineyards_11 : decode cX4_digestOfVineyards 11 = .ok (.getfield 27, 3) := by decide +kernel
theorem dX4_digestOfVineyards_14 : decode cX4_digestOfVineyards 14 = .ok (.getfield 31, 3) := by decide +kernel
theorem dX4_digestOfVineyards_17 : decode cX4_digestOfVineyards 17 = .ok (.if_icmp .ge 47, 3) := by decide +kernel
theorem dX4_digestOfVineyards_20 : decode cX4_digestOfVineyards 20 = .ok (.iconst 0, 1) := by decide +kernel
theorem dX4_digestOfVineyards_21 : decode cX4_digestOfVineyards 21 = .ok (.istore 6, 2) := by decide +kernel
theorem dX4_digestOfVineyards_23 : decode cX4_digestOfVineyards 23 = .ok (.iload 6, 2) := by decide +kernel
theorem dX4_digestOfVineyards_25 : decode cX4_digestOfVineyards 25 = .ok (.bipush 7, 2) := by decide +kernel
theorem dX4_digestOfVineyards_27 : decode cX4_digestOfVineyards 27 = .ok (.if_icmp .ge 31, 3) := by decide +kernel
theorem dX4_digestOfVineyards_30 : decode cX4_digestOfVineyards 30 = .ok (.lload_n 3, 1) := by decide +kernel
theorem dX4_digestOfVineyards_31 : decode cX4_digestOfVineyards 31 = .ok (.ldc2_w 128, 3) := by decide +kernel
theorem dX4_digestOfVineyards_34 : decode cX4_digestOfVineyards 34 = .ok (.lmul, 1) := by decide +kernel
theorem dX4_digestOfVineyards_35 : decode cX4_digestOfVineyards 35 = .ok (.aload_n 0, 1) := by decide +kernel
theorem dX4_digestOfVineyards_36 : decode cX4_digestOfVineyards 36 = .ok (.getfield 10, 3) := by decide +kernel
theorem dX4_digestOfVineyards_39 : decode cX4_digestOfVineyards 39 = .ok (.getfield 27, 3) := by decide +kernel
theorem dX4_digestOfVineyards_42 : decode cX4_digestOfVineyards 42 = .ok (.iload 5, 2) := by decide +kernel
theorem dX4_digestOfVineyards_44 : decode cX4_digestOfVineyards 44 = .ok (.iload 6, 2) := by decide +kernel
theorem dX4_digestOfVineyards_46 : decode cX4_digestOfVineyards 46 = .ok (.invokevirtual 81, 3) := by decide +kernel
theorem dX4_digestOfVineyards_49 : decode cX4_digestOfVineyards 49 = .ok (.i2l, 1) := by decide +kernel
theorem dX4_digestOfVineyards_50 : decode cX4_digestOfVineyards 50 = .ok (.ladd, 1) := by decide +kernel
theorem dX4_digestOfVineyards_51 : decode cX4_digestOfVineyards 51 = .ok (.lstore_n 3, 1) := by decide +kernel
theorem dX4_digestOfVineyards_52 : decode cX4_digestOfVineyards 52 = .ok (.iinc 6 1, 3) := by decide +kernel
theorem dX4_digestOfVineyards_55 : decode cX4_digestOfVineyards 55 = .ok (.goto (-32), 3) := by decide +kernel
theorem dX4_digestOfVineyards_58 : decode cX4_digestOfVineyards 58 = .ok (.iinc 5 1, 3) := by decide +kernel
theorem dX4_digestOfVineyards_61 : decode cX4_digestOfVineyards 61 = .ok (.goto (-56), 3) := by decide +kernel
theorem dX4_digestOfVineyards_64 : decode cX4_digestOfVineyards 64 = .ok (.lload_n 3, 1) := by decide +kernel
theorem dX4_digestOfVineyards_65 : decode cX4_digestOfVineyards 65 = .ok (.lreturn, 1) := by decide +kernel
theorem dX4_digestOfCannons_0 : decode cX4_digestOfCannons 0 = .ok (.lload_n 1, 1) := by decide +kernel
theorem dX4_digestOfCannons_1 : decode cX4_digestOfCannons 1 = .ok (.lstore_n 3, 1) := by decide +kernel
theorem dX4_digestOfCannons_2 : decode cX4_digestOfCannons 2 = .ok (.iconst 0, 1) := by decide +kernel
theorem dX4_digestOfCannons_3 : decode cX4_digestOfCannons 3 = .ok (.istore 5, 2) := by decide +kernel
theorem dX4_digestOfCannons_5 : decode cX4_digestOfCannons 5 = .ok (.iload 5, 2) := by decide +kernel
theorem dX4_digestOfCannons_7 : decode cX4_digestOfCannons 7 = .ok (.aload_n 0, 1) := by decide +kernel
theorem dX4_digestOfCannons_8 : decode cX4_digestOfCannons 8 = .ok (.getfield 10, 3) := by decide +kernel
theorem dX4_digestOfCannons_11 : decode cX4_digestOfCannons 11 = .ok (.getfield 52, 3) := by decide +kernel
theorem dX4_digestOfCannons_14 : decode cX4_digestOfCannons 14 = .ok (.getfield 56, 3) := by decide +kernel
theorem dX4_digestOfCannons_17 : decode cX4_digestOfCannons 17 = .ok (.if_icmp .ge 53, 3) := by decide +kernel
theorem dX4_digestOfCannons_20 : decode cX4_digestOfCannons 20 = .ok (.iconst 0, 1) := by decide +kernel
theorem dX4_digestOfCannons_21 : decode cX4_digestOfCannons 21 = .ok (.istore 6, 2) := by decide +kernel
theorem dX4_digestOfCannons_23 : decode cX4_digestOfCannons 23 = .ok (.iload 6, 2) := by decide +kernel
theorem dX4_digestOfCannons_25 : decode cX4_digestOfCannons 25 = .ok (.iconst 5, 1) := by decide +kernel
theorem dX4_digestOfCannons_26 : decode cX4_digestOfCannons 26 = .ok (.if_icmp .ge 38, 3) := by decide +kernel
theorem dX4_digestOfCannons_29 : decode cX4_digestOfCannons 29 = .ok (.lload_n 3, 1) := by decide +kernel
theorem dX4_digestOfCannons_30 : decode cX4_digestOfCannons 30 = .ok (.ldc2_w 128, 3) := by decide +kernel
theorem dX4_digestOfCannons_33 : decode cX4_digestOfCannons 33 = .ok (.lmul, 1) := by decide +kernel
theorem dX4_digestOfCannons_34 : decode cX4_digestOfCannons 34 = .ok (.aload_n 0, 1) := by decide +kernel
theorem dX4_digestOfCannons_35 : decode cX4_digestOfCannons 35 = .ok (.getfield 10, 3) := by decide +kernel
theorem dX4_digestOfCannons_38 : decode cX4_digestOfCannons 38 = .ok (.getfield 52, 3) := by decide +kernel
theorem dX4_digestOfCannons_41 : decode cX4_digestOfCannons 41 = .ok (.iload 5, 2) := by decide +kernel
theorem dX4_digestOfCannons_43 : decode cX4_digestOfCannons 43 = .ok (.iload 6, 2) := by decide +kernel
theorem dX4_digestOfCannons_45 : decode cX4_digestOfCannons 45 = .ok (.aload_n 0, 1) := by decide +kernel
theorem dX4_digestOfCannons_46 : decode cX4_digestOfCannons 46 = .ok (.getfield 10, 3) := by decide +kernel
theorem dX4_digestOfCannons_49 : decode cX4_digestOfCannons 49 = .ok (.getfield 69, 3) := by decide +kernel
theorem dX4_digestOfCannons_52 : decode cX4_digestOfCannons 52 = .ok (.invokevirtual 84, 3) := by decide +kernel
theorem dX4_digestOfCannons_55 : decode cX4_digestOfCannons 55 = .ok (.i2l, 1) := by decide +kernel
theorem dX4_digestOfCannons_56 : decode cX4_digestOfCannons 56 = .ok (.ladd, 1) := by decide +kernel
theorem dX4_digestOfCannons_57 : decode cX4_digestOfCannons 57 = .ok (.lstore_n 3, 1) := by decide +kernel
theorem dX4_digestOfCannons_58 : decode cX4_digestOfCannons 58 = .ok (.iinc 6 1, 3) := by decide +kernel
theorem dX4_digestOfCannons_61 : decode cX4_digestOfCannons 61 = .ok (.goto (-38), 3) := by decide +kernel
theorem dX4_digestOfCannons_64 : decode cX4_digestOfCannons 64 = .ok (.iinc 5 1, 3) := by decide +kernel
theorem dX4_digestOfCannons_67 : decode cX4_digestOfCannons 67 = .ok (.goto (-62), 3) := by decide +kernel
theorem dX4_digestOfCannons_70 : decode cX4_digestOfCannons 70 = .ok (.lload_n 3, 1) := by decide +kernel
theorem dX4_digestOfCannons_71 : decode cX4_digestOfCannons 71 = .ok (.lreturn, 1) := by decide +kernel
theorem dX4_digestOfClouds_0 : decode cX4_digestOfClouds 0 = .ok (.lload_n 1, 1) := by decide +kernel
theorem dX4_digestOfClouds_1 : decode cX4_digestOfClouds 1 = .ok (.lstore_n 3, 1) := by decide +kernel
theorem dX4_digestOfClouds_2 : decode cX4_digestOfClouds 2 = .ok (.iconst 0, 1) := by decide +kernel
theorem dX4_digestOfClouds_3 : decode cX4_digestOfClouds 3 = .ok (.istore 5, 2) := by decide +kernel
theorem dX4_digestOfClouds_5 : decode cX4_digestOfClouds 5 = .ok (.iload 5, 2) := by decide +kernel
theorem dX4_digestOfClouds_7 : decode cX4_digestOfClouds 7 = .ok (.aload_n 0, 1) := by decide +kernel
theorem dX4_digestOfClouds_8 : decode cX4_digestOfClouds 8 = .ok (.getfield 10, 3) := by decide +kernel
theorem dX4_digestOfClouds_11 : decode cX4_digestOfClouds 11 = .ok (.getfield 69, 3) := by decide +kernel
theorem dX4_digestOfClouds_14 : decode cX4_digestOfClouds 14 = .ok (.getfield 73, 3) := by decide +kernel
theorem dX4_digestOfClouds_17 : decode cX4_digestOfClouds 17 = .ok (.if_icmp .ge 46, 3) := by decide +kernel
theorem dX4_digestOfClouds_20 : decode cX4_digestOfClouds 20 = .ok (.iconst 0, 1) := by decide +kernel
theorem dX4_digestOfClouds_21 : decode cX4_digestOfClouds 21 = .ok (.istore 6, 2) := by decide +kernel
theorem dX4_digestOfClouds_23 : decode cX4_digestOfClouds 23 = .ok (.iload 6, 2) := by decide +kernel
theorem dX4_digestOfClouds_25 : decode cX4_digestOfClouds 25 = .ok (.iconst 4, 1) := by decide +kernel
theorem dX4_digestOfClouds_26 : decode cX4_digestOfClouds 26 = .ok (.if_icmp .ge 31, 3) := by decide +kernel
theorem dX4_digestOfClouds_29 : decode cX4_digestOfClouds 29 = .ok (.lload_n 3, 1) := by decide +kernel
theorem dX4_digestOfClouds_30 : decode cX4_digestOfClouds 30 = .ok (.ldc2_w 128, 3) := by decide +kernel
theorem dX4_digestOfClouds_33 : decode cX4_digestOfClouds 33 = .ok (.lmul, 1) := by decide +kernel
theorem dX4_digestOfClouds_34 : decode cX4_digestOfClouds 34 = .ok (.aload_n 0, 1) := by decide +kernel
theorem dX4_digestOfClouds_35 : decode cX4_digestOfClouds 35 = .ok (.getfield 10, 3) := by decide +kernel
theorem dX4_digestOfClouds_38 : decode cX4_digestOfClouds 38 = .ok (.getfield 69, 3) := by decide +kernel
theorem dX4_digestOfClouds_41 : decode cX4_digestOfClouds 41 = .ok (.iload 5, 2) := by decide +kernel
theorem dX4_digestOfClouds_43 : decode cX4_digestOfClouds 43 = .ok (.iload 6, 2) := by decide +kernel
theorem dX4_digestOfClouds_45 : decode cX4_digestOfClouds 45 = .ok (.invokevirtual 87, 3) := by decide +kernel
theorem dX4_digestOfClouds_48 : decode cX4_digestOfClouds 48 = .ok (.i2l, 1) := by decide +kernel
theorem dX4_digestOfClouds_49 : decode cX4_digestOfClouds 49 = .ok (.ladd, 1) := by decide +kernel
theorem dX4_digestOfClouds_50 : decode cX4_digestOfClouds 50 = .ok (.lstore_n 3, 1) := by decide +kernel
theorem dX4_digestOfClouds_51 : decode cX4_digestOfClouds 51 = .ok (.iinc 6 1, 3) := by decide +kernel
theorem dX4_digestOfClouds_54 : decode cX4_digestOfClouds 54 = .ok (.goto (-31), 3) := by decide +kernel
theorem dX4_digestOfClouds_57 : decode cX4_digestOfClouds 57 = .ok (.iinc 5 1, 3) := by decide +kernel
theorem dX4_digestOfClouds_60 : decode cX4_digestOfClouds 60 = .ok (.goto (-55), 3) := by decide +kernel
theorem dX4_digestOfClouds_63 : decode cX4_digestOfClouds 63 = .ok (.lload_n 3, 1) := by decide +kernel
theorem dX4_digestOfClouds_64 : decode cX4_digestOfClouds 64 = .ok (.lreturn, 1) := by decide +kernel
theorem dX4_lostWith_0 : decode cX4_lostWith 0 = .ok (.aload_n 0, 1) := by decide +kernel
theorem dX4_lostWith_1 : decode cX4_lostWith 1 = .ok (.getfield 16, 3) := by decide +kernel
theorem dX4_lostWith_4 : decode cX4_lostWith 4 = .ok (.aload_n 0, 1) := by decide +kernel
theorem dX4_lostWith_5 : decode cX4_lostWith 5 = .ok (.getfield 10, 3) := by decide +kernel
theorem dX4_lostWith_8 : decode cX4_lostWith 8 = .ok (.invokevirtual 100, 3) := by decide +kernel
theorem dX4_lostWith_11 : decode cX4_lostWith 11 = .ok (.aload_n 0, 1) := by decide +kernel
theorem dX4_lostWith_12 : decode cX4_lostWith 12 = .ok (.getfield 16, 3) := by decide +kernel
theorem dX4_lostWith_15 : decode cX4_lostWith 15 = .ok (.getfield 52, 3) := by decide +kernel
theorem dX4_lostWith_18 : decode cX4_lostWith 18 = .ok (.getfield 117, 3) := by decide +kernel
theorem dX4_lostWith_21 : decode cX4_lostWith 21 = .ok (.iload_n 1, 1) := by decide +kernel
theorem dX4_lostWith_22 : decode cX4_lostWith 22 = .ok (.iload_n 2, 1) := by decide +kernel
theorem dX4_lostWith_23 : decode cX4_lostWith 23 = .ok (.iastore, 1) := by decide +kernel
theorem dX4_lostWith_24 : decode cX4_lostWith 24 = .ok (.iconst 0, 1) := by decide +kernel
theorem dX4_lostWith_25 : decode cX4_lostWith 25 = .ok (.istore 4, 2) := by decide +kernel
theorem dX4_lostWith_27 : decode cX4_lostWith 27 = .ok (.iload 4, 2) := by decide +kernel
theorem dX4_lostWith_29 : decode cX4_lostWith 29 = .ok (.iload_n 3, 1) := by decide +kernel
theorem dX4_lostWith_30 : decode cX4_lostWith 30 = .ok (.if_icmp .ge 29, 3) := by decide +kernel
theorem dX4_lostWith_33 : decode cX4_lostWith 33 = .ok (.aload_n 0, 1) := by decide +kernel
theorem dX4_lostWith_34 : decode cX4_lostWith 34 = .ok (.getfield 16, 3) := by decide +kernel
theorem dX4_lostWith_37 : decode cX4_lostWith 37 = .ok (.getfield 69, 3) := by decide +kernel
theorem dX4_lostWith_40 : decode cX4_lostWith 40 = .ok (.invokevirtual 107, 3) := by decide +kernel
theorem dX4_lostWith_43 : decode cX4_lostWith 43 = .ok (.ifCond .eq 16, 3) := by decide +kernel
theorem dX4_lostWith_46 : decode cX4_lostWith 46 = .ok (.aload_n 0, 1) := by decide +kernel
theorem dX4_lostWith_47 : decode cX4_lostWith 47 = .ok (.getfield 16, 3) := by decide +kernel
theorem dX4_lostWith_50 : decode cX4_lostWith 50 = .ok (.invokevirtual 111, 3) := by decide +kernel
theorem dX4_lostWith_53 : decode cX4_lostWith 53 = .ok (.iinc 4 1, 3) := by decide +kernel
theorem dX4_lostWith_56 : decode cX4_lostWith 56 = .ok (.goto (-29), 3) := by decide +kernel
theorem dX4_lostWith_59 : decode cX4_lostWith 59 = .ok (.aload_n 0, 1) := by decide +kernel
theorem dX4_lostWith_60 : decode cX4_lostWith 60 = .ok (.getfield 16, 3) := by decide +kernel
theorem dX4_lostWith_63 : decode cX4_lostWith 63 = .ok (.getfield 27, 3) := by decide +kernel
theorem dX4_lostWith_66 : decode cX4_lostWith 66 = .ok (.invokevirtual 92, 3) := by decide +kernel
theorem dX4_lostWith_69 : decode cX4_lostWith 69 = .ok (.ireturn, 1) := by decide +kernel
theorem dX4_isPlace_0 : decode cX4_isPlace 0 = .ok (.iload_n 0, 1) := by decide +kernel
theorem dX4_isPlace_1 : decode cX4_isPlace 1 = .ok (.ifCond .lt 13, 3) := by decide +kernel
theorem dX4_isPlace_4 : decode cX4_isPlace 4 = .ok (.iload_n 0, 1) := by decide +kernel
theorem dX4_isPlace_5 : decode cX4_isPlace 5 = .ok (.bipush 30, 2) := by decide +kernel
theorem dX4_isPlace_7 : decode cX4_isPlace 7 = .ok (.if_icmp .ge 7, 3) := by decide +kernel
theorem dX4_isPlace_10 : decode cX4_isPlace 10 = .ok (.iconst 1, 1) := by decide +kernel
theorem dX4_isPlace_11 : decode cX4_isPlace 11 = .ok (.goto 4, 3) := by decide +kernel
theorem dX4_isPlace_14 : decode cX4_isPlace 14 = .ok (.iconst 0, 1) := by decide +kernel
theorem dX4_isPlace_15 : decode cX4_isPlace 15 = .ok (.ireturn, 1) := by decide +kernel
theorem dX4_requireArgument_0 : decode cX4_requireArgument 0 = .ok (.iload_n 0, 1) := by decide +kernel
theorem dX4_requireArgument_1 : decode cX4_requireArgument 1 = .ok (.ifCond .ne 11, 3) := by decide +kernel
theorem dX4_requireArgument_4 : decode cX4_requireArgument 4 = .ok (.new 140, 3) := by decide +kernel
theorem dX4_requireArgument_7 : decode cX4_requireArgument 7 = .ok (.dup, 1) := by decide +kernel
theorem dX4_requireArgument_8 : decode cX4_requireArgument 8 = .ok (.invokespecial 142, 3) := by decide +kernel
theorem dX4_requireArgument_11 : decode cX4_requireArgument 11 = .ok (.athrow, 1) := by decide +kernel
theorem dX4_requireArgument_12 : decode cX4_requireArgument 12 = .ok (.return_, 1) := by decide +kernel
theorem dX4_requireState_0 : decode cX4_requireState 0 = .ok (.iload_n 0, 1) := by decide +kernel
theorem dX4_requireState_1 : decode cX4_requireState 1 = .ok (.ifCond .ne 11, 3) := by decide +kernel
theorem dX4_requireState_4 : decode cX4_requireState 4 = .ok (.new 143, 3) := by decide +kernel
theorem dX4_requireState_7 : decode cX4_requireState 7 = .ok (.dup, 1) := by decide +kernel
theorem dX4_requireState_8 : decode cX4_requireState 8 = .ok (.invokespecial 145, 3) := by decide +kernel
theorem dX4_requireState_11 : decode cX4_requireState 11 = .ok (.athrow, 1) := by decide +kernel
theorem dX4_requireState_12 : decode cX4_requireState 12 = .ok (.return_, 1) := by decide +kernel
theorem dX4_requireIndex_0 : decode cX4_requireIndex 0 = .ok (.iload_n 0, 1) := by decide +kernel
theorem dX4_requireIndex_1 : decode cX4_requireIndex 1 = .ok (.ifCond .lt 8, 3) := by decide +kernel
theorem dX4_requireIndex_4 : decode cX4_requireIndex 4 = .ok (.iload_n 0, 1) := by decide +kernel
theorem dX4_requireIndex_5 : decode cX4_requireIndex 5 = .ok (.iload_n 1, 1) := by decide +kernel
theorem dX4_requireIndex_6 : decode cX4_requireIndex 6 = .ok (.if_icmp .lt 11, 3) := by decide +kernel
theorem dX4_requireIndex_9 : decode cX4_requireIndex 9 = .ok (.new 146, 3) := by decide +kernel
theorem dX4_requireIndex_12 : decode cX4_requireIndex 12 = .ok (.dup, 1) := by decide +kernel
theorem dX4_requireIndex_13 : decode cX4_requireIndex 13 = .ok (.invokespecial 148, 3) := by decide +kernel
theorem dX4_requireIndex_16 : decode cX4_requireIndex 16 = .ok (.athrow, 1) := by decide +kernel
theorem dX4_requireIndex_17 : decode cX4_requireIndex 17 = .ok (.return_, 1) := by decide +kernel
theorem dX4_requireForeseen_0 : decode cX4_requireForeseen 0 = .ok (.iload_n 0, 1) := by decide +kernel
theorem dX4_requireForeseen_1 : decode cX4_requireForeseen 1 = .ok (.iconst 2, 1) := by decide +kernel
theorem dX4_requireForeseen_2 : decode cX4_requireForeseen 2 = .ok (.if_icmp .eq 32, 3) := by decide +kernel
theorem dX4_requireForeseen_5 : decode cX4_requireForeseen 5 = .ok (.iload_n 0, 1) := by decide +kernel
theorem dX4_requireForeseen_6 : decode cX4_requireForeseen 6 = .ok (.iconst 3, 1) := by decide +kernel
theorem dX4_requireForeseen_7 : decode cX4_requireForeseen 7 = .ok (.if_icmp .eq 27, 3) := by decide +kernel
theorem dX4_requireForeseen_10 : decode cX4_requireForeseen 10 = .ok (.iload_n 0, 1) := by decide +kernel
theorem dX4_requireForeseen_11 : decode cX4_requireForeseen 11 = .ok (.iconst 4, 1) := by decide +kernel
theorem dX4_requireForeseen_12 : decode cX4_requireForeseen 12 = .ok (.if_icmp .eq 22, 3) := by decide +kernel
theorem dX4_requireForeseen_15 : decode cX4_requireForeseen 15 = .ok (.iload_n 0, 1) := by decide +kernel
theorem dX4_requireForeseen_16 : decode cX4_requireForeseen 16 = .ok (.iconst 5, 1) := by decide +kernel
theorem dX4_requireForeseen_17 : decode cX4_requireForeseen 17 = .ok (.if_icmp .eq 17, 3) := by decide +kernel
theorem dX4_requireForeseen_20 : decode cX4_requireForeseen 20 = .ok (.iload_n 0, 1) := by decide +kernel
theorem dX4_requireForeseen_21 : decode cX4_requireForeseen 21 = .ok (.bipush 8, 2) := by decide +kernel
theorem dX4_requireForeseen_23 : decode cX4_requireForeseen 23 = .ok (.if_icmp .eq 11, 3) := by decide +kernel
theorem dX4_requireForeseen_26 : decode cX4_requireForeseen 26 = .ok (.new 146, 3) := by decide +kernel
theorem dX4_requireForeseen_29 : decode cX4_requireForeseen 29 = .ok (.dup, 1) := by decide +kernel
theorem dX4_requireForeseen_30 : decode cX4_requireForeseen 30 = .ok (.invokespecial 148, 3) := by decide +kernel
theorem dX4_requireForeseen_33 : decode cX4_requireForeseen 33 = .ok (.athrow, 1) := by decide +kernel
theorem dX4_requireForeseen_34 : decode cX4_requireForeseen 34 = .ok (.return_, 1) := by decide +kernel
end
section
theorem dX5_init_0 : decode cX5_init 0 = .ok (.aload_n 0, 1) := by decide +kernel
theorem dX5_init_1 : decode cX5_init 1 = .ok (.aload_n 1, 1) := by decide +kernel
theorem dX5_init_2 : decode cX5_init 2 = .ok (.putfield 3, 3) := by decide +kernel
theorem dX5_init_5 : decode cX5_init 5 = .ok (.aload_n 0, 1) := by decide +kernel
theorem dX5_init_6 : decode cX5_init 6 = .ok (.invokespecial 9, 3) := by decide +kernel
theorem dX5_init_9 : decode cX5_init 9 = .ok (.aload_n 0, 1) := by decide +kernel
theorem dX5_init_10 : decode cX5_init 10 = .ok (.bipush 50, 2) := by decide +kernel
theorem dX5_init_12 : decode cX5_init 12 = .ok (.putfield 15, 3) := by decide +kernel
theorem dX5_init_15 : decode cX5_init 15 = .ok (.aload_n 0, 1) := by decide +kernel
theorem dX5_init_16 : decode cX5_init 16 = .ok (.bipush 10, 2) := by decide +kernel
theorem dX5_init_18 : decode cX5_init 18 = .ok (.newarray .int, 2) := by decide +kernel
theorem dX5_init_20 : decode cX5_init 20 = .ok (.putfield 19, 3) := by decide +kernel
theorem dX5_init_23 : decode cX5_init 23 = .ok (.aload_n 0, 1) := by decide +kernel
theorem dX5_init_24 : decode cX5_init 24 = .ok (.bipush 10, 2) := by decide +kernel
theorem dX5_init_26 : decode cX5_init 26 = .ok (.newarray .int, 2) := by decide +kernel
theorem dX5_init_28 : decode cX5_init 28 = .ok (.putfield 23, 3) := by decide +kernel
theorem dX5_init_31 : decode cX5_init 31 = .ok (.aload_n 0, 1) := by decide +kernel
theorem dX5_init_32 : decode cX5_init 32 = .ok (.bipush 10, 2) := by decide +kernel
theorem dX5_init_34 : decode cX5_init 34 = .ok (.newarray .int, 2) := by decide +kernel
theorem dX5_init_36 : decode cX5_init 36 = .ok (.putfield 26, 3) := by decide +kernel
theorem dX5_init_39 : decode cX5_init 39 = .ok (.aload_n 0, 1) := by decide +kernel
theorem dX5_init_40 : decode cX5_init 40 = .ok (.bipush 10, 2) := by decide +kernel
theorem dX5_init_42 : decode cX5_init 42 = .ok (.newarray .int, 2) := by decide +kernel
theorem dX5_init_44 : decode cX5_init 44 = .ok (.putfield 29, 3) := by decide +kernel
theorem dX5_init_47 : decode cX5_init 47 = .ok (.aload_n 0, 1) := by decide +kernel
theorem dX5_init_48 : decode cX5_init 48 = .ok (.bipush 6, 2) := by decide +kernel
theorem dX5_init_50 : decode cX5_init 50 = .ok (.newarray .int, 2) := by decide +kernel
theorem dX5_init_52 : decode cX5_init 52 = .ok (.putfield 32, 3) := by decide +kernel
theorem dX5_init_55 : decode cX5_init 55 = .ok (.aload_n 0, 1) := by decide +kernel
theorem dX5_init_56 : decode cX5_init 56 = .ok (.bipush 6, 2) := by decide +kernel
theorem dX5_init_58 : decode cX5_init 58 = .ok (.newarray .int, 2) := by decide +kernel
theorem dX5_init_60 : decode cX5_init 60 = .ok (.putfield 35, 3) := by decide +kernel
theorem dX5_init_63 : decode cX5_init 63 = .ok (.aload_n 0, 1) := by decide +kernel
theorem dX5_init_64 : decode cX5_init 64 = .ok (.bipush 6, 2) := by decide +kernel
theorem dX5_init_66 : decode cX5_init 66 = .ok (.newarray .int, 2) := by decide +kernel
theorem dX5_init_68 : decode cX5_init 68 = .ok (.putfield 38, 3) := by decide +kernel
theorem dX5_init_71 : decode cX5_init 71 = .ok (.aload_n 0, 1) := by decide +kernel
theorem dX5_init_72 : decode cX5_init 72 = .ok (.bipush 20, 2) := by decide +kernel
theorem dX5_init_74 : decode cX5_init 74 = .ok (.newarray .int, 2) := by decide +kernel
theorem dX5_init_76 : decode cX5_init 76 = .ok (.putfield 41, 3) := by decide +kernel
theorem dX5_init_79 : decode cX5_init 79 = .ok (.aload_n 0, 1) := by decide +kernel
theorem dX5_init_80 : decode cX5_init 80 = .ok (.bipush 20, 2) := by decide +kernel
theorem dX5_init_82 : decode cX5_init 82 = .ok (.newarray .int, 2) := by decide +kernel
theorem dX5_init_84 : decode cX5_init 84 = .ok (.putfield 44, 3) := by decide +kernel
theorem dX5_init_87 : decode cX5_init 87 = .ok (.return_, 1) := by decide +kernel
theorem dX5_copy_0 : decode cX5_copy 0 = .ok (.aload_n 1, 1) := by decide +kernel
theorem dX5_copy_1 : decode cX5_copy 1 = .ok (.iconst 0, 1) := by decide +kernel
theorem dX5_copy_2 : decode cX5_copy 2 = .ok (.aload_n 2, 1) := by decide +kernel
theorem dX5_copy_3 : decode cX5_copy 3 = .ok (.iconst 0, 1) := by decide +kernel
theorem dX5_copy_4 : decode cX5_copy 4 = .ok (.aload_n 1, 1) := by decide +kernel
theorem dX5_copy_5 : decode cX5_copy 5 = .ok (.arraylength, 1) := by decide +kernel
theorem dX5_copy_6 : decode cX5_copy 6 = .ok (.invokestatic 47, 3) := by decide +kernel
theorem dX5_copy_9 : decode cX5_copy 9 = .ok (.return_, 1) := by decide +kernel
theorem dX5_become_0 : decode cX5_become 0 = .ok (.aload_n 0, 1) := by decide +kernel
theorem dX5_become_1 : decode cX5_become 1 = .ok (.aload_n 1, 1) := by decide +kernel
theorem dX5_become_2 : decode cX5_become 2 = .ok (.getfield 53, 3) := by decide +kernel
theorem dX5_become_5 : decode cX5_become 5 = .ok (.putfield 53, 3) := by decide +kernel
theorem dX5_become_8 : decode cX5_become 8 = .ok (.aload_n 0, 1) := by decide +kernel
theorem dX5_become_9 : decode cX5_become 9 = .ok (.aload_n 1, 1) := by decide +kernel
theorem dX5_become_10 : decode cX5_become 10 = .ok (.getfield 15, 3) := by decide +kernel
theorem dX5_become_13 : decode cX5_become 13 = .ok (.putfield 15, 3) := by decide +kernel
theorem dX5_become_16 : decode cX5_become 16 = .ok (.aload_n 0, 1) := by decide +kernel
theorem dX5_become_17 : decode cX5_become 17 = .ok (.aload_n 1, 1) := by decide +kernel
theorem dX5_become_18 : decode cX5_become 18 = .ok (.getfield 19, 3) := by decide +kernel
theorem dX5_become_21 : decode cX5_become 21 = .ok (.aload_n 0, 1) := by decide +kernel
theorem dX5_become_22 : decode cX5_become 22 = .ok (.getfield 19, 3) := by decide +kernel
theorem dX5_become_25 : decode cX5_become 25 = .ok (.invokevirtual 56, 3) := by decide +kernel
theorem dX5_become_28 : decode cX5_become 28 = .ok (.aload_n 0, 1) := by decide +kernel
theorem dX5_become_29 : decode cX5_become 29 = .ok (.aload_n 1, 1) := by decide +kernel
theorem dX5_become_30 : decode cX5_become 30 = .ok (.getfield 23, 3) := by decide +kernel
theorem dX5_become_33 : decode cX5_become 33 = .ok (.aload_n 0, 1) := by decide +kernel
theorem dX5_become_34 : decode cX5_become 34 = .ok (.getfield 23, 3) := by decide +kernel
theorem dX5_become_37 : decode cX5_become 37 = .ok (.invokevirtual 56, 3) := by decide +kernel
theorem dX5_become_40 : decode cX5_become 40 = .ok (.aload_n 0, 1) := by decide +kernel
theorem dX5_become_41 : decode cX5_become 41 = .ok (.aload_n 1, 1) := by decide +kernel
theorem dX5_become_42 : decode cX5_become 42 = .ok (.getfield 26, 3) := by decide +kernel
theorem dX5_become_45 : decode cX5_become 45 = .ok (.aload_n 0, 1) := by decide +kernel
theorem dX5_become_46 : decode cX5_become 46 = .ok (.getfield 26, 3) := by decide +kernel
theorem dX5_become_49 : decode cX5_become 49 = .ok (.invokevirtual 56, 3) := by decide +kernel
theorem dX5_become_52 : decode cX5_become 52 = .ok (.aload_n 0, 1) := by decide +kernel
theorem dX5_become_53 : decode cX5_become 53 = .ok (.aload_n 1, 1) := by decide +kernel
theorem dX5_become_54 : decode cX5_become 54 = .ok (.getfield 29, 3) := by decide +kernel
theorem dX5_become_57 : decode cX5_become 57 = .ok (.aload_n 0, 1) := by decide +kernel
theorem dX5_become_58 : decode cX5_become 58 = .ok (.getfield 29, 3) := by decide +kernel
theorem dX5_become_61 : decode cX5_become 61 = .ok (.invokevirtual 56, 3) := by decide +kernel
theorem dX5_become_64 : decode cX5_become 64 = .ok (.aload_n 0, 1) := by decide +kernel
theorem dX5_become_65 : decode cX5_become 65 = .ok (.aload_n 1, 1) := by decide +kernel
theorem dX5_become_66 : decode cX5_become 66 = .ok (.getfield 32, 3) := by decide +kernel
theorem dX5_become_69 : decode cX5_become 69 = .ok (.aload_n 0, 1) := by decide +kernel
theorem dX5_become_70 : decode cX5_become 70 = .ok (.getfield 32, 3) := by decide +kernel
theorem dX5_become_73 : decode cX5_become 73 = .ok (.invokevirtual 56, 3) := by decide +kernel
theorem dX5_become_76 : decode cX5_become 76 = .ok (.aload_n 0, 1) := by decide +kernel
theorem dX5_become_77 : decode cX5_become 77 = .ok (.aload_n 1, 1) := by decide +kernel
theorem dX5_become_78 : decode cX5_become 78 = .ok (.getfield 35, 3) := by decide +kernel
theorem dX5_become_81 : decode cX5_become 81 = .ok (.aload_n 0, 1) := by decide +kernel
theorem dX5_become_82 : decode cX5_become 82 = .ok (.getfield 35, 3) := by decide +kernel
theorem dX5_become_85 : decode cX5_become 85 = .ok (.invokevirtual 56, 3) := by decide +kernel
theorem dX5_become_88 : decode cX5_become 88 = .ok (.aload_n 0, 1) := by decide +kernel
theorem dX5_become_89 : decode cX5_become 89 = .ok (.aload_n 1, 1) := by decide +kernel
theorem dX5_become_90 : decode cX5_become 90 = .ok (.getfield 38, 3) := by decide +kernel
theorem dX5_become_93 : decode cX5_become 93 = .ok (.aload_n 0, 1) := by decide +kernel
theorem dX5_become_94 : decode cX5_become 94 = .ok (.getfield 38, 3) := by decide +kernel
theorem dX5_become_97 : decode cX5_become 97 = .ok (.invokevirtual 56, 3) := by decide +kernel
theorem dX5_become_100 : decode cX5_become 100 = .ok (.aload_n 0, 1) := by decide +kernel
theorem dX5_become_101 : decode cX5_become 101 = .ok (.aload_n 1, 1) := by decide +kernel
theorem dX5_become_102 : decode cX5_become 102 = .ok (.getfield 41, 3) := by decide +kernel
theorem dX5_become_105 : decode cX5_become 105 = .ok (.aload_n 0, 1) := by decide +kernel
theorem dX5_become_106 : decode cX5_become 106 = .ok (.getfield 41, 3) := by decide +kernel
theorem dX5_become_109 : decode cX5_become 109 = .ok (.invokevirtual 56, 3) := by decide +kernel
theorem dX5_become_112 : decode cX5_become 112 = .ok (.aload_n 0, 1) := by decide +kernel
theorem dX5_become_113 : decode cX5_become 113 = .ok (.aload_n 1, 1) := by decide +kernel
theorem dX5_become_114 : decode cX5_become 114 = .ok (.getfield 44, 3) := by decide +kernel
theorem dX5_become_117 : decode cX5_become 117 = .ok (.aload_n 0, 1) := by decide +kernel
theorem dX5_become_118 : decode cX5_become 118 = .ok (.getfield 44, 3) := by decide +kernel
theorem dX5_become_121 : decode cX5_become 121 = .ok (.invokevirtual 56, 3) := by decide +kernel
theorem dX5_become_124 : decode cX5_become 124 = .ok (.return_, 1) := by decide +kernel
theorem dX5_isGone_0 : decode cX5_isGone 0 = .ok (.aload_n 0, 1) := by decide +kernel
theorem dX5_isGone_1 : decode cX5_isGone 1 = .ok (.getfield 41, 3) := by decide +kernel
theorem dX5_isGone_4 : decode cX5_isGone 4 = .ok (.iload_n 1, 1) := by decide +kernel
theorem dX5_isGone_5 : decode cX5_isGone 5 = .ok (.iaload, 1) := by decide +kernel
theorem dX5_isGone_6 : decode cX5_isGone 6 = .ok (.invokestatic 60, 3) := by decide +kernel
theorem dX5_isGone_9 : decode cX5_isGone 9 = .ok (.ifCond .ne 7, 3) := by decide +kernel
theorem dX5_isGone_12 : decode cX5_isGone 12 = .ok (.iconst 1, 1) := by decide +kernel
theorem dX5_isGone_13 : decode cX5_isGone 13 = .ok (.goto 4, 3) := by decide +kernel
theorem dX5_isGone_16 : decode cX5_isGone 16 = .ok (.iconst 0, 1) := by decide +kernel
theorem dX5_isGone_17 : decode cX5_isGone 17 = .ok (.ireturn, 1) := by decide +kernel
theorem dX5_far_0 : decode cX5_far 0 = .ok (.aload_n 0, 1) := by decide +kernel
theorem dX5_far_1 : decode cX5_far 1 = .ok (.getfield 32, 3) := by decide +kernel
theorem dX5_far_4 : decode cX5_far 4 = .ok (.iload_n 1, 1) := by decide +kernel
theorem dX5_far_5 : decode cX5_far 5 = .ok (.iaload, 1) := by decide +kernel
theorem dX5_far_6 : decode cX5_far 6 = .ok (.aload_n 0, 1) := by decide +kernel
theorem dX5_far_7 : decode cX5_far 7 = .ok (.getfield 41, 3) := by decide +kernel
theorem dX5_far_10 : decode cX5_far 10 = .ok (.iload_n 2, 1) := by decide +kernel
theorem dX5_far_11 : decode cX5_far 11 = .ok (.iaload, 1) := by decide +kernel
theorem dX5_far_12 : decode cX5_far 12 = .ok (.isub, 1) := by decide +kernel
theorem dX5_far_13 : decode cX5_far 13 = .ok (.invokestatic 64, 3) := by decide +kernel
theorem dX5_far_16 : decode cX5_far 16 = .ok (.ireturn, 1) := by decide +kernel
theorem dX5_aims_0 : decode cX5_aims 0 = .ok (.iconst (-1), 1) := by decide +kernel
theorem dX5_aims_1 : decode cX5_aims 1 = .ok (.istore_n 2, 1) := by decide +kernel
theorem dX5_aims_2 : decode cX5_aims 2 = .ok (.iconst 0, 1) := by decide +kernel
theorem dX5_aims_3 : decode cX5_aims 3 = .ok (.istore_n 3, 1) := by decide +kernel
theorem dX5_aims_4 : decode cX5_aims 4 = .ok (.iload_n 3, 1) := by decide +kernel
theorem dX5_aims_5 : decode cX5_aims 5 = .ok (.aload_n 0, 1) := by decide +kernel
theorem dX5_aims_6 : decode cX5_aims 6 = .ok (.getfield 3, 3) := by decide +kernel
theorem dX5_aims_9 : decode cX5_aims 9 = .ok (.getfield 70, 3) := by decide +kernel
theorem dX5_aims_12 : decode cX5_aims 12 = .ok (.if_icmp .ge 78, 3) := by decide +kernel
theorem dX5_aims_15 : decode cX5_aims 15 = .ok (.aload_n 0, 1) := by decide +kernel
theorem dX5_aims_16 : decode cX5_aims 16 = .ok (.getfield 35, 3) := by decide +kernel
theorem dX5_aims_19 : decode cX5_aims 19 = .ok (.iload_n 1, 1) := by decide +kernel
theorem dX5_aims_20 : decode cX5_aims 20 = .ok (.iaload, 1) := by decide +kernel
theorem dX5_aims_21 : decode cX5_aims 21 = .ok (.ifCond .le 69, 3) := by decide +kernel
theorem dX5_aims_24 : decode cX5_aims 24 = .ok (.aload_n 0, 1) := by decide +kernel
theorem dX5_aims_25 : decode cX5_aims 25 = .ok (.iload_n 3, 1) := by decide +kernel
theorem dX5_aims_26 : decode cX5_aims 26 = .ok (.invokevirtual 73, 3) := by decide +kernel
theorem dX5_aims_29 : decode cX5_aims 29 = .ok (.ifCond .ne 55, 3) := by decide +kernel
theorem dX5_aims_32 : decode cX5_aims 32 = .ok (.aload_n 0, 1) := by decide +kernel
theorem dX5_aims_33 : decode cX5_aims 33 = .ok (.getfield 44, 3) := by decide +kernel
theorem dX5_aims_36 : decode cX5_aims 36 = .ok (.iload_n 3, 1) := by decide +kernel
theorem dX5_aims_37 : decode cX5_aims 37 = .ok (.iaload, 1) := by decide +kernel
theorem dX5_aims_38 : decode cX5_aims 38 = .ok (.ifCond .eq 46, 3) := by decide +kernel
theorem dX5_aims_41 : decode cX5_aims 41 = .ok (.aload_n 0, 1) := by decide +kernel
theorem dX5_aims_42 : decode cX5_aims 42 = .ok (.iload_n 1, 1) := by decide +kernel
theorem dX5_aims_43 : decode cX5_aims 43 = .ok (.iload_n 3, 1) := by decide +kernel
theorem dX5_aims_44 : decode cX5_aims 44 = .ok (.invokevirtual 76, 3) := by decide +kernel
theorem dX5_aims_47 : decode cX5_aims 47 = .ok (.aload_n 0, 1) := by decide +kernel
theorem dX5_aims_48 : decode cX5_aims 48 = .ok (.getfield 3, 3) := by decide +kernel
theorem dX5_aims_51 : decode cX5_aims 51 = .ok (.getfield 80, 3) := by decide +kernel
theorem dX5_aims_54 : decode cX5_aims 54 = .ok (.iload_n 1, 1) := by decide +kernel
theorem dX5_aims_55 : decode cX5_aims 55 = .ok (.iaload, 1) := by decide +kernel
theorem dX5_aims_56 : decode cX5_aims 56 = .ok (.if_icmp .gt 28, 3) := by decide +kernel
theorem dX5_aims_59 : decode cX5_aims 59 = .ok (.iload_n 2, 1) := by decide +kernel
theorem dX5_aims_60 : decode cX5_aims 60 = .ok (.iconst (-1), 1) := by decide +kernel
theorem dX5_aims_61 : decode cX5_aims 61 = .ok (.if_icmp .eq 21, 3) := by decide +kernel
theorem dX5_aims_64 : decode cX5_aims 64 = .ok (.aload_n 0, 1) := by decide +kernel
theorem dX5_aims_65 : decode cX5_aims 65 = .ok (.iload_n 1, 1) := by decide +kernel
theorem dX5_aims_66 : decode cX5_aims 66 = .ok (.iload_n 3, 1) := by decide +kernel
theorem dX5_aims_67 : decode cX5_aims 67 = .ok (.invokevirtual 76, 3) := by decide +kernel
theorem dX5_aims_70 : decode cX5_aims 70 = .ok (.aload_n 0, 1) := by decide +kernel
theorem dX5_aims_71 : decode cX5_aims 71 = .ok (.iload_n 1, 1) := by decide +kernel
theorem dX5_aims_72 : decode cX5_aims 72 = .ok (.iload_n 2, 1) := by decide +kernel
theorem dX5_aims_73 : decode cX5_aims 73 = .ok (.invokevirtual 76, 3) := by decide +kernel
theorem dX5_aims_76 : decode cX5_aims 76 = .ok (.if_icmp .lt 6, 3) := by decide +kernel
theorem dX5_aims_79 : decode cX5_aims 79 = .ok (.goto 5, 3) := by decide +kernel
theorem dX5_aims_82 : decode cX5_aims 82 = .ok (.iload_n 3, 1) := by decide +kernel
theorem dX5_aims_83 : decode cX5_aims 83 = .ok (.istore_n 2, 1) := by decide +kernel
theorem dX5_aims_84 : decode cX5_aims 84 = .ok (.iinc 3 1, 3) := by decide +kernel
theorem dX5_aims_87 : decode cX5_aims 87 = .ok (.goto (-83), 3) := by decide +kernel
theorem dX5_aims_90 : decode cX5_aims 90 = .ok (.iload_n 2, 1) := by decide +kernel
theorem dX5_aims_91 : decode cX5_aims 91 = .ok (.ireturn, 1) := by decide +kernel
theorem dX5_shoot_0 : decode cX5_shoot 0 = .ok (.aload_n 0, 1) := by decide +kernel
theorem dX5_shoot_1 : decode cX5_shoot 1 = .ok (.iload_n 1, 1) := by decide +kernel
theorem dX5_shoot_2 : decode cX5_shoot 2 = .ok (.invokevirtual 83, 3) := by decide +kernel
theorem dX5_shoot_5 : decode cX5_shoot 5 = .ok (.istore_n 2, 1) := by decide +kernel
theorem dX5_shoot_6 : decode cX5_shoot 6 = .ok (.iload_n 2, 1) := by decide +kernel
theorem dX5_shoot_7 : decode cX5_shoot 7 = .ok (.iconst (-1), 1) := by decide +kernel
theorem dX5_shoot_8 : decode cX5_shoot 8 = .ok (.if_icmp .ne 4, 3) := by decide +kernel
theorem dX5_shoot_11 : decode cX5_shoot 11 = .ok (.return_, 1) := by decide +kernel
theorem dX5_shoot_12 : decode cX5_shoot 12 = .ok (.aload_n 0, 1) := by decide +kernel
theorem dX5_shoot_13 : decode cX5_shoot 13 = .ok (.getfield 35, 3) := by decide +kernel
theorem dX5_shoot_16 : decode cX5_shoot 16 = .ok (.iload_n 1, 1) := by decide +kernel
theorem dX5_shoot_17 : decode cX5_shoot 17 = .ok (.dup2, 1) := by decide +kernel
theorem dX5_shoot_18 : decode cX5_shoot 18 = .ok (.iaload, 1) := by decide +kernel
theorem dX5_shoot_19 : decode cX5_shoot 19 = .ok (.iconst 1, 1) := by decide +kernel
theorem dX5_shoot_20 : decode cX5_shoot 20 = .ok (.isub, 1) := by decide +kernel
theorem dX5_shoot_21 : decode cX5_shoot 21 = .ok (.iastore, 1) := by decide +kernel
theorem dX5_shoot_22 : decode cX5_shoot 22 = .ok (.aload_n 0, 1) := by decide +kernel
theorem dX5_shoot_23 : decode cX5_shoot 23 = .ok (.getfield 38, 3) := by decide +kernel
theorem dX5_shoot_26 : decode cX5_shoot 26 = .ok (.iload_n 1, 1) := by decide +kernel
theorem dX5_shoot_27 : decode cX5_shoot 27 = .ok (.dup2, 1) := by decide +kernel
theorem dX5_shoot_28 : decode cX5_shoot 28 = .ok (.iaload, 1) := by decide +kernel
theorem dX5_shoot_29 : decode cX5_shoot 29 = .ok (.iconst 1, 1) := by decide +kernel
theorem dX5_shoot_30 : decode cX5_shoot 30 = .ok (.iadd, 1) := by decide +kernel
theorem dX5_shoot_31 : decode cX5_shoot 31 = .ok (.iastore, 1) := by decide +kernel
theorem dX5_shoot_32 : decode cX5_shoot 32 = .ok (.aload_n 0, 1) := by decide +kernel
theorem dX5_shoot_33 : decode cX5_shoot 33 = .ok (.getfield 44, 3) := by decide +kernel
theorem dX5_shoot_36 : decode cX5_shoot 36 = .ok (.iload_n 2, 1) := by decide +kernel
theorem dX5_shoot_37 : decode cX5_shoot 37 = .ok (.iconst 0, 1) := by decide +kernel
theorem dX5_shoot_38 : decode cX5_shoot 38 = .ok (.aload_n 0, 1) := by decide +kernel
theorem dX5_shoot_39 : decode cX5_shoot 39 = .ok (.getfield 44, 3) := by decide +kernel
theorem dX5_shoot_42 : decode cX5_shoot 42 = .ok (.iload_n 2, 1) := by decide +kernel
theorem dX5_shoot_43 : decode cX5_shoot 43 = .ok (.iaload, 1) := by decide +kernel
theorem dX5_shoot_44 : decode cX5_shoot 44 = .ok (.aload_n 0, 1) := by decide +kernel
theorem dX5_shoot_45 : decode cX5_shoot 45 = .ok (.getfield 3, 3) := by decide +kernel
theorem dX5_shoot_48 : decode cX5_shoot 48 = .ok (.getfield 80, 3) := by decide +kernel
theorem dX5_shoot_51 : decode cX5_shoot 51 = .ok (.iload_n 1, 1) := by decide +kernel
theorem dX5_shoot_52 : decode cX5_shoot 52 = .ok (.iaload, 1) := by decide +kernel
theorem dX5_shoot_53 : decode cX5_shoot 53 = .ok (.iconst 1, 1) := by decide +kernel
theorem dX5_shoot_54 : decode cX5_shoot 54 = .ok (.iadd, 1) := by decide +kernel
theorem dX5_shoot_55 : decode cX5_shoot 55 = .ok (.aload_n 0, 1) := by decide +kernel
theorem dX5_shoot_56 : decode cX5_shoot 56 = .ok (.iload_n 1, 1) := by decide +kernel
theorem dX5_shoot_57 : decode cX5_shoot 57 = .ok (.iload_n 2, 1) := by decide +kernel
theorem dX5_shoot_58 : decode cX5_shoot 58 = .ok (.invokevirtual 76, 3) := by decide +kernel
theorem dX5_shoot_61 : decode cX5_shoot 61 = .ok (.isub, 1) := by decide +kernel
theorem dX5_shoot_62 : decode cX5_shoot 62 = .ok (.isub, 1) := by decide +kernel
theorem dX5_shoot_63 : decode cX5_shoot 63 = .ok (.invokestatic 86, 3) := by decide +kernel
theorem dX5_shoot_66 : decode cX5_shoot 66 = .ok (.iastore, 1) := by decide +kernel
theorem dX5_shoot_67 : decode cX5_shoot 67 = .ok (.iconst 0, 1) := by decide +kernel
theorem dX5_shoot_68 : decode cX5_shoot 68 = .ok (.istore_n 3, 1) := by decide +kernel
theorem dX5_shoot_69 : decode cX5_shoot 69 = .ok (.iload_n 3, 1) := by decide +kernel
theorem dX5_shoot_70 : decode cX5_shoot 70 = .ok (.aload_n 0, 1) := by decide +kernel
theorem dX5_shoot_71 : decode cX5_shoot 71 = .ok (.getfield 3, 3) := by decide +kernel
theorem dX5_shoot_74 : decode cX5_shoot 74 = .ok (.getfield 89, 3) := by decide +kernel
theorem dX5_shoot_77 : decode cX5_shoot 77 = .ok (.if_icmp .ge 54, 3) := by decide +kernel
theorem dX5_shoot_80 : decode cX5_shoot 80 = .ok (.aload_n 0, 1) := by decide +kernel
theorem dX5_shoot_81 : decode cX5_shoot 81 = .ok (.getfield 3, 3) := by decide +kernel
theorem dX5_shoot_84 : decode cX5_shoot 84 = .ok (.getfield 92, 3) := by decide +kernel
theorem dX5_shoot_87 : decode cX5_shoot 87 = .ok (.iload_n 3, 1) := by decide +kernel
theorem dX5_shoot_88 : decode cX5_shoot 88 = .ok (.iaload, 1) := by decide +kernel
theorem dX5_shoot_89 : decode cX5_shoot 89 = .ok (.ifCond .ne 36, 3) := by decide +kernel
theorem dX5_shoot_92 : decode cX5_shoot 92 = .ok (.aload_n 0, 1) := by decide +kernel
theorem dX5_shoot_93 : decode cX5_shoot 93 = .ok (.getfield 3, 3) := by decide +kernel
theorem dX5_shoot_96 : decode cX5_shoot 96 = .ok (.getfield 95, 3) := by decide +kernel
theorem dX5_shoot_99 : decode cX5_shoot 99 = .ok (.iload_n 3, 1) := by decide +kernel
theorem dX5_shoot_100 : decode cX5_shoot 100 = .ok (.iaload, 1) := by decide +kernel
theorem dX5_shoot_101 : decode cX5_shoot 101 = .ok (.aload_n 0, 1) := by decide +kernel
theorem dX5_shoot_102 : decode cX5_shoot 102 = .ok (.getfield 32, 3) := by decide +kernel
theorem dX5_shoot_105 : decode cX5_shoot 105 = .ok (.iload_n 1, 1) := by decide +kernel
theorem dX5_shoot_106 : decode cX5_shoot 106 = .ok (.iaload, 1) := by decide +kernel
theorem dX5_shoot_107 : decode cX5_shoot 107 = .ok (.isub, 1) := by decide +kernel
theorem dX5_shoot_108 : decode cX5_shoot 108 = .ok (.invokestatic 64, 3) := by decide +kernel
theorem dX5_shoot_111 : decode cX5_shoot 111 = .ok (.iconst 2, 1) := by decide +kernel
theorem dX5_shoot_112 : decode cX5_shoot 112 = .ok (.if_icmp .gt 13, 3) := by decide +kernel
theorem dX5_shoot_115 : decode cX5_shoot 115 = .ok (.aload_n 0, 1) := by decide +kernel
theorem dX5_shoot_116 : decode cX5_shoot 116 = .ok (.getfield 29, 3) := by decide +kernel
theorem dX5_shoot_119 : decode cX5_shoot 119 = .ok (.iload_n 3, 1) := by decide +kernel
theorem dX5_shoot_120 : decode cX5_shoot 120 = .ok (.dup2, 1) := by decide +kernel
theorem dX5_shoot_121 : decode cX5_shoot 121 = .ok (.iaload, 1) := by decide +kernel
theorem dX5_shoot_122 : decode cX5_shoot 122 = .ok (.iconst 1, 1) := by decide +kernel
theorem dX5_shoot_123 : decode cX5_shoot 123 = .ok (.iadd, 1) := by decide +kernel
theorem dX5_shoot_124 : decode cX5_shoot 124 = .ok (.iastore, 1) := by decide +kernel
theorem dX5_shoot_125 : decode cX5_shoot 125 = .ok (.iinc 3 1, 3) := by decide +kernel
theorem dX5_shoot_128 : decode cX5_shoot 128 = .ok (.goto (-59), 3) := by decide +kernel
theorem dX5_shoot_131 : decode cX5_shoot 131 = .ok (.return_, 1) := by decide +kernel
theorem dX5_drop_0 : decode cX5_drop 0 = .ok (.aload_n 0, 1) := by decide +kernel
theorem dX5_drop_1 : decode cX5_drop 1 = .ok (.iload_n 1, 1) := by decide +kernel
theorem dX5_drop_2 : decode cX5_drop 2 = .ok (.invokevirtual 73, 3) := by decide +kernel
theorem dX5_drop_5 : decode cX5_drop 5 = .ok (.ifCond .eq 4, 3) := by decide +kernel
theorem dX5_drop_8 : decode cX5_drop 8 = .ok (.return_, 1) := by decide +kernel
theorem dX5_drop_9 : decode cX5_drop 9 = .ok (.iconst 4, 1) := by decide +kernel
theorem dX5_drop_10 : decode cX5_drop 10 = .ok (.aload_n 0, 1) := by decide +kernel
theorem dX5_drop_11 : decode cX5_drop 11 = .ok (.getfield 44, 3) := by decide +kernel
theorem dX5_drop_14 : decode cX5_drop 14 = .ok (.iload_n 1, 1) := by decide +kernel
theorem dX5_drop_15 : decode cX5_drop 15 = .ok (.iaload, 1) := by decide +kernel
theorem dX5_drop_16 : decode cX5_drop 16 = .ok (.invokestatic 98, 3) := by decide +kernel
theorem dX5_drop_19 : decode cX5_drop 19 = .ok (.istore_n 2, 1) := by decide +kernel
theorem dX5_drop_20 : decode cX5_drop 20 = .ok (.aload_n 0, 1) := by decide +kernel
theorem dX5_drop_21 : decode cX5_drop 21 = .ok (.getfield 44, 3) := by decide +kernel
theorem dX5_drop_24 : decode cX5_drop 24 = .ok (.iload_n 1, 1) := by decide +kernel
theorem dX5_drop_25 : decode cX5_drop 25 = .ok (.dup2, 1) := by decide +kernel
theorem dX5_drop_26 : decode cX5_drop 26 = .ok (.iaload, 1) := by decide +kernel
theorem dX5_drop_27 : decode cX5_drop 27 = .ok (.iload_n 2, 1) := by decide +kernel
theorem dX5_drop_28 : decode cX5_drop 28 = .ok (.isub, 1) := by decide +kernel
theorem dX5_drop_29 : decode cX5_drop 29 = .ok (.iastore, 1) := by decide +kernel
theorem dX5_drop_30 : decode cX5_drop 30 = .ok (.iconst 0, 1) := by decide +kernel
theorem dX5_drop_31 : decode cX5_drop 31 = .ok (.istore_n 3, 1) := by decide +kernel
theorem dX5_drop_32 : decode cX5_drop 32 = .ok (.iload_n 3, 1) := by decide +kernel
theorem dX5_drop_33 : decode cX5_drop 33 = .ok (.aload_n 0, 1) := by decide +kernel
theorem dX5_drop_34 : decode cX5_drop 34 = .ok (.getfield 3, 3) := by decide +kernel
theorem dX5_drop_37 : decode cX5_drop 37 = .ok (.getfield 89, 3) := by decide +kernel
theorem dX5_drop_40 : decode cX5_drop 40 = .ok (.if_icmp .ge 77, 3) := by decide +kernel
theorem dX5_drop_43 : decode cX5_drop 43 = .ok (.aload_n 0, 1) := by decide +kernel
theorem dX5_drop_44 : decode cX5_drop 44 = .ok (.getfield 3, 3) := by decide +kernel
theorem dX5_drop_47 : decode cX5_drop 47 = .ok (.getfield 95, 3) := by decide +kernel
theorem dX5_drop_50 : decode cX5_drop 50 = .ok (.iload_n 3, 1) := by decide +kernel
theorem dX5_drop_51 : decode cX5_drop 51 = .ok (.iaload, 1) := by decide +kernel
theorem dX5_drop_52 : decode cX5_drop 52 = .ok (.aload_n 0, 1) := by decide +kernel
theorem dX5_drop_53 : decode cX5_drop 53 = .ok (.getfield 41, 3) := by decide +kernel
theorem dX5_drop_56 : decode cX5_drop 56 = .ok (.iload_n 1, 1) := by decide +kernel
theorem dX5_drop_57 : decode cX5_drop 57 = .ok (.iaload, 1) := by decide +kernel
theorem dX5_drop_58 : decode cX5_drop 58 = .ok (.if_icmp .eq 6, 3) := by decide +kernel
theorem dX5_drop_61 : decode cX5_drop 61 = .ok (.goto 50, 3) := by decide +kernel
theorem dX5_drop_64 : decode cX5_drop 64 = .ok (.aload_n 0, 1) := by decide +kernel
theorem dX5_drop_65 : decode cX5_drop 65 = .ok (.getfield 19, 3) := by decide +kernel
theorem dX5_drop_68 : decode cX5_drop 68 = .ok (.iload_n 3, 1) := by decide +kernel
theorem dX5_drop_69 : decode cX5_drop 69 = .ok (.iaload, 1) := by decide +kernel
theorem dX5_drop_70 : decode cX5_drop 70 = .ok (.iconst 2, 1) := by decide +kernel
theorem dX5_drop_71 : decode cX5_drop 71 = .ok (.iload_n 2, 1) := by decide +kernel
theorem dX5_drop_72 : decode cX5_drop 72 = .ok (.imul, 1) := by decide +kernel
theorem dX5_drop_73 : decode cX5_drop 73 = .ok (.invokestatic 98, 3) := by decide +kernel
theorem dX5_drop_76 : decode cX5_drop 76 = .ok (.istore 4, 2) := by decide +kernel
theorem dX5_drop_78 : decode cX5_drop 78 = .ok (.aload_n 0, 1) := by decide +kernel
theorem dX5_drop_79 : decode cX5_drop 79 = .ok (.getfield 19, 3) := by decide +kernel
theorem dX5_drop_82 : decode cX5_drop 82 = .ok (.iload_n 3, 1) := by decide +kernel
theorem dX5_drop_83 : decode cX5_drop 83 = .ok (.dup2, 1) := by decide +kernel
theorem dX5_drop_84 : decode cX5_drop 84 = .ok (.iaload, 1) := by decide +kernel
theorem dX5_drop_85 : decode cX5_drop 85 = .ok (.iload 4, 2) := by decide +kernel
theorem dX5_drop_87 : decode cX5_drop 87 = .ok (.isub, 1) := by decide +kernel
theorem dX5_drop_88 : decode cX5_drop 88 = .ok (.iastore, 1) := by decide +kernel
theorem dX5_drop_89 : decode cX5_drop 89 = .ok (.aload_n 0, 1) := by decide +kernel
theorem dX5_drop_90 : decode cX5_drop 90 = .ok (.getfield 23, 3) := by decide +kernel
theorem dX5_drop_93 : decode cX5_drop 93 = .ok (.iload_n 3, 1) := by decide +kernel
theorem dX5_drop_94 : decode cX5_drop 94 = .ok (.dup2, 1) := by decide +kernel
theorem dX5_drop_95 : decode cX5_drop 95 = .ok (.iaload, 1) := by decide +kernel
theorem dX5_drop_96 : decode cX5_drop 96 = .ok (.iload 4, 2) := by decide +kernel
theorem dX5_drop_98 : decode cX5_drop 98 = .ok (.iadd, 1) := by decide +kernel
theorem dX5_drop_99 : decode cX5_drop 99 = .ok (.iastore, 1) := by decide +kernel
theorem dX5_drop_100 : decode cX5_drop 100 = .ok (.aload_n 0, 1) := by decide +kernel
theorem dX5_drop_101 : decode cX5_drop 101 = .ok (.getfield 26, 3) := by decide +kernel
theorem dX5_drop_104 : decode cX5_drop 104 = .ok (.iload_n 3, 1) := by decide +kernel
theorem dX5_drop_105 : decode cX5_drop 105 = .ok (.dup2, 1) := by decide +kernel
theorem dX5_drop_106 : decode cX5_drop 106 = .ok (.iaload, 1) := by decide +kernel
theorem dX5_drop_107 : decode cX5_drop 107 = .ok (.iload 4, 2) := by decide +kernel
theorem dX5_drop_109 : decode cX5_drop 109 = .ok (.iadd, 1) := by decide +kernel
theorem dX5_drop_110 : decode cX5_drop 110 = .ok (.iastore, 1) := by decide +kernel
theorem dX5_drop_111 : decode cX5_drop 111 = .ok (.iinc 3 1, 3) := by decide +kernel
theorem dX5_drop_114 : decode cX5_drop 114 = .ok (.goto (-82), 3) := by decide +kernel
theorem dX5_drop_117 : decode cX5_drop 117 = .ok (.return_, 1) := by decide +kernel
theorem dX5_settle_0 : decode cX5_settle 0 = .ok (.aload_n 0, 1) := by decide +kernel
theorem dX5_settle_1 : decode cX5_settle 1 = .ok (.getfield 3, 3) := by decide +kernel
theorem dX5_settle_4 : decode cX5_settle 4 = .ok (.getfield 101, 3) := by decide +kernel
theorem dX5_settle_7 : decode cX5_settle 7 = .ok (.iload_n 1, 1) := by decide +kernel
theorem dX5_settle_8 : decode cX5_settle 8 = .ok (.iaload, 1) := by decide +kernel
theorem dX5_settle_9 : decode cX5_settle 9 = .ok (.iconst 1, 1) := by decide +kernel
theorem dX5_settle_10 : decode cX5_settle 10 = .ok (.if_icmp .ne 22, 3) := by decide +kernel
theorem dX5_settle_13 : decode cX5_settle 13 = .ok (.aload_n 0, 1) := by decide +kernel
theorem dX5_settle_14 : decode cX5_settle 14 = .ok (.dup, 1) := by decide +kernel
theorem dX5_settle_15 : decode cX5_settle 15 = .ok (.getfield 15, 3) := by decide +kernel
theorem dX5_settle_18 : decode cX5_settle 18 = .ok (.iconst 1, 1) := by decide +kernel
theorem dX5_settle_19 : decode cX5_settle 19 = .ok (.aload_n 0, 1) := by decide +kernel
theorem dX5_settle_20 : decode cX5_settle 20 = .ok (.getfield 23, 3) := by decide +kernel
theorem dX5_settle_23 : decode cX5_settle 23 = .ok (.iload_n 1, 1) := by decide +kernel
theorem dX5_settle_24 : decode cX5_settle 24 = .ok (.iaload, 1) := by decide +kernel
theorem dX5_settle_25 : decode cX5_settle 25 = .ok (.iconst 2, 1) := by decide +kernel
theorem dX5_settle_26 : decode cX5_settle 26 = .ok (.idiv, 1) := by decide +kernel
theorem dX5_settle_27 : decode cX5_settle 27 = .ok (.isub, 1) := by decide +kernel
theorem dX5_settle_28 : decode cX5_settle 28 = .ok (.iadd, 1) := by decide +kernel
theorem dX5_settle_29 : decode cX5_settle 29 = .ok (.putfield 15, 3) := by decide +kernel
theorem dX5_settle_32 : decode cX5_settle 32 = .ok (.aload_n 0, 1) := by decide +kernel
theorem dX5_settle_33 : decode cX5_settle 33 = .ok (.dup, 1) := by decide +kernel
theorem dX5_settle_34 : decode cX5_settle 34 = .ok (.getfield 15, 3) := by decide +kernel
theorem dX5_settle_37 : decode cX5_settle 37 = .ok (.aload_n 0, 1) := by decide +kernel
theorem dX5_settle_38 : decode cX5_settle 38 = .ok (.getfield 29, 3) := by decide +kernel
theorem dX5_settle_41 : decode cX5_settle 41 = .ok (.iload_n 1, 1) := by decide +kernel
theorem dX5_settle_42 : decode cX5_settle 42 = .ok (.iaload, 1) := by decide +kernel
theorem dX5_settle_43 : decode cX5_settle 43 = .ok (.isub, 1) := by decide +kernel
theorem dX5_settle_44 : decode cX5_settle 44 = .ok (.putfield 15, 3) := by decide +kernel
theorem dX5_settle_47 : decode cX5_settle 47 = .ok (.aload_n 0, 1) := by decide +kernel
theorem dX5_settle_48 : decode cX5_settle 48 = .ok (.getfield 23, 3) := by decide +kernel
theorem dX5_settle_51 : decode cX5_settle 51 = .ok (.iload_n 1, 1) := by decide +kernel
theorem dX5_settle_52 : decode cX5_settle 52 = .ok (.iconst 0, 1) := by decide +kernel
theorem dX5_settle_53 : decode cX5_settle 53 = .ok (.iastore, 1) := by decide +kernel
theorem dX5_settle_54 : decode cX5_settle 54 = .ok (.aload_n 0, 1) := by decide +kernel
theorem dX5_settle_55 : decode cX5_settle 55 = .ok (.getfield 29, 3) := by decide +kernel
theorem dX5_settle_58 : decode cX5_settle 58 = .ok (.iload_n 1, 1) := by decide +kernel
theorem dX5_settle_59 : decode cX5_settle 59 = .ok (.iconst 0, 1) := by decide +kernel
theorem dX5_settle_60 : decode cX5_settle 60 = .ok (.iastore, 1) := by decide +kernel
theorem dX5_settle_61 : decode cX5_settle 61 = .ok (.aload_n 0, 1) := by decide +kernel
theorem dX5_settle_62 : decode cX5_settle 62 = .ok (.getfield 19, 3) := by decide +kernel
theorem dX5_settle_65 : decode cX5_settle 65 = .ok (.iload_n 1, 1) := by decide +kernel
theorem dX5_settle_66 : decode cX5_settle 66 = .ok (.iaload, 1) := by decide +kernel
theorem dX5_settle_67 : decode cX5_settle 67 = .ok (.iconst 1, 1) := by decide +kernel
theorem dX5_settle_68 : decode cX5_settle 68 = .ok (.bipush 98, 2) := by decide +kernel
theorem dX5_settle_70 : decode cX5_settle 70 = .ok (.invokestatic 104, 3) := by decide +kernel
theorem dX5_settle_73 : decode cX5_settle 73 = .ok (.ifCond .eq 13, 3) := by decide +kernel
theorem dX5_settle_76 : decode cX5_settle 76 = .ok (.aload_n 0, 1) := by decide +kernel
theorem dX5_settle_77 : decode cX5_settle 77 = .ok (.getfield 19, 3) := by decide +kernel
theorem dX5_settle_80 : decode cX5_settle 80 = .ok (.iload_n 1, 1) := by decide +kernel
theorem dX5_settle_81 : decode cX5_settle 81 = .ok (.dup2, 1) := by decide +kernel
theorem dX5_settle_82 : decode cX5_settle 82 = .ok (.iaload, 1) := by decide +kernel
theorem dX5_settle_83 : decode cX5_settle 83 = .ok (.iconst 1, 1) := by decide +kernel
theorem dX5_settle_84 : decode cX5_settle 84 = .ok (.iadd, 1) := by decide +kernel
theorem dX5_settle_85 : decode cX5_settle 85 = .ok (.iastore, 1) := by decide +kernel
theorem dX5_settle_86 : decode cX5_settle 86 = .ok (.return_, 1) := by decide +kernel
theorem dX5_pass_0 : decode cX5_pass 0 = .ok (.iconst 0, 1) := by decide +kernel
theorem dX5_pass_1 : decode cX5_pass 1 = .ok (.istore_n 1, 1) := by decide +kernel
theorem dX5_pass_2 : decode cX5_pass 2 = .ok (.iload_n 1, 1) := by decide +kernel
theorem dX5_pass_3 : decode cX5_pass 3 = .ok (.aload_n 0, 1) := by decide +kernel
theorem dX5_pass_4 : decode cX5_pass 4 = .ok (.getfield 3, 3) := by decide +kernel
theorem dX5_pass_7 : decode cX5_pass 7 = .ok (.getfield 70, 3) := by decide +kernel
theorem dX5_pass_10 : decode cX5_pass 10 = .ok (.if_icmp .ge 51, 3) := by decide +kernel
theorem dX5_pass_13 : decode cX5_pass 13 = .ok (.aload_n 0, 1) := by decide +kernel
theorem dX5_pass_14 : decode cX5_pass 14 = .ok (.iload_n 1, 1) := by decide +kernel
theorem dX5_pass_15 : decode cX5_pass 15 = .ok (.invokevirtual 73, 3) := by decide +kernel
theorem dX5_pass_18 : decode cX5_pass 18 = .ok (.ifCond .ne 37, 3) := by decide +kernel
theorem dX5_pass_21 : decode cX5_pass 21 = .ok (.aload_n 0, 1) := by decide +kernel
theorem dX5_pass_22 : decode cX5_pass 22 = .ok (.getfield 41, 3) := by decide +kernel
theorem dX5_pass_25 : decode cX5_pass 25 = .ok (.iload_n 1, 1) := by decide +kernel
theorem dX5_pass_26 : decode cX5_pass 26 = .ok (.dup2, 1) := by decide +kernel
theorem dX5_pass_27 : decode cX5_pass 27 = .ok (.iaload, 1) := by decide +kernel
theorem dX5_pass_28 : decode cX5_pass 28 = .ok (.aload_n 0, 1) := by decide +kernel
theorem dX5_pass_29 : decode cX5_pass 29 = .ok (.getfield 3, 3) := by decide +kernel
theorem dX5_pass_32 : decode cX5_pass 32 = .ok (.getfield 108, 3) := by decide +kernel
theorem dX5_pass_35 : decode cX5_pass 35 = .ok (.iload_n 1, 1) := by decide +kernel
theorem dX5_pass_36 : decode cX5_pass 36 = .ok (.iaload, 1) := by decide +kernel
theorem dX5_pass_37 : decode cX5_pass 37 = .ok (.aload_n 0, 1) := by decide +kernel
theorem dX5_pass_38 : decode cX5_pass 38 = .ok (.getfield 3, 3) := by decide +kernel
theorem dX5_pass_41 : decode cX5_pass 41 = .ok (.getfield 111, 3) := by decide +kernel
theorem dX5_pass_44 : decode cX5_pass 44 = .ok (.aload_n 0, 1) := by decide +kernel
theorem dX5_pass_45 : decode cX5_pass 45 = .ok (.getfield 53, 3) := by decide +kernel
theorem dX5_pass_48 : decode cX5_pass 48 = .ok (.bipush 6, 2) := by decide +kernel
theorem dX5_pass_50 : decode cX5_pass 50 = .ok (.irem, 1) := by decide +kernel
theorem dX5_pass_51 : decode cX5_pass 51 = .ok (.iaload, 1) := by decide +kernel
theorem dX5_pass_52 : decode cX5_pass 52 = .ok (.iadd, 1) := by decide +kernel
theorem dX5_pass_53 : decode cX5_pass 53 = .ok (.iadd, 1) := by decide +kernel
theorem dX5_pass_54 : decode cX5_pass 54 = .ok (.iastore, 1) := by decide +kernel
theorem dX5_pass_55 : decode cX5_pass 55 = .ok (.iinc 1 1, 3) := by decide +kernel
theorem dX5_pass_58 : decode cX5_pass 58 = .ok (.goto (-56), 3) := by decide +kernel
theorem dX5_pass_61 : decode cX5_pass 61 = .ok (.iconst 0, 1) := by decide +kernel
theorem dX5_pass_62 : decode cX5_pass 62 = .ok (.istore_n 1, 1) := by decide +kernel
theorem dX5_pass_63 : decode cX5_pass 63 = .ok (.iload_n 1, 1) := by decide +kernel
theorem dX5_pass_64 : decode cX5_pass 64 = .ok (.aload_n 0, 1) := by decide +kernel
theorem dX5_pass_65 : decode cX5_pass 65 = .ok (.getfield 3, 3) := by decide +kernel
theorem dX5_pass_68 : decode cX5_pass 68 = .ok (.getfield 114, 3) := by decide +kernel
theorem dX5_pass_71 : decode cX5_pass 71 = .ok (.if_icmp .ge 14, 3) := by decide +kernel
theorem dX5_pass_74 : decode cX5_pass 74 = .ok (.aload_n 0, 1) := by decide +kernel
theorem dX5_pass_75 : decode cX5_pass 75 = .ok (.iload_n 1, 1) := by decide +kernel
theorem dX5_pass_76 : decode cX5_pass 76 = .ok (.invokevirtual 117, 3) := by decide +kernel
theorem dX5_pass_79 : decode cX5_pass 79 = .ok (.iinc 1 1, 3) := by decide +kernel
theorem dX5_pass_82 : decode cX5_pass 82 = .ok (.goto (-19), 3) := by decide +kernel
theorem dX5_pass_85 : decode cX5_pass 85 = .ok (.iconst 0, 1) := by decide +kernel
theorem dX5_pass_86 : decode cX5_pass 86 = .ok (.istore_n 1, 1) := by decide +kernel
theorem dX5_pass_87 : decode cX5_pass 87 = .ok (.iload_n 1, 1) := by decide +kernel
theorem dX5_pass_88 : decode cX5_pass 88 = .ok (.aload_n 0, 1) := by decide +kernel
theorem dX5_pass_89 : decode cX5_pass 89 = .ok (.getfield 3, 3) := by decide +kernel
theorem dX5_pass_92 : decode cX5_pass 92 = .ok (.getfield 70, 3) := by decide +kernel
theorem dX5_pass_95 : decode cX5_pass 95 = .ok (.if_icmp .ge 14, 3) := by decide +kernel
theorem dX5_pass_98 : decode cX5_pass 98 = .ok (.aload_n 0, 1) := by decide +kernel
theorem dX5_pass_99 : decode cX5_pass 99 = .ok (.iload_n 1, 1) := by decide +kernel
theorem dX5_pass_100 : decode cX5_pass 100 = .ok (.invokevirtual 121, 3) := by decide +kernel
theorem dX5_pass_103 : decode cX5_pass 103 = .ok (.iinc 1 1, 3) := by decide +kernel
theorem dX5_pass_106 : decode cX5_pass 106 = .ok (.goto (-19), 3) := by decide +kernel
theorem dX5_pass_109 : decode cX5_pass 109 = .ok (.aload_n 0, 1) := by decide +kernel
theorem dX5_pass_110 : decode cX5_pass 110 = .ok (.getfield 53, 3) := by decide +kernel
theorem dX5_pass_113 : decode cX5_pass 113 = .ok (.bipush 24, 2) := by decide +kernel
theorem dX5_pass_115 : decode cX5_pass 115 = .ok (.irem, 1) := by decide +kernel
theorem dX5_pass_116 : decode cX5_pass 116 = .ok (.bipush 23, 2) := by decide +kernel
theorem dX5_pass_118 : decode cX5_pass 118 = .ok (.if_icmp .ne 27, 3) := by decide +kernel
theorem dX5_pass_121 : decode cX5_pass 121 = .ok (.iconst 0, 1) := by decide +kernel
theorem dX5_pass_122 : decode cX5_pass 122 = .ok (.istore_n 1, 1) := by decide +kernel
theorem dX5_pass_123 : decode cX5_pass 123 = .ok (.iload_n 1, 1) := by decide +kernel
theorem dX5_pass_124 : decode cX5_pass 124 = .ok (.aload_n 0, 1) := by decide +kernel
theorem dX5_pass_125 : decode cX5_pass 125 = .ok (.getfield 3, 3) := by decide +kernel
theorem dX5_pass_128 : decode cX5_pass 128 = .ok (.getfield 89, 3) := by decide +kernel
theorem dX5_pass_131 : decode cX5_pass 131 = .ok (.if_icmp .ge 14, 3) := by decide +kernel
theorem dX5_pass_134 : decode cX5_pass 134 = .ok (.aload_n 0, 1) := by decide +kernel
theorem dX5_pass_135 : decode cX5_pass 135 = .ok (.iload_n 1, 1) := by decide +kernel
theorem dX5_pass_136 : decode cX5_pass 136 = .ok (.invokevirtual 124, 3) := by decide +kernel
theorem dX5_pass_139 : decode cX5_pass 139 = .ok (.iinc 1 1, 3) := by decide +kernel
theorem dX5_pass_142 : decode cX5_pass 142 = .ok (.goto (-19), 3) := by decide +kernel
theorem dX5_pass_145 : decode cX5_pass 145 = .ok (.aload_n 0, 1) := by decide +kernel
theorem dX5_pass_146 : decode cX5_pass 146 = .ok (.dup, 1) := by decide +kernel
theorem dX5_pass_147 : decode cX5_pass 147 = .ok (.getfield 53, 3) := by decide +kernel
theorem dX5_pass_150 : decode cX5_pass 150 = .ok (.iconst 1, 1) := by decide +kernel
theorem dX5_pass_151 : decode cX5_pass 151 = .ok (.iadd, 1) := by decide +kernel
theorem dX5_pass_152 : decode cX5_pass 152 = .ok (.putfield 53, 3) := by decide +kernel
theorem dX5_pass_155 : decode cX5_pass 155 = .ok (.return_, 1) := by decide +kernel
theorem dX5_pass__0 : decode cX5_pass_ 0 = .ok (.iconst 0, 1) := by decide +kernel
theorem dX5_pass__1 : decode cX5_pass_ 1 = .ok (.istore_n 2, 1) := by decide +kernel
theorem dX5_pass__2 : decode cX5_pass_ 2 = .ok (.iload_n 2, 1) := by decide +kernel
theorem dX5_pass__3 : decode cX5_pass_ 3 = .ok (.iload_n 1, 1) := by decide +kernel
theorem dX5_pass__4 : decode cX5_pass_ 4 = .ok (.if_icmp .ge 13, 3) := by decide +kernel
theorem dX5_pass__7 : decode cX5_pass_ 7 = .ok (.aload_n 0, 1) := by decide +kernel
theorem dX5_pass__8 : decode cX5_pass_ 8 = .ok (.invokevirtual 127, 3) := by decide +kernel
theorem dX5_pass__11 : decode cX5_pass_ 11 = .ok (.iinc 2 1, 3) := by decide +kernel
theorem dX5_pass__14 : decode cX5_pass_ 14 = .ok (.goto (-12), 3) := by decide +kernel
theorem dX5_pass__17 : decode cX5_pass_ 17 = .ok (.return_, 1) := by decide +kernel
theorem dX5_sum_0 : decode cX5_sum 0 = .ok (.iconst 0, 1) := by decide +kernel
theorem dX5_sum_1 : decode cX5_sum 1 = .ok (.istore_n 3, 1) := by decide +kernel
theorem dX5_sum_2 : decode cX5_sum 2 = .ok (.iconst 0, 1) := by decide +kernel
theorem dX5_sum_3 : decode cX5_sum 3 = .ok (.istore 4, 2) := by decide +kernel
theorem dX5_sum_5 : decode cX5_sum 5 = .ok (.iload 4, 2) := by decide +kernel
theorem dX5_sum_7 : decode cX5_sum 7 = .ok (.iload_n 2, 1) := by decide +kernel
theorem dX5_sum_8 : decode cX5_sum 8 = .ok (.if_icmp .ge 16, 3) := by decide +kernel
theorem dX5_sum_11 : decode cX5_sum 11 = .ok (.iload_n 3, 1) := by decide +kernel
theorem dX5_sum_12 : decode cX5_sum 12 = .ok (.aload_n 1, 1) := by decide +kernel
theorem dX5_sum_13 : decode cX5_sum 13 = .ok (.iload 4, 2) := by decide +kernel
theorem dX5_sum_15 : decode cX5_sum 15 = .ok (.iaload, 1) := by decide +kernel
theorem dX5_sum_16 : decode cX5_sum 16 = .ok (.iadd, 1) := by decide +kernel
theorem dX5_sum_17 : decode cX5_sum 17 = .ok (.istore_n 3, 1) := by decide +kernel
theorem dX5_sum_18 : decode cX5_sum 18 = .ok (.iinc 4 1, 3) := by decide +kernel
theorem dX5_sum_21 : decode cX5_sum 21 = .ok (.goto (-16), 3) := by decide +kernel
theorem dX5_sum_24 : decode cX5_sum 24 = .ok (.iload_n 3, 1) := by decide +kernel
theorem dX5_sum_25 : decode cX5_sum 25 = .ok (.ireturn, 1) := by decide +kernel
theorem dX5_losses_0 : decode cX5_losses 0 = .ok (.aload_n 0, 1) := by decide +kernel
theorem dX5_losses_1 : decode cX5_losses 1 = .ok (.aload_n 0, 1) := by decide +kernel
theorem dX5_losses_2 : decode cX5_losses 2 = .ok (.getfield 26, 3) := by decide +kernel
theorem dX5_losses_5 : decode cX5_losses 5 = .ok (.aload_n 0, 1) := by decide +kernel
theorem dX5_losses_6 : decode cX5_losses 6 = .ok (.getfield 3, 3) := by decide +kernel
theorem dX5_losses_9 : decode cX5_losses 9 = .ok (.getfield 89, 3) := by decide +kernel
theorem dX5_losses_12 : decode cX5_losses 12 = .ok (.invokevirtual 130, 3) := by decide +kernel
theorem dX5_losses_15 : decode cX5_losses 15 = .ok (.ireturn, 1) := by decide +kernel
theorem dX5_counted_0 : decode cX5_counted 0 = .ok (.iconst 0, 1) := by decide +kernel
theorem dX5_counted_1 : decode cX5_counted 1 = .ok (.istore_n 2, 1) := by decide +kernel
theorem dX5_counted_2 : decode cX5_counted 2 = .ok (.iconst 0, 1) := by decide +kernel
theorem dX5_counted_3 : decode cX5_counted 3 = .ok (.istore_n 3, 1) := by decide +kernel
theorem dX5_counted_4 : decode cX5_counted 4 = .ok (.iload_n 3, 1) := by decide +kernel
theorem dX5_counted_5 : decode cX5_counted 5 = .ok (.aload_n 0, 1) := by decide +kernel
theorem dX5_counted_6 : decode cX5_counted 6 = .ok (.getfield 3, 3) := by decide +kernel
theorem dX5_counted_9 : decode cX5_counted 9 = .ok (.getfield 70, 3) := by decide +kernel
theorem dX5_counted_12 : decode cX5_counted 12 = .ok (.if_icmp .ge 25, 3) := by decide +kernel
theorem dX5_counted_15 : decode cX5_counted 15 = .ok (.iload_n 2, 1) := by decide +kernel
theorem dX5_counted_16 : decode cX5_counted 16 = .ok (.aload_n 0, 1) := by decide +kernel
theorem dX5_counted_17 : decode cX5_counted 17 = .ok (.iload_n 3, 1) := by decide +kernel
theorem dX5_counted_18 : decode cX5_counted 18 = .ok (.invokevirtual 73, 3) := by decide +kernel
theorem dX5_counted_21 : decode cX5_counted 21 = .ok (.ifCond .eq 7, 3) := by decide +kernel
theorem dX5_counted_24 : decode cX5_counted 24 = .ok (.iconst 0, 1) := by decide +kernel
theorem dX5_counted_25 : decode cX5_counted 25 = .ok (.goto 4, 3) := by decide +kernel
theorem dX5_counted_28 : decode cX5_counted 28 = .ok (.iconst 1, 1) := by decide +kernel
theorem dX5_counted_29 : decode cX5_counted 29 = .ok (.iadd, 1) := by decide +kernel
theorem dX5_counted_30 : decode cX5_counted 30 = .ok (.istore_n 2, 1) := by decide +kernel
theorem dX5_counted_31 : decode cX5_counted 31 = .ok (.iinc 3 1, 3) := by decide +kernel
theorem dX5_counted_34 : decode cX5_counted 34 = .ok (.goto (-30), 3) := by decide +kernel
theorem dX5_counted_37 : decode cX5_counted 37 = .ok (.bipush 10, 2) := by decide +kernel
theorem dX5_counted_39 : decode cX5_counted 39 = .ok (.newarray .int, 2) := by decide +kernel
theorem dX5_counted_41 : decode cX5_counted 41 = .ok (.dup, 1) := by decide +kernel
theorem dX5_counted_42 : decode cX5_counted 42 = .ok (.iconst 0, 1) := by decide +kernel
theorem dX5_counted_43 : decode cX5_counted 43 = .ok (.aload_n 0, 1) := by decide +kernel
theorem dX5_counted_44 : decode cX5_counted 44 = .ok (.getfield 53, 3) := by decide +kernel
theorem dX5_counted_47 : decode cX5_counted 47 = .ok (.iastore, 1) := by decide +kernel
theorem dX5_counted_48 : decode cX5_counted 48 = .ok (.dup, 1) := by decide +kernel
theorem dX5_counted_49 : decode cX5_counted 49 = .ok (.iconst 1, 1) := by decide +kernel
theorem dX5_counted_50 : decode cX5_counted 50 = .ok (.aload_n 0, 1) := by decide +kernel
theorem dX5_counted_51 : decode cX5_counted 51 = .ok (.getfield 53, 3) := by decide +kernel
theorem dX5_counted_54 : decode cX5_counted 54 = .ok (.bipush 24, 2) := by decide +kernel
theorem dX5_counted_56 : decode cX5_counted 56 = .ok (.irem, 1) := by decide +kernel
theorem dX5_counted_57 : decode cX5_counted 57 = .ok (.iastore, 1) := by decide +kernel
theorem dX5_counted_58 : decode cX5_counted 58 = .ok (.dup, 1) := by decide +kernel
theorem dX5_counted_59 : decode cX5_counted 59 = .ok (.iconst 2, 1) := by decide +kernel
theorem dX5_counted_60 : decode cX5_counted 60 = .ok (.aload_n 0, 1) := by decide +kernel
theorem dX5_counted_61 : decode cX5_counted 61 = .ok (.getfield 15, 3) := by decide +kernel
theorem dX5_counted_64 : decode cX5_counted 64 = .ok (.iastore, 1) := by decide +kernel
theorem dX5_counted_65 : decode cX5_counted 65 = .ok (.dup, 1) := by decide +kernel
theorem dX5_counted_66 : decode cX5_counted 66 = .ok (.iconst 3, 1) := by decide +kernel
theorem dX5_counted_67 : decode cX5_counted 67 = .ok (.aload_n 0, 1) := by decide +kernel
theorem dX5_counted_68 : decode cX5_counted 68 = .ok (.aload_n 0, 1) := by decide +kernel
theorem dX5_counted_69 : decode cX5_counted 69 = .ok (.getfield 19, 3) := by decide +kernel
theorem dX5_counted_72 : decode cX5_counted 72 = .ok (.aload_n 0, 1) := by decide +kernel
theorem dX5_counted_73 : decode cX5_counted 73 = .ok (.getfield 3, 3) := by decide +kernel
theorem dX5_counted_76 : decode cX5_counted 76 = .ok (.getfield 89, 3) := by decide +kernel
theorem dX5_counted_79 : decode cX5_counted 79 = .ok (.invokevirtual 130, 3) := by decide +kernel
theorem dX5_counted_82 : decode cX5_counted 82 = .ok (.iastore, 1) := by decide +kernel
theorem dX5_counted_83 : decode cX5_counted 83 = .ok (.dup, 1) := by decide +kernel
theorem dX5_counted_84 : decode cX5_counted 84 = .ok (.iconst 4, 1) := by decide +kernel
theorem dX5_counted_85 : decode cX5_counted 85 = .ok (.aload_n 0, 1) := by decide +kernel
theorem dX5_counted_86 : decode cX5_counted 86 = .ok (.invokevirtual 134, 3) := by decide +kernel
theorem dX5_counted_89 : decode cX5_counted 89 = .ok (.iastore, 1) := by decide +kernel
theorem dX5_counted_90 : decode cX5_counted 90 = .ok (.dup, 1) := by decide +kernel
theorem dX5_counted_91 : decode cX5_counted 91 = .ok (.iconst 5, 1) := by decide +kernel
theorem dX5_counted_92 : decode cX5_counted 92 = .ok (.aload_n 0, 1) := by decide +kernel
theorem dX5_counted_93 : decode cX5_counted 93 = .ok (.aload_n 0, 1) := by decide +kernel
theorem dX5_counted_94 : decode cX5_counted 94 = .ok (.getfield 29, 3) := by decide +kernel
theorem dX5_counted_97 : decode cX5_counted 97 = .ok (.aload_n 0, 1) := by decide +kernel
theorem dX5_counted_98 : decode cX5_counted 98 = .ok (.getfield 3, 3) := by decide +kernel
theorem dX5_counted_101 : decode cX5_counted 101 = .ok (.getfield 89, 3) := by decide +kernel
theorem dX5_counted_104 : decode cX5_counted 104 = .ok (.invokevirtual 130, 3) := by decide +kernel
theorem dX5_counted_107 : decode cX5_counted 107 = .ok (.iastore, 1) := by decide +kernel
theorem dX5_counted_108 : decode cX5_counted 108 = .ok (.dup, 1) := by decide +kernel
theorem dX5_counted_109 : decode cX5_counted 109 = .ok (.bipush 6, 2) := by decide +kernel
theorem dX5_counted_111 : decode cX5_counted 111 = .ok (.aload_n 0, 1) := by decide +kernel
theorem dX5_counted_112 : decode cX5_counted 112 = .ok (.aload_n 0, 1) := by decide +kernel
theorem dX5_counted_113 : decode cX5_counted 113 = .ok (.getfield 3, 3) := by decide +kernel
theorem dX5_counted_116 : decode cX5_counted 116 = .ok (.getfield 92, 3) := by decide +kernel
theorem dX5_counted_119 : decode cX5_counted 119 = .ok (.aload_n 0, 1) := by decide +kernel
theorem dX5_counted_120 : decode cX5_counted 120 = .ok (.getfield 3, 3) := by decide +kernel
theorem dX5_counted_123 : decode cX5_counted 123 = .ok (.getfield 89, 3) := by decide +kernel
theorem dX5_counted_126 : decode cX5_counted 126 = .ok (.invokevirtual 130, 3) := by decide +kernel
theorem dX5_counted_129 : decode cX5_counted 129 = .ok (.iastore, 1) := by decide +kernel
theorem dX5_counted_130 : decode cX5_counted 130 = .ok (.dup, 1) := by decide +kernel
theorem dX5_counted_131 : decode cX5_counted 131 = .ok (.bipush 7, 2) := by decide +kernel
theorem dX5_counted_133 : decode cX5_counted 133 = .ok (.aload_n 0, 1) := by decide +kernel
theorem dX5_counted_134 : decode cX5_counted 134 = .ok (.aload_n 0, 1) := by decide +kernel
theorem dX5_counted_135 : decode cX5_counted 135 = .ok (.getfield 3, 3) := by decide +kernel
theorem dX5_counted_138 : decode cX5_counted 138 = .ok (.getfield 101, 3) := by decide +kernel
theorem dX5_counted_141 : decode cX5_counted 141 = .ok (.aload_n 0, 1) := by decide +kernel
theorem dX5_counted_142 : decode cX5_counted 142 = .ok (.getfield 3, 3) := by decide +kernel
theorem dX5_counted_145 : decode cX5_counted 145 = .ok (.getfield 89, 3) := by decide +kernel
theorem dX5_counted_148 : decode cX5_counted 148 = .ok (.invokevirtual 130, 3) := by decide +kernel
theorem dX5_counted_151 : decode cX5_counted 151 = .ok (.iastore, 1) := by decide +kernel
theorem dX5_counted_152 : decode cX5_counted 152 = .ok (.dup, 1) := by decide +kernel
theorem dX5_counted_153 : decode cX5_counted 153 = .ok (.bipush 8, 2) := by decide +kernel
theorem dX5_counted_155 : decode cX5_counted 155 = .ok (.iload_n 2, 1) := by decide +kernel
theorem dX5_counted_156 : decode cX5_counted 156 = .ok (.iastore, 1) := by decide +kernel
theorem dX5_counted_157 : decode cX5_counted 157 = .ok (.dup, 1) := by decide +kernel
theorem dX5_counted_158 : decode cX5_counted 158 = .ok (.bipush 9, 2) := by decide +kernel
theorem dX5_counted_160 : decode cX5_counted 160 = .ok (.aload_n 0, 1) := by decide +kernel
theorem dX5_counted_161 : decode cX5_counted 161 = .ok (.aload_n 0, 1) := by decide +kernel
theorem dX5_counted_162 : decode cX5_counted 162 = .ok (.getfield 38, 3) := by decide +kernel
theorem dX5_counted_165 : decode cX5_counted 165 = .ok (.aload_n 0, 1) := by decide +kernel
theorem dX5_counted_166 : decode cX5_counted 166 = .ok (.getfield 3, 3) := by decide +kernel
theorem dX5_counted_169 : decode cX5_counted 169 = .ok (.getfield 114, 3) := by decide +kernel
theorem dX5_counted_172 : decode cX5_counted 172 = .ok (.invokevirtual 130, 3) := by decide +kernel
theorem dX5_counted_175 : decode cX5_counted 175 = .ok (.iastore, 1) := by decide +kernel
theorem dX5_counted_176 : decode cX5_counted 176 = .ok (.astore_n 3, 1) := by decide +kernel
theorem dX5_counted_177 : decode cX5_counted 177 = .ok (.aload_n 3, 1) := by decide +kernel
theorem dX5_counted_178 : decode cX5_counted 178 = .ok (.iload_n 1, 1) := by decide +kernel
theorem dX5_counted_179 : decode cX5_counted 179 = .ok (.iaload, 1) := by decide +kernel
theorem dX5_counted_180 : decode cX5_counted 180 = .ok (.ireturn, 1) := by decide +kernel
theorem dJ9_floorMod_7cf53_0 : decode cJ9_floorMod_7cf53 0 = .ok (.iload_n 0, 1) := by decide +kernel
theorem dJ9_floorMod_7cf53_1 : decode cJ9_floorMod_7cf53 1 = .ok (.iload_n 1, 1) := by decide +kernel
theorem dJ9_floorMod_7cf53_2 : decode cJ9_floorMod_7cf53 2 = .ok (.irem, 1) := by decide +kernel
theorem dJ9_floorMod_7cf53_3 : decode cJ9_floorMod_7cf53 3 = .ok (.istore_n 2, 1) := by decide +kernel
theorem dJ9_floorMod_7cf53_4 : decode cJ9_floorMod_7cf53 4 = .ok (.iload_n 0, 1) := by decide +kernel
theorem dJ9_floorMod_7cf53_5 : decode cJ9_floorMod_7cf53 5 = .ok (.iload_n 1, 1) := by decide +kernel
theorem dJ9_floorMod_7cf53_6 : decode cJ9_floorMod_7cf53 6 = .ok (.ixor, 1) := by decide +kernel
theorem dJ9_floorMod_7cf53_7 : decode cJ9_floorMod_7cf53 7 = .ok (.ifCond .ge 11, 3) := by decide +kernel
theorem dJ9_floorMod_7cf53_10 : decode cJ9_floorMod_7cf53 10 = .ok (.iload_n 2, 1) := by decide +kernel
theorem dJ9_floorMod_7cf53_11 : decode cJ9_floorMod_7cf53 11 = .ok (.ifCond .eq 7, 3) := by decide +kernel
theorem dJ9_floorMod_7cf53_14 : decode cJ9_floorMod_7cf53 14 = .ok (.iload_n 2, 1) := by decide +kernel
theorem dJ9_floorMod_7cf53_15 : decode cJ9_floorMod_7cf53 15 = .ok (.iload_n 1, 1) := by decide +kernel
theorem dJ9_floorMod_7cf53_16 : decode cJ9_floorMod_7cf53 16 = .ok (.iadd, 1) := by decide +kernel
theorem dJ9_floorMod_7cf53_17 : decode cJ9_floorMod_7cf53 17 = .ok (.ireturn, 1) := by decide +kernel
theorem dJ9_floorMod_7cf53_18 : decode cJ9_floorMod_7cf53 18 = .ok (.iload_n 2, 1) := by decide +kernel
theorem dJ9_floorMod_7cf53_19 : decode cJ9_floorMod_7cf53 19 = .ok (.ireturn, 1) := by decide +kernel
theorem dJ9_abs_0f7a4_0 : decode cJ9_abs_0f7a4 0 = .ok (.iload_n 0, 1) := by decide +kernel
theorem dJ9_abs_0f7a4_1 : decode cJ9_abs_0f7a4 1 = .ok (.ifCond .ge 8, 3) := by decide +kernel
theorem dJ9_abs_0f7a4_4 : decode cJ9_abs_0f7a4 4 = .ok (.iload_n 0, 1) := by decide +kernel
theorem dJ9_abs_0f7a4_5 : decode cJ9_abs_0f7a4 5 = .ok (.ineg, 1) := by decide +kernel
theorem dJ9_abs_0f7a4_6 : decode cJ9_abs_0f7a4 6 = .ok (.goto 4, 3) := by decide +kernel
theorem dJ9_abs_0f7a4_9 : decode cJ9_abs_0f7a4 9 = .ok (.iload_n 0, 1) := by decide +kernel
theorem dJ9_abs_0f7a4_10 : decode cJ9_abs_0f7a4 10 = .ok (.ireturn, 1) := by decide +kernel
theorem dJ9_max_7cf53_0 : decode cJ9_max_7cf53 0 = .ok (.iload_n 0, 1) := by decide +kernel
theorem dJ9_max_7cf53_1 : decode cJ9_max_7cf53 1 = .ok (.iload_n 1, 1) := by decide +kernel
theorem dJ9_max_7cf53_2 : decode cJ9_max_7cf53 2 = .ok (.if_icmp .lt 7, 3) := by decide +kernel
theorem dJ9_max_7cf53_5 : decode cJ9_max_7cf53 5 = .ok (.iload_n 0, 1) := by decide +kernel
theorem dJ9_max_7cf53_6 : decode cJ9_max_7cf53 6 = .ok (.goto 4, 3) := by decide +kernel
theorem dJ9_max_7cf53_9 : decode cJ9_max_7cf53 9 = .ok (.iload_n 1, 1) := by decide +kernel
theorem dJ9_max_7cf53_10 : decode cJ9_max_7cf53 10 = .ok (.ireturn, 1) := by decide +kernel
theorem dJ9_min_7cf53_0 : decode cJ9_min_7cf53 0 = .ok (.iload_n 0, 1) := by decide +kernel
theorem dJ9_min_7cf53_1 : decode cJ9_min_7cf53 1 = .ok (.iload_n 1, 1) := by decide +kernel
theorem dJ9_min_7cf53_2 : decode cJ9_min_7cf53 2 = .ok (.if_icmp .gt 7, 3) := by decide +kernel
theorem dJ9_min_7cf53_5 : decode cJ9_min_7cf53 5 = .ok (.iload_n 0, 1) := by decide +kernel
theorem dJ9_min_7cf53_6 : decode cJ9_min_7cf53 6 = .ok (.goto 4, 3) := by decide +kernel
theorem dJ9_min_7cf53_9 : decode cJ9_min_7cf53 9 = .ok (.iload_n 1, 1) := by decide +kernel
theorem dJ9_min_7cf53_10 : decode cJ9_min_7cf53 10 = .ok (.ireturn, 1) := by decide +kernel
end
section
theorem dX6_init_0 : decode cX6_init 0 = .ok (.aload_n 0, 1) := by decide +kernel
theorem dX6_init_1 : decode cX6_init 1 = .ok (.invokespecial 1, 3) := by decide +kernel
theorem dX6_init_4 : decode cX6_init 4 = .ok (.aload_n 0, 1) := by decide +kernel
theorem dX6_init_5 : decode cX6_init 5 = .ok (.bipush 10, 2) := by decide +kernel
theorem dX6_init_7 : decode cX6_init 7 = .ok (.newarray .int, 2) := by decide +kernel
theorem dX6_init_9 : decode cX6_init 9 = .ok (.putfield 9, 3) := by decide +kernel
theorem dX6_init_12 : decode cX6_init 12 = .ok (.aload_n 0, 1) := by decide +kernel
theorem dX6_init_13 : decode cX6_init 13 = .ok (.bipush 10, 2) := by decide +kernel
theorem dX6_init_15 : decode cX6_init 15 = .ok (.newarray .int, 2) := by decide +kernel
theorem dX6_init_17 : decode cX6_init 17 = .ok (.putfield 13, 3) := by decide +kernel
theorem dX6_init_20 : decode cX6_init 20 = .ok (.aload_n 0, 1) := by decide +kernel
theorem dX6_init_21 : decode cX6_init 21 = .ok (.bipush 10, 2) := by decide +kernel
theorem dX6_init_23 : decode cX6_init 23 = .ok (.newarray .int, 2) := by decide +kernel
theorem dX6_init_25 : decode cX6_init 25 = .ok (.putfield 16, 3) := by decide +kernel
theorem dX6_init_28 : decode cX6_init 28 = .ok (.aload_n 0, 1) := by decide +kernel
theorem dX6_init_29 : decode cX6_init 29 = .ok (.bipush 6, 2) := by decide +kernel
theorem dX6_init_31 : decode cX6_init 31 = .ok (.newarray .int, 2) := by decide +kernel
theorem dX6_init_33 : decode cX6_init 33 = .ok (.putfield 19, 3) := by decide +kernel
theorem dX6_init_36 : decode cX6_init 36 = .ok (.aload_n 0, 1) := by decide +kernel
theorem dX6_init_37 : decode cX6_init 37 = .ok (.bipush 20, 2) := by decide +kernel
theorem dX6_init_39 : decode cX6_init 39 = .ok (.newarray .int, 2) := by decide +kernel
theorem dX6_init_41 : decode cX6_init 41 = .ok (.putfield 22, 3) := by decide +kernel
theorem dX6_init_44 : decode cX6_init 44 = .ok (.aload_n 0, 1) := by decide +kernel
theorem dX6_init_45 : decode cX6_init 45 = .ok (.bipush 6, 2) := by decide +kernel
theorem dX6_init_47 : decode cX6_init 47 = .ok (.newarray .int, 2) := by decide +kernel
theorem dX6_init_49 : decode cX6_init 49 = .ok (.putfield 25, 3) := by decide +kernel
theorem dX6_init_52 : decode cX6_init 52 = .ok (.aload_n 0, 1) := by decide +kernel
theorem dX6_init_53 : decode cX6_init 53 = .ok (.new 28, 3) := by decide +kernel
theorem dX6_init_56 : decode cX6_init 56 = .ok (.dup, 1) := by decide +kernel
theorem dX6_init_57 : decode cX6_init 57 = .ok (.aload_n 0, 1) := by decide +kernel
theorem dX6_init_58 : decode cX6_init 58 = .ok (.invokespecial 30, 3) := by decide +kernel
theorem dX6_init_61 : decode cX6_init 61 = .ok (.putfield 33, 3) := by decide +kernel
theorem dX6_init_64 : decode cX6_init 64 = .ok (.aload_n 0, 1) := by decide +kernel
theorem dX6_init_65 : decode cX6_init 65 = .ok (.new 28, 3) := by decide +kernel
theorem dX6_init_68 : decode cX6_init 68 = .ok (.dup, 1) := by decide +kernel
theorem dX6_init_69 : decode cX6_init 69 = .ok (.aload_n 0, 1) := by decide +kernel
theorem dX6_init_70 : decode cX6_init 70 = .ok (.invokespecial 30, 3) := by decide +kernel
theorem dX6_init_73 : decode cX6_init 73 = .ok (.putfield 37, 3) := by decide +kernel
theorem dX6_init_76 : decode cX6_init 76 = .ok (.return_, 1) := by decide +kernel
theorem dX6_thrown_0 : decode cX6_thrown 0 = .ok (.aload_n 0, 1) := by decide +kernel
theorem dX6_thrown_1 : decode cX6_thrown 1 = .ok (.getfield 40, 3) := by decide +kernel
theorem dX6_thrown_4 : decode cX6_thrown 4 = .ok (.ireturn, 1) := by decide +kernel
theorem dX6_no_0 : decode cX6_no 0 = .ok (.aload_n 0, 1) := by decide +kernel
theorem dX6_no_1 : decode cX6_no 1 = .ok (.iload_n 1, 1) := by decide +kernel
theorem dX6_no_2 : decode cX6_no 2 = .ok (.putfield 40, 3) := by decide +kernel
theorem dX6_no_5 : decode cX6_no 5 = .ok (.iconst 0, 1) := by decide +kernel
theorem dX6_no_6 : decode cX6_no 6 = .ok (.ireturn, 1) := by decide +kernel
theorem dX6_isIn_0 : decode cX6_isIn 0 = .ok (.iload_n 0, 1) := by decide +kernel
theorem dX6_isIn_1 : decode cX6_isIn 1 = .ok (.iload_n 1, 1) := by decide +kernel
theorem dX6_isIn_2 : decode cX6_isIn 2 = .ok (.if_icmp .lt 12, 3) := by decide +kernel
theorem dX6_isIn_5 : decode cX6_isIn 5 = .ok (.iload_n 0, 1) := by decide +kernel
theorem dX6_isIn_6 : decode cX6_isIn 6 = .ok (.iload_n 2, 1) := by decide +kernel
theorem dX6_isIn_7 : decode cX6_isIn 7 = .ok (.if_icmp .gt 7, 3) := by decide +kernel
theorem dX6_isIn_10 : decode cX6_isIn 10 = .ok (.iconst 1, 1) := by decide +kernel
theorem dX6_isIn_11 : decode cX6_isIn 11 = .ok (.goto 4, 3) := by decide +kernel
theorem dX6_isIn_14 : decode cX6_isIn 14 = .ok (.iconst 0, 1) := by decide +kernel
theorem dX6_isIn_15 : decode cX6_isIn 15 = .ok (.ireturn, 1) := by decide +kernel
theorem dX6_isPlace_0 : decode cX6_isPlace 0 = .ok (.iload_n 0, 1) := by decide +kernel
theorem dX6_isPlace_1 : decode cX6_isPlace 1 = .ok (.iconst 0, 1) := by decide +kernel
theorem dX6_isPlace_2 : decode cX6_isPlace 2 = .ok (.bipush 29, 2) := by decide +kernel
theorem dX6_isPlace_4 : decode cX6_isPlace 4 = .ok (.invokestatic 44, 3) := by decide +kernel
theorem dX6_isPlace_7 : decode cX6_isPlace 7 = .ok (.ireturn, 1) := by decide +kernel
theorem dX6_isYard_0 : decode cX6_isYard 0 = .ok (.iload_n 1, 1) := by decide +kernel
theorem dX6_isYard_1 : decode cX6_isYard 1 = .ok (.iconst 0, 1) := by decide +kernel
theorem dX6_isYard_2 : decode cX6_isYard 2 = .ok (.aload_n 0, 1) := by decide +kernel
theorem dX6_isYard_3 : decode cX6_isYard 3 = .ok (.getfield 48, 3) := by decide +kernel
theorem dX6_isYard_6 : decode cX6_isYard 6 = .ok (.iconst 1, 1) := by decide +kernel
theorem dX6_isYard_7 : decode cX6_isYard 7 = .ok (.isub, 1) := by decide +kernel
theorem dX6_isYard_8 : decode cX6_isYard 8 = .ok (.invokestatic 44, 3) := by decide +kernel
theorem dX6_isYard_11 : decode cX6_isYard 11 = .ok (.ireturn, 1) := by decide +kernel
theorem dX6_isCannon_0 : decode cX6_isCannon 0 = .ok (.iload_n 1, 1) := by decide +kernel
theorem dX6_isCannon_1 : decode cX6_isCannon 1 = .ok (.iconst 0, 1) := by decide +kernel
theorem dX6_isCannon_2 : decode cX6_isCannon 2 = .ok (.aload_n 0, 1) := by decide +kernel
theorem dX6_isCannon_3 : decode cX6_isCannon 3 = .ok (.getfield 51, 3) := by decide +kernel
theorem dX6_isCannon_6 : decode cX6_isCannon 6 = .ok (.iconst 1, 1) := by decide +kernel
theorem dX6_isCannon_7 : decode cX6_isCannon 7 = .ok (.isub, 1) := by decide +kernel
theorem dX6_isCannon_8 : decode cX6_isCannon 8 = .ok (.invokestatic 44, 3) := by decide +kernel
theorem dX6_isCannon_11 : decode cX6_isCannon 11 = .ok (.ireturn, 1) := by decide +kernel
theorem dX6_plant_0 : decode cX6_plant 0 = .ok (.aload_n 0, 1) := by decide +kernel
theorem dX6_plant_1 : decode cX6_plant 1 = .ok (.iconst 0, 1) := by decide +kernel
theorem dX6_plant_2 : decode cX6_plant 2 = .ok (.putfield 40, 3) := by decide +kernel
theorem dX6_plant_5 : decode cX6_plant 5 = .ok (.iload_n 1, 1) := by decide +kernel
theorem dX6_plant_6 : decode cX6_plant 6 = .ok (.invokestatic 54, 3) := by decide +kernel
theorem dX6_plant_9 : decode cX6_plant 9 = .ok (.ifCond .eq 13, 3) := by decide +kernel
theorem dX6_plant_12 : decode cX6_plant 12 = .ok (.iload_n 2, 1) := by decide +kernel
theorem dX6_plant_13 : decode cX6_plant 13 = .ok (.iconst 0, 1) := by decide +kernel
theorem dX6_plant_14 : decode cX6_plant 14 = .ok (.bipush 99, 2) := by decide +kernel
theorem dX6_plant_16 : decode cX6_plant 16 = .ok (.invokestatic 44, 3) := by decide +kernel
theorem dX6_plant_19 : decode cX6_plant 19 = .ok (.ifCond .ne 9, 3) := by decide +kernel
theorem dX6_plant_22 : decode cX6_plant 22 = .ok (.aload_n 0, 1) := by decide +kernel
theorem dX6_plant_23 : decode cX6_plant 23 = .ok (.iconst 1, 1) := by decide +kernel
theorem dX6_plant_24 : decode cX6_plant 24 = .ok (.invokevirtual 58, 3) := by decide +kernel
theorem dX6_plant_27 : decode cX6_plant 27 = .ok (.ireturn, 1) := by decide +kernel
theorem dX6_plant_28 : decode cX6_plant 28 = .ok (.aload_n 0, 1) := by decide +kernel
theorem dX6_plant_29 : decode cX6_plant 29 = .ok (.getfield 48, 3) := by decide +kernel
theorem dX6_plant_32 : decode cX6_plant 32 = .ok (.bipush 10, 2) := by decide +kernel
theorem dX6_plant_34 : decode cX6_plant 34 = .ok (.if_icmp .ne 9, 3) := by decide +kernel
theorem dX6_plant_37 : decode cX6_plant 37 = .ok (.aload_n 0, 1) := by decide +kernel
theorem dX6_plant_38 : decode cX6_plant 38 = .ok (.iconst 2, 1) := by decide +kernel
theorem dX6_plant_39 : decode cX6_plant 39 = .ok (.invokevirtual 58, 3) := by decide +kernel
theorem dX6_plant_42 : decode cX6_plant 42 = .ok (.ireturn, 1) := by decide +kernel
theorem dX6_plant_43 : decode cX6_plant 43 = .ok (.aload_n 0, 1) := by decide +kernel
theorem dX6_plant_44 : decode cX6_plant 44 = .ok (.getfield 9, 3) := by decide +kernel
theorem dX6_plant_47 : decode cX6_plant 47 = .ok (.aload_n 0, 1) := by decide +kernel
theorem dX6_plant_48 : decode cX6_plant 48 = .ok (.getfield 48, 3) := by decide +kernel
theorem dX6_plant_51 : decode cX6_plant 51 = .ok (.iload_n 1, 1) := by decide +kernel
theorem dX6_plant_52 : decode cX6_plant 52 = .ok (.iastore, 1) := by decide +kernel
theorem dX6_plant_53 : decode cX6_plant 53 = .ok (.aload_n 0, 1) := by decide +kernel
theorem dX6_plant_54 : decode cX6_plant 54 = .ok (.getfield 33, 3) := by decide +kernel
theorem dX6_plant_57 : decode cX6_plant 57 = .ok (.getfield 62, 3) := by decide +kernel
theorem dX6_plant_60 : decode cX6_plant 60 = .ok (.aload_n 0, 1) := by decide +kernel
theorem dX6_plant_61 : decode cX6_plant 61 = .ok (.getfield 48, 3) := by decide +kernel
theorem dX6_plant_64 : decode cX6_plant 64 = .ok (.iload_n 2, 1) := by decide +kernel
theorem dX6_plant_65 : decode cX6_plant 65 = .ok (.iastore, 1) := by decide +kernel
theorem dX6_plant_66 : decode cX6_plant 66 = .ok (.aload_n 0, 1) := by decide +kernel
theorem dX6_plant_67 : decode cX6_plant 67 = .ok (.getfield 13, 3) := by decide +kernel
theorem dX6_plant_70 : decode cX6_plant 70 = .ok (.aload_n 0, 1) := by decide +kernel
theorem dX6_plant_71 : decode cX6_plant 71 = .ok (.getfield 48, 3) := by decide +kernel
theorem dX6_plant_74 : decode cX6_plant 74 = .ok (.iload_n 3, 1) := by decide +kernel
theorem dX6_plant_75 : decode cX6_plant 75 = .ok (.ifCond .eq 7, 3) := by decide +kernel
theorem dX6_plant_78 : decode cX6_plant 78 = .ok (.iconst 1, 1) := by decide +kernel
theorem dX6_plant_79 : decode cX6_plant 79 = .ok (.goto 4, 3) := by decide +kernel
theorem dX6_plant_82 : decode cX6_plant 82 = .ok (.iconst 0, 1) := by decide +kernel
theorem dX6_plant_83 : decode cX6_plant 83 = .ok (.iastore, 1) := by decide +kernel
theorem dX6_plant_84 : decode cX6_plant 84 = .ok (.aload_n 0, 1) := by decide +kernel
theorem dX6_plant_85 : decode cX6_plant 85 = .ok (.getfield 16, 3) := by decide +kernel
theorem dX6_plant_88 : decode cX6_plant 88 = .ok (.aload_n 0, 1) := by decide +kernel
theorem dX6_plant_89 : decode cX6_plant 89 = .ok (.getfield 48, 3) := by decide +kernel
theorem dX6_plant_92 : decode cX6_plant 92 = .ok (.iload 4, 2) := by decide +kernel
theorem dX6_plant_94 : decode cX6_plant 94 = .ok (.ifCond .eq 7, 3) := by decide +kernel
theorem dX6_plant_97 : decode cX6_plant 97 = .ok (.iconst 1, 1) := by decide +kernel
theorem dX6_plant_98 : decode cX6_plant 98 = .ok (.goto 4, 3) := by decide +kernel
theorem dX6_plant_101 : decode cX6_plant 101 = .ok (.iconst 0, 1) := by decide +kernel
theorem dX6_plant_102 : decode cX6_plant 102 = .ok (.iastore, 1) := by decide +kernel
theorem dX6_plant_103 : decode cX6_plant 103 = .ok (.aload_n 0, 1) := by decide +kernel
theorem dX6_plant_104 : decode cX6_plant 104 = .ok (.dup, 1) := by decide +kernel
theorem dX6_plant_105 : decode cX6_plant 105 = .ok (.getfield 48, 3) := by decide +kernel
theorem dX6_plant_108 : decode cX6_plant 108 = .ok (.iconst 1, 1) := by decide +kernel
theorem dX6_plant_109 : decode cX6_plant 109 = .ok (.iadd, 1) := by decide +kernel
theorem dX6_plant_110 : decode cX6_plant 110 = .ok (.putfield 48, 3) := by decide +kernel
theorem dX6_plant_113 : decode cX6_plant 113 = .ok (.aload_n 0, 1) := by decide +kernel
theorem dX6_plant_114 : decode cX6_plant 114 = .ok (.getfield 48, 3) := by decide +kernel
theorem dX6_plant_117 : decode cX6_plant 117 = .ok (.iconst 1, 1) := by decide +kernel
theorem dX6_plant_118 : decode cX6_plant 118 = .ok (.isub, 1) := by decide +kernel
theorem dX6_plant_119 : decode cX6_plant 119 = .ok (.ireturn, 1) := by decide +kernel
theorem dX6_sign_0 : decode cX6_sign 0 = .ok (.aload_n 0, 1) := by decide +kernel
theorem dX6_sign_1 : decode cX6_sign 1 = .ok (.iconst 0, 1) := by decide +kernel
theorem dX6_sign_2 : decode cX6_sign 2 = .ok (.putfield 40, 3) := by decide +kernel
theorem dX6_sign_5 : decode cX6_sign 5 = .ok (.aload_n 0, 1) := by decide +kernel
theorem dX6_sign_6 : decode cX6_sign 6 = .ok (.iload_n 1, 1) := by decide +kernel
theorem dX6_sign_7 : decode cX6_sign 7 = .ok (.invokevirtual 65, 3) := by decide +kernel
theorem dX6_sign_10 : decode cX6_sign 10 = .ok (.ifCond .ne 9, 3) := by decide +kernel
theorem dX6_sign_13 : decode cX6_sign 13 = .ok (.aload_n 0, 1) := by decide +kernel
theorem dX6_sign_14 : decode cX6_sign 14 = .ok (.iconst 1, 1) := by decide +kernel
theorem dX6_sign_15 : decode cX6_sign 15 = .ok (.invokevirtual 58, 3) := by decide +kernel
theorem dX6_sign_18 : decode cX6_sign 18 = .ok (.ireturn, 1) := by decide +kernel
theorem dX6_sign_19 : decode cX6_sign 19 = .ok (.aload_n 0, 1) := by decide +kernel
theorem dX6_sign_20 : decode cX6_sign 20 = .ok (.getfield 13, 3) := by decide +kernel
theorem dX6_sign_23 : decode cX6_sign 23 = .ok (.iload_n 1, 1) := by decide +kernel
theorem dX6_sign_24 : decode cX6_sign 24 = .ok (.iaload, 1) := by decide +kernel
theorem dX6_sign_25 : decode cX6_sign 25 = .ok (.iconst 2, 1) := by decide +kernel
theorem dX6_sign_26 : decode cX6_sign 26 = .ok (.aload_n 0, 1) := by decide +kernel
theorem dX6_sign_27 : decode cX6_sign 27 = .ok (.getfield 16, 3) := by decide +kernel
theorem dX6_sign_30 : decode cX6_sign 30 = .ok (.iload_n 1, 1) := by decide +kernel
theorem dX6_sign_31 : decode cX6_sign 31 = .ok (.iaload, 1) := by decide +kernel
theorem dX6_sign_32 : decode cX6_sign 32 = .ok (.imul, 1) := by decide +kernel
theorem dX6_sign_33 : decode cX6_sign 33 = .ok (.iadd, 1) := by decide +kernel
theorem dX6_sign_34 : decode cX6_sign 34 = .ok (.istore 4, 2) := by decide +kernel
theorem dX6_sign_36 : decode cX6_sign 36 = .ok (.aload_n 0, 1) := by decide +kernel
theorem dX6_sign_37 : decode cX6_sign 37 = .ok (.getfield 13, 3) := by decide +kernel
theorem dX6_sign_40 : decode cX6_sign 40 = .ok (.iload_n 1, 1) := by decide +kernel
theorem dX6_sign_41 : decode cX6_sign 41 = .ok (.iload_n 2, 1) := by decide +kernel
theorem dX6_sign_42 : decode cX6_sign 42 = .ok (.ifCond .eq 7, 3) := by decide +kernel
theorem dX6_sign_45 : decode cX6_sign 45 = .ok (.iconst 1, 1) := by decide +kernel
theorem dX6_sign_46 : decode cX6_sign 46 = .ok (.goto 4, 3) := by decide +kernel
theorem dX6_sign_49 : decode cX6_sign 49 = .ok (.iconst 0, 1) := by decide +kernel
theorem dX6_sign_50 : decode cX6_sign 50 = .ok (.iastore, 1) := by decide +kernel
theorem dX6_sign_51 : decode cX6_sign 51 = .ok (.aload_n 0, 1) := by decide +kernel
theorem dX6_sign_52 : decode cX6_sign 52 = .ok (.getfield 16, 3) := by decide +kernel
theorem dX6_sign_55 : decode cX6_sign 55 = .ok (.iload_n 1, 1) := by decide +kernel
theorem dX6_sign_56 : decode cX6_sign 56 = .ok (.iload_n 3, 1) := by decide +kernel
theorem dX6_sign_57 : decode cX6_sign 57 = .ok (.ifCond .eq 7, 3) := by decide +kernel
theorem dX6_sign_60 : decode cX6_sign 60 = .ok (.iconst 1, 1) := by decide +kernel
theorem dX6_sign_61 : decode cX6_sign 61 = .ok (.goto 4, 3) := by decide +kernel
theorem dX6_sign_64 : decode cX6_sign 64 = .ok (.iconst 0, 1) := by decide +kernel
theorem dX6_sign_65 : decode cX6_sign 65 = .ok (.iastore, 1) := by decide +kernel
theorem dX6_sign_66 : decode cX6_sign 66 = .ok (.iload 4, 2) := by decide +kernel
theorem dX6_sign_68 : decode cX6_sign 68 = .ok (.ireturn, 1) := by decide +kernel
theorem dX6_cannon_0 : decode cX6_cannon 0 = .ok (.aload_n 0, 1) := by decide +kernel
theorem dX6_cannon_1 : decode cX6_cannon 1 = .ok (.iconst 0, 1) := by decide +kernel
theorem dX6_cannon_2 : decode cX6_cannon 2 = .ok (.putfield 40, 3) := by decide +kernel
theorem dX6_cannon_5 : decode cX6_cannon 5 = .ok (.iload_n 1, 1) := by decide +kernel
theorem dX6_cannon_6 : decode cX6_cannon 6 = .ok (.invokestatic 54, 3) := by decide +kernel
theorem dX6_cannon_9 : decode cX6_cannon 9 = .ok (.ifCond .eq 23, 3) := by decide +kernel
theorem dX6_cannon_12 : decode cX6_cannon 12 = .ok (.iload_n 2, 1) := by decide +kernel
theorem dX6_cannon_13 : decode cX6_cannon 13 = .ok (.iconst 1, 1) := by decide +kernel
theorem dX6_cannon_14 : decode cX6_cannon 14 = .ok (.bipush 9, 2) := by decide +kernel
theorem dX6_cannon_16 : decode cX6_cannon 16 = .ok (.invokestatic 44, 3) := by decide +kernel
theorem dX6_cannon_19 : decode cX6_cannon 19 = .ok (.ifCond .eq 13, 3) := by decide +kernel
theorem dX6_cannon_22 : decode cX6_cannon 22 = .ok (.iload_n 3, 1) := by decide +kernel
theorem dX6_cannon_23 : decode cX6_cannon 23 = .ok (.iconst 0, 1) := by decide +kernel
theorem dX6_cannon_24 : decode cX6_cannon 24 = .ok (.bipush 60, 2) := by decide +kernel
theorem dX6_cannon_26 : decode cX6_cannon 26 = .ok (.invokestatic 44, 3) := by decide +kernel
theorem dX6_cannon_29 : decode cX6_cannon 29 = .ok (.ifCond .ne 9, 3) := by decide +kernel
theorem dX6_cannon_32 : decode cX6_cannon 32 = .ok (.aload_n 0, 1) := by decide +kernel
theorem dX6_cannon_33 : decode cX6_cannon 33 = .ok (.iconst 1, 1) := by decide +kernel
theorem dX6_cannon_34 : decode cX6_cannon 34 = .ok (.invokevirtual 58, 3) := by decide +kernel
theorem dX6_cannon_37 : decode cX6_cannon 37 = .ok (.ireturn, 1) := by decide +kernel
theorem dX6_cannon_38 : decode cX6_cannon 38 = .ok (.aload_n 0, 1) := by decide +kernel
theorem dX6_cannon_39 : decode cX6_cannon 39 = .ok (.getfield 51, 3) := by decide +kernel
theorem dX6_cannon_42 : decode cX6_cannon 42 = .ok (.bipush 6, 2) := by decide +kernel
theorem dX6_cannon_44 : decode cX6_cannon 44 = .ok (.if_icmp .ne 9, 3) := by decide +kernel
theorem dX6_cannon_47 : decode cX6_cannon 47 = .ok (.aload_n 0, 1) := by decide +kernel
theorem dX6_cannon_48 : decode cX6_cannon 48 = .ok (.iconst 2, 1) := by decide +kernel
theorem dX6_cannon_49 : decode cX6_cannon 49 = .ok (.invokevirtual 58, 3) := by decide +kernel
theorem dX6_cannon_52 : decode cX6_cannon 52 = .ok (.ireturn, 1) := by decide +kernel
theorem dX6_cannon_53 : decode cX6_cannon 53 = .ok (.aload_n 0, 1) := by decide +kernel
theorem dX6_cannon_54 : decode cX6_cannon 54 = .ok (.getfield 33, 3) := by decide +kernel
theorem dX6_cannon_57 : decode cX6_cannon 57 = .ok (.getfield 68, 3) := by decide +kernel
theorem dX6_cannon_60 : decode cX6_cannon 60 = .ok (.aload_n 0, 1) := by decide +kernel
theorem dX6_cannon_61 : decode cX6_cannon 61 = .ok (.getfield 51, 3) := by decide +kernel
theorem dX6_cannon_64 : decode cX6_cannon 64 = .ok (.iload_n 1, 1) := by decide +kernel
theorem dX6_cannon_65 : decode cX6_cannon 65 = .ok (.iastore, 1) := by decide +kernel
theorem dX6_cannon_66 : decode cX6_cannon 66 = .ok (.aload_n 0, 1) := by decide +kernel
theorem dX6_cannon_67 : decode cX6_cannon 67 = .ok (.getfield 19, 3) := by decide +kernel
theorem dX6_cannon_70 : decode cX6_cannon 70 = .ok (.aload_n 0, 1) := by decide +kernel
theorem dX6_cannon_71 : decode cX6_cannon 71 = .ok (.getfield 51, 3) := by decide +kernel
theorem dX6_cannon_74 : decode cX6_cannon 74 = .ok (.iload_n 2, 1) := by decide +kernel
theorem dX6_cannon_75 : decode cX6_cannon 75 = .ok (.iastore, 1) := by decide +kernel
theorem dX6_cannon_76 : decode cX6_cannon 76 = .ok (.aload_n 0, 1) := by decide +kernel
theorem dX6_cannon_77 : decode cX6_cannon 77 = .ok (.getfield 33, 3) := by decide +kernel
theorem dX6_cannon_80 : decode cX6_cannon 80 = .ok (.getfield 71, 3) := by decide +kernel
theorem dX6_cannon_83 : decode cX6_cannon 83 = .ok (.aload_n 0, 1) := by decide +kernel
theorem dX6_cannon_84 : decode cX6_cannon 84 = .ok (.getfield 51, 3) := by decide +kernel
theorem dX6_cannon_87 : decode cX6_cannon 87 = .ok (.iload_n 3, 1) := by decide +kernel
theorem dX6_cannon_88 : decode cX6_cannon 88 = .ok (.iastore, 1) := by decide +kernel
theorem dX6_cannon_89 : decode cX6_cannon 89 = .ok (.aload_n 0, 1) := by decide +kernel
theorem dX6_cannon_90 : decode cX6_cannon 90 = .ok (.dup, 1) := by decide +kernel
theorem dX6_cannon_91 : decode cX6_cannon 91 = .ok (.getfield 51, 3) := by decide +kernel
theorem dX6_cannon_94 : decode cX6_cannon 94 = .ok (.iconst 1, 1) := by decide +kernel
theorem dX6_cannon_95 : decode cX6_cannon 95 = .ok (.iadd, 1) := by decide +kernel
theorem dX6_cannon_96 : decode cX6_cannon 96 = .ok (.putfield 51, 3) := by decide +kernel
theorem dX6_cannon_99 : decode cX6_cannon 99 = .ok (.aload_n 0, 1) := by decide +kernel
theorem dX6_cannon_100 : decode cX6_cannon 100 = .ok (.getfield 51, 3) := by decide +kernel
theorem dX6_cannon_103 : decode cX6_cannon 103 = .ok (.iconst 1, 1) := by decide +kernel
theorem dX6_cannon_104 : decode cX6_cannon 104 = .ok (.isub, 1) := by decide +kernel
theorem dX6_cannon_105 : decode cX6_cannon 105 = .ok (.ireturn, 1) := by decide +kernel
theorem dX6_load_0 : decode cX6_load 0 = .ok (.aload_n 0, 1) := by decide +kernel
theorem dX6_load_1 : decode cX6_load 1 = .ok (.iconst 0, 1) := by decide +kernel
theorem dX6_load_2 : decode cX6_load 2 = .ok (.putfield 40, 3) := by decide +kernel
theorem dX6_load_5 : decode cX6_load 5 = .ok (.aload_n 0, 1) := by decide +kernel
theorem dX6_load_6 : decode cX6_load 6 = .ok (.iload_n 1, 1) := by decide +kernel
theorem dX6_load_7 : decode cX6_load 7 = .ok (.invokevirtual 74, 3) := by decide +kernel
theorem dX6_load_10 : decode cX6_load 10 = .ok (.ifCond .ne 9, 3) := by decide +kernel
theorem dX6_load_13 : decode cX6_load 13 = .ok (.aload_n 0, 1) := by decide +kernel
theorem dX6_load_14 : decode cX6_load 14 = .ok (.iconst 1, 1) := by decide +kernel
theorem dX6_load_15 : decode cX6_load 15 = .ok (.invokevirtual 58, 3) := by decide +kernel
theorem dX6_load_18 : decode cX6_load 18 = .ok (.ireturn, 1) := by decide +kernel
theorem dX6_load_19 : decode cX6_load 19 = .ok (.iload_n 2, 1) := by decide +kernel
theorem dX6_load_20 : decode cX6_load 20 = .ok (.iconst 1, 1) := by decide +kernel
theorem dX6_load_21 : decode cX6_load 21 = .ok (.bipush 60, 2) := by decide +kernel
theorem dX6_load_23 : decode cX6_load 23 = .ok (.invokestatic 44, 3) := by decide +kernel
theorem dX6_load_26 : decode cX6_load 26 = .ok (.ifCond .ne 9, 3) := by decide +kernel
theorem dX6_load_29 : decode cX6_load 29 = .ok (.aload_n 0, 1) := by decide +kernel
theorem dX6_load_30 : decode cX6_load 30 = .ok (.iconst 2, 1) := by decide +kernel
theorem dX6_load_31 : decode cX6_load 31 = .ok (.invokevirtual 58, 3) := by decide +kernel
theorem dX6_load_34 : decode cX6_load 34 = .ok (.ireturn, 1) := by decide +kernel
theorem dX6_load_35 : decode cX6_load 35 = .ok (.aload_n 0, 1) := by decide +kernel
theorem dX6_load_36 : decode cX6_load 36 = .ok (.getfield 33, 3) := by decide +kernel
theorem dX6_load_39 : decode cX6_load 39 = .ok (.dup, 1) := by decide +kernel
theorem dX6_load_40 : decode cX6_load 40 = .ok (.getfield 77, 3) := by decide +kernel
theorem dX6_load_43 : decode cX6_load 43 = .ok (.iload_n 2, 1) := by decide +kernel
theorem dX6_load_44 : decode cX6_load 44 = .ok (.iconst 5, 1) := by decide +kernel
theorem dX6_load_45 : decode cX6_load 45 = .ok (.idiv, 1) := by decide +kernel
theorem dX6_load_46 : decode cX6_load 46 = .ok (.isub, 1) := by decide +kernel
theorem dX6_load_47 : decode cX6_load 47 = .ok (.putfield 77, 3) := by decide +kernel
theorem dX6_load_50 : decode cX6_load 50 = .ok (.aload_n 0, 1) := by decide +kernel
theorem dX6_load_51 : decode cX6_load 51 = .ok (.getfield 33, 3) := by decide +kernel
theorem dX6_load_54 : decode cX6_load 54 = .ok (.getfield 71, 3) := by decide +kernel
theorem dX6_load_57 : decode cX6_load 57 = .ok (.iload_n 1, 1) := by decide +kernel
theorem dX6_load_58 : decode cX6_load 58 = .ok (.bipush 60, 2) := by decide +kernel
theorem dX6_load_60 : decode cX6_load 60 = .ok (.aload_n 0, 1) := by decide +kernel
theorem dX6_load_61 : decode cX6_load 61 = .ok (.getfield 33, 3) := by decide +kernel
theorem dX6_load_64 : decode cX6_load 64 = .ok (.getfield 71, 3) := by decide +kernel
theorem dX6_load_67 : decode cX6_load 67 = .ok (.iload_n 1, 1) := by decide +kernel
theorem dX6_load_68 : decode cX6_load 68 = .ok (.iaload, 1) := by decide +kernel
theorem dX6_load_69 : decode cX6_load 69 = .ok (.iload_n 2, 1) := by decide +kernel
theorem dX6_load_70 : decode cX6_load 70 = .ok (.iadd, 1) := by decide +kernel
theorem dX6_load_71 : decode cX6_load 71 = .ok (.invokestatic 80, 3) := by decide +kernel
theorem dX6_load_74 : decode cX6_load 74 = .ok (.iastore, 1) := by decide +kernel
theorem dX6_load_75 : decode cX6_load 75 = .ok (.aload_n 0, 1) := by decide +kernel
theorem dX6_load_76 : decode cX6_load 76 = .ok (.getfield 33, 3) := by decide +kernel
theorem dX6_load_79 : decode cX6_load 79 = .ok (.getfield 71, 3) := by decide +kernel
theorem dX6_load_82 : decode cX6_load 82 = .ok (.iload_n 1, 1) := by decide +kernel
theorem dX6_load_83 : decode cX6_load 83 = .ok (.iaload, 1) := by decide +kernel
theorem dX6_load_84 : decode cX6_load 84 = .ok (.ireturn, 1) := by decide +kernel
theorem dX6_gather_0 : decode cX6_gather 0 = .ok (.aload_n 0, 1) := by decide +kernel
theorem dX6_gather_1 : decode cX6_gather 1 = .ok (.iconst 0, 1) := by decide +kernel
theorem dX6_gather_2 : decode cX6_gather 2 = .ok (.putfield 40, 3) := by decide +kernel
theorem dX6_gather_5 : decode cX6_gather 5 = .ok (.iload_n 1, 1) := by decide +kernel
theorem dX6_gather_6 : decode cX6_gather 6 = .ok (.invokestatic 54, 3) := by decide +kernel
theorem dX6_gather_9 : decode cX6_gather 9 = .ok (.ifCond .eq 23, 3) := by decide +kernel
theorem dX6_gather_12 : decode cX6_gather 12 = .ok (.iload_n 2, 1) := by decide +kernel
theorem dX6_gather_13 : decode cX6_gather 13 = .ok (.bipush (-3), 2) := by decide +kernel
theorem dX6_gather_15 : decode cX6_gather 15 = .ok (.iconst 3, 1) := by decide +kernel
theorem dX6_gather_16 : decode cX6_gather 16 = .ok (.invokestatic 44, 3) := by decide +kernel
theorem dX6_gather_19 : decode cX6_gather 19 = .ok (.ifCond .eq 13, 3) := by decide +kernel
theorem dX6_gather_22 : decode cX6_gather 22 = .ok (.iload_n 3, 1) := by decide +kernel
theorem dX6_gather_23 : decode cX6_gather 23 = .ok (.iconst 0, 1) := by decide +kernel
theorem dX6_gather_24 : decode cX6_gather 24 = .ok (.bipush 60, 2) := by decide +kernel
theorem dX6_gather_26 : decode cX6_gather 26 = .ok (.invokestatic 44, 3) := by decide +kernel
theorem dX6_gather_29 : decode cX6_gather 29 = .ok (.ifCond .ne 9, 3) := by decide +kernel
theorem dX6_gather_32 : decode cX6_gather 32 = .ok (.aload_n 0, 1) := by decide +kernel
theorem dX6_gather_33 : decode cX6_gather 33 = .ok (.iconst 1, 1) := by decide +kernel
theorem dX6_gather_34 : decode cX6_gather 34 = .ok (.invokevirtual 58, 3) := by decide +kernel
theorem dX6_gather_37 : decode cX6_gather 37 = .ok (.ireturn, 1) := by decide +kernel
theorem dX6_gather_38 : decode cX6_gather 38 = .ok (.aload_n 0, 1) := by decide +kernel
theorem dX6_gather_39 : decode cX6_gather 39 = .ok (.getfield 86, 3) := by decide +kernel
theorem dX6_gather_42 : decode cX6_gather 42 = .ok (.bipush 20, 2) := by decide +kernel
theorem dX6_gather_44 : decode cX6_gather 44 = .ok (.if_icmp .ne 9, 3) := by decide +kernel
theorem dX6_gather_47 : decode cX6_gather 47 = .ok (.aload_n 0, 1) := by decide +kernel
theorem dX6_gather_48 : decode cX6_gather 48 = .ok (.iconst 2, 1) := by decide +kernel
theorem dX6_gather_49 : decode cX6_gather 49 = .ok (.invokevirtual 58, 3) := by decide +kernel
theorem dX6_gather_52 : decode cX6_gather 52 = .ok (.ireturn, 1) := by decide +kernel
theorem dX6_gather_53 : decode cX6_gather 53 = .ok (.aload_n 0, 1) := by decide +kernel
theorem dX6_gather_54 : decode cX6_gather 54 = .ok (.getfield 33, 3) := by decide +kernel
theorem dX6_gather_57 : decode cX6_gather 57 = .ok (.getfield 89, 3) := by decide +kernel
theorem dX6_gather_60 : decode cX6_gather 60 = .ok (.aload_n 0, 1) := by decide +kernel
theorem dX6_gather_61 : decode cX6_gather 61 = .ok (.getfield 86, 3) := by decide +kernel
theorem dX6_gather_64 : decode cX6_gather 64 = .ok (.iload_n 1, 1) := by decide +kernel
theorem dX6_gather_65 : decode cX6_gather 65 = .ok (.iastore, 1) := by decide +kernel
theorem dX6_gather_66 : decode cX6_gather 66 = .ok (.aload_n 0, 1) := by decide +kernel
theorem dX6_gather_67 : decode cX6_gather 67 = .ok (.getfield 22, 3) := by decide +kernel
theorem dX6_gather_70 : decode cX6_gather 70 = .ok (.aload_n 0, 1) := by decide +kernel
theorem dX6_gather_71 : decode cX6_gather 71 = .ok (.getfield 86, 3) := by decide +kernel
theorem dX6_gather_74 : decode cX6_gather 74 = .ok (.iload_n 2, 1) := by decide +kernel
theorem dX6_gather_75 : decode cX6_gather 75 = .ok (.iastore, 1) := by decide +kernel
theorem dX6_gather_76 : decode cX6_gather 76 = .ok (.aload_n 0, 1) := by decide +kernel
theorem dX6_gather_77 : decode cX6_gather 77 = .ok (.getfield 33, 3) := by decide +kernel
theorem dX6_gather_80 : decode cX6_gather 80 = .ok (.getfield 92, 3) := by decide +kernel
theorem dX6_gather_83 : decode cX6_gather 83 = .ok (.aload_n 0, 1) := by decide +kernel
theorem dX6_gather_84 : decode cX6_gather 84 = .ok (.getfield 86, 3) := by decide +kernel
theorem dX6_gather_87 : decode cX6_gather 87 = .ok (.iload_n 3, 1) := by decide +kernel
theorem dX6_gather_88 : decode cX6_gather 88 = .ok (.iastore, 1) := by decide +kernel
theorem dX6_gather_89 : decode cX6_gather 89 = .ok (.aload_n 0, 1) := by decide +kernel
theorem dX6_gather_90 : decode cX6_gather 90 = .ok (.dup, 1) := by decide +kernel
theorem dX6_gather_91 : decode cX6_gather 91 = .ok (.getfield 86, 3) := by decide +kernel
theorem dX6_gather_94 : decode cX6_gather 94 = .ok (.iconst 1, 1) := by decide +kernel
theorem dX6_gather_95 : decode cX6_gather 95 = .ok (.iadd, 1) := by decide +kernel
theorem dX6_gather_96 : decode cX6_gather 96 = .ok (.putfield 86, 3) := by decide +kernel
theorem dX6_gather_99 : decode cX6_gather 99 = .ok (.aload_n 0, 1) := by decide +kernel
theorem dX6_gather_100 : decode cX6_gather 100 = .ok (.getfield 86, 3) := by decide +kernel
theorem dX6_gather_103 : decode cX6_gather 103 = .ok (.iconst 1, 1) := by decide +kernel
theorem dX6_gather_104 : decode cX6_gather 104 = .ok (.isub, 1) := by decide +kernel
theorem dX6_gather_105 : decode cX6_gather 105 = .ok (.ireturn, 1) := by decide +kernel
theorem dX6_setWind_0 : decode cX6_setWind 0 = .ok (.aload_n 0, 1) := by decide +kernel
theorem dX6_setWind_1 : decode cX6_setWind 1 = .ok (.iconst 0, 1) := by decide +kernel
theorem dX6_setWind_2 : decode cX6_setWind 2 = .ok (.putfield 40, 3) := by decide +kernel
theorem dX6_setWind_5 : decode cX6_setWind 5 = .ok (.iload_n 1, 1) := by decide +kernel
theorem dX6_setWind_6 : decode cX6_setWind 6 = .ok (.iconst 0, 1) := by decide +kernel
theorem dX6_setWind_7 : decode cX6_setWind 7 = .ok (.iconst 5, 1) := by decide +kernel
theorem dX6_setWind_8 : decode cX6_setWind 8 = .ok (.invokestatic 44, 3) := by decide +kernel
theorem dX6_setWind_11 : decode cX6_setWind 11 = .ok (.ifCond .ne 9, 3) := by decide +kernel
theorem dX6_setWind_14 : decode cX6_setWind 14 = .ok (.aload_n 0, 1) := by decide +kernel
theorem dX6_setWind_15 : decode cX6_setWind 15 = .ok (.iconst 1, 1) := by decide +kernel
theorem dX6_setWind_16 : decode cX6_setWind 16 = .ok (.invokevirtual 58, 3) := by decide +kernel
theorem dX6_setWind_19 : decode cX6_setWind 19 = .ok (.ireturn, 1) := by decide +kernel
theorem dX6_setWind_20 : decode cX6_setWind 20 = .ok (.iload_n 2, 1) := by decide +kernel
theorem dX6_setWind_21 : decode cX6_setWind 21 = .ok (.bipush (-2), 2) := by decide +kernel
theorem dX6_setWind_23 : decode cX6_setWind 23 = .ok (.iconst 2, 1) := by decide +kernel
theorem dX6_setWind_24 : decode cX6_setWind 24 = .ok (.invokestatic 44, 3) := by decide +kernel
theorem dX6_setWind_27 : decode cX6_setWind 27 = .ok (.ifCond .ne 9, 3) := by decide +kernel
theorem dX6_setWind_30 : decode cX6_setWind 30 = .ok (.aload_n 0, 1) := by decide +kernel
theorem dX6_setWind_31 : decode cX6_setWind 31 = .ok (.iconst 2, 1) := by decide +kernel
theorem dX6_setWind_32 : decode cX6_setWind 32 = .ok (.invokevirtual 58, 3) := by decide +kernel
theorem dX6_setWind_35 : decode cX6_setWind 35 = .ok (.ireturn, 1) := by decide +kernel
theorem dX6_setWind_36 : decode cX6_setWind 36 = .ok (.aload_n 0, 1) := by decide +kernel
theorem dX6_setWind_37 : decode cX6_setWind 37 = .ok (.getfield 25, 3) := by decide +kernel
theorem dX6_setWind_40 : decode cX6_setWind 40 = .ok (.iload_n 1, 1) := by decide +kernel
theorem dX6_setWind_41 : decode cX6_setWind 41 = .ok (.iaload, 1) := by decide +kernel
theorem dX6_setWind_42 : decode cX6_setWind 42 = .ok (.istore_n 3, 1) := by decide +kernel
theorem dX6_setWind_43 : decode cX6_setWind 43 = .ok (.aload_n 0, 1) := by decide +kernel
theorem dX6_setWind_44 : decode cX6_setWind 44 = .ok (.getfield 25, 3) := by decide +kernel
theorem dX6_setWind_47 : decode cX6_setWind 47 = .ok (.iload_n 1, 1) := by decide +kernel
theorem dX6_setWind_48 : decode cX6_setWind 48 = .ok (.iload_n 2, 1) := by decide +kernel
theorem dX6_setWind_49 : decode cX6_setWind 49 = .ok (.iastore, 1) := by decide +kernel
theorem dX6_setWind_50 : decode cX6_setWind 50 = .ok (.iload_n 3, 1) := by decide +kernel
theorem dX6_setWind_51 : decode cX6_setWind 51 = .ok (.ireturn, 1) := by decide +kernel
theorem dX6_yardTold_0 : decode cX6_yardTold 0 = .ok (.bipush 7, 2) := by decide +kernel
theorem dX6_yardTold_2 : decode cX6_yardTold 2 = .ok (.newarray .int, 2) := by decide +kernel
theorem dX6_yardTold_4 : decode cX6_yardTold 4 = .ok (.dup, 1) := by decide +kernel
theorem dX6_yardTold_5 : decode cX6_yardTold 5 = .ok (.iconst 0, 1) := by decide +kernel
theorem dX6_yardTold_6 : decode cX6_yardTold 6 = .ok (.aload_n 0, 1) := by decide +kernel
theorem dX6_yardTold_7 : decode cX6_yardTold 7 = .ok (.getfield 9, 3) := by decide +kernel
theorem dX6_yardTold_10 : decode cX6_yardTold 10 = .ok (.iload_n 1, 1) := by decide +kernel
theorem dX6_yardTold_11 : decode cX6_yardTold 11 = .ok (.iaload, 1) := by decide +kernel
theorem dX6_yardTold_12 : decode cX6_yardTold 12 = .ok (.iastore, 1) := by decide +kernel
theorem dX6_yardTold_13 : decode cX6_yardTold 13 = .ok (.dup, 1) := by decide +kernel
theorem dX6_yardTold_14 : decode cX6_yardTold 14 = .ok (.iconst 1, 1) := by decide +kernel
theorem dX6_yardTold_15 : decode cX6_yardTold 15 = .ok (.aload_n 0, 1) := by decide +kernel
theorem dX6_yardTold_16 : decode cX6_yardTold 16 = .ok (.getfield 33, 3) := by decide +kernel
theorem dX6_yardTold_19 : decode cX6_yardTold 19 = .ok (.getfield 62, 3) := by decide +kernel
theorem dX6_yardTold_22 : decode cX6_yardTold 22 = .ok (.iload_n 1, 1) := by decide +kernel
theorem dX6_yardTold_23 : decode cX6_yardTold 23 = .ok (.iaload, 1) := by decide +kernel
theorem dX6_yardTold_24 : decode cX6_yardTold 24 = .ok (.iastore, 1) := by decide +kernel
theorem dX6_yardTold_25 : decode cX6_yardTold 25 = .ok (.dup, 1) := by decide +kernel
theorem dX6_yardTold_26 : decode cX6_yardTold 26 = .ok (.iconst 2, 1) := by decide +kernel
theorem dX6_yardTold_27 : decode cX6_yardTold 27 = .ok (.aload_n 0, 1) := by decide +kernel
theorem dX6_yardTold_28 : decode cX6_yardTold 28 = .ok (.getfield 13, 3) := by decide +kernel
theorem dX6_yardTold_31 : decode cX6_yardTold 31 = .ok (.iload_n 1, 1) := by decide +kernel
theorem dX6_yardTold_32 : decode cX6_yardTold 32 = .ok (.iaload, 1) := by decide +kernel
theorem dX6_yardTold_33 : decode cX6_yardTold 33 = .ok (.iastore, 1) := by decide +kernel
theorem dX6_yardTold_34 : decode cX6_yardTold 34 = .ok (.dup, 1) := by decide +kernel
theorem dX6_yardTold_35 : decode cX6_yardTold 35 = .ok (.iconst 3, 1) := by decide +kernel
theorem dX6_yardTold_36 : decode cX6_yardTold 36 = .ok (.aload_n 0, 1) := by decide +kernel
theorem dX6_yardTold_37 : decode cX6_yardTold 37 = .ok (.getfield 16, 3) := by decide +kernel
theorem dX6_yardTold_40 : decode cX6_yardTold 40 = .ok (.iload_n 1, 1) := by decide +kernel
theorem dX6_yardTold_41 : decode cX6_yardTold 41 = .ok (.iaload, 1) := by decide +kernel
theorem dX6_yardTold_42 : decode cX6_yardTold 42 = .ok (.iastore, 1) := by decide +kernel
theorem dX6_yardTold_43 : decode cX6_yardTold 43 = .ok (.dup, 1) := by decide +kernel
theorem dX6_yardTold_44 : decode cX6_yardTold 44 = .ok (.iconst 4, 1) := by decide +kernel
theorem dX6_yardTold_45 : decode cX6_yardTold 45 = .ok (.aload_n 0, 1) := by decide +kernel
theorem dX6_yardTold_46 : decode cX6_yardTold 46 = .ok (.getfield 33, 3) := by decide +kernel
theorem dX6_yardTold_49 : decode cX6_yardTold 49 = .ok (.getfield 95, 3) := by decide +kernel
theorem dX6_yardTold_52 : decode cX6_yardTold 52 = .ok (.iload_n 1, 1) := by decide +kernel
theorem dX6_yardTold_53 : decode cX6_yardTold 53 = .ok (.iaload, 1) := by decide +kernel
theorem dX6_yardTold_54 : decode cX6_yardTold 54 = .ok (.iastore, 1) := by decide +kernel
theorem dX6_yardTold_55 : decode cX6_yardTold 55 = .ok (.dup, 1) := by decide +kernel
theorem dX6_yardTold_56 : decode cX6_yardTold 56 = .ok (.iconst 5, 1) := by decide +kernel
theorem dX6_yardTold_57 : decode cX6_yardTold 57 = .ok (.aload_n 0, 1) := by decide +kernel
theorem dX6_yardTold_58 : decode cX6_yardTold 58 = .ok (.getfield 33, 3) := by decide +kernel
theorem dX6_yardTold_61 : decode cX6_yardTold 61 = .ok (.getfield 98, 3) := by decide +kernel
theorem dX6_yardTold_64 : decode cX6_yardTold 64 = .ok (.iload_n 1, 1) := by decide +kernel
theorem dX6_yardTold_65 : decode cX6_yardTold 65 = .ok (.iaload, 1) := by decide +kernel
theorem dX6_yardTold_66 : decode cX6_yardTold 66 = .ok (.iastore, 1) := by decide +kernel
theorem dX6_yardTold_67 : decode cX6_yardTold 67 = .ok (.dup, 1) := by decide +kernel
theorem dX6_yardTold_68 : decode cX6_yardTold 68 = .ok (.bipush 6, 2) := by decide +kernel
theorem dX6_yardTold_70 : decode cX6_yardTold 70 = .ok (.aload_n 0, 1) := by decide +kernel
theorem dX6_yardTold_71 : decode cX6_yardTold 71 = .ok (.getfield 33, 3) := by decide +kernel
theorem dX6_yardTold_74 : decode cX6_yardTold 74 = .ok (.getfield 101, 3) := by decide +kernel
theorem dX6_yardTold_77 : decode cX6_yardTold 77 = .ok (.iload_n 1, 1) := by decide +kernel
theorem dX6_yardTold_78 : decode cX6_yardTold 78 = .ok (.iaload, 1) := by decide +kernel
theorem dX6_yardTold_79 : decode cX6_yardTold 79 = .ok (.iastore, 1) := by decide +kernel
theorem dX6_yardTold_80 : decode cX6_yardTold 80 = .ok (.astore_n 3, 1) := by decide +kernel
theorem dX6_yardTold_81 : decode cX6_yardTold 81 = .ok (.aload_n 3, 1) := by decide +kernel
theorem dX6_yardTold_82 : decode cX6_yardTold 82 = .ok (.iload_n 2, 1) := by decide +kernel
theorem dX6_yardTold_83 : decode cX6_yardTold 83 = .ok (.iaload, 1) := by decide +kernel
theorem dX6_yardTold_84 : decode cX6_yardTold 84 = .ok (.ireturn, 1) := by decide +kernel
theorem dX6_vineyard_0 : decode cX6_vineyard 0 = .ok (.aload_n 0, 1) := by decide +kernel
theorem dX6_vineyard_1 : decode cX6_vineyard 1 = .ok (.iconst 0, 1) := by decide +kernel
theorem dX6_vineyard_2 : decode cX6_vineyard 2 = .ok (.putfield 40, 3) := by decide +kernel
theorem dX6_vineyard_5 : decode cX6_vineyard 5 = .ok (.aload_n 0, 1) := by decide +kernel
theorem dX6_vineyard_6 : decode cX6_vineyard 6 = .ok (.iload_n 1, 1) := by decide +kernel
theorem dX6_vineyard_7 : decode cX6_vineyard 7 = .ok (.invokevirtual 65, 3) := by decide +kernel
theorem dX6_vineyard_10 : decode cX6_vineyard 10 = .ok (.ifCond .eq 22, 3) := by decide +kernel
theorem dX6_vineyard_13 : decode cX6_vineyard 13 = .ok (.iload_n 2, 1) := by decide +kernel
theorem dX6_vineyard_14 : decode cX6_vineyard 14 = .ok (.iconst 0, 1) := by decide +kernel
theorem dX6_vineyard_15 : decode cX6_vineyard 15 = .ok (.bipush 6, 2) := by decide +kernel
theorem dX6_vineyard_17 : decode cX6_vineyard 17 = .ok (.invokestatic 44, 3) := by decide +kernel
theorem dX6_vineyard_20 : decode cX6_vineyard 20 = .ok (.ifCond .eq 12, 3) := by decide +kernel
theorem dX6_vineyard_23 : decode cX6_vineyard 23 = .ok (.aload_n 0, 1) := by decide +kernel
theorem dX6_vineyard_24 : decode cX6_vineyard 24 = .ok (.iload_n 1, 1) := by decide +kernel
theorem dX6_vineyard_25 : decode cX6_vineyard 25 = .ok (.iload_n 2, 1) := by decide +kernel
theorem dX6_vineyard_26 : decode cX6_vineyard 26 = .ok (.invokevirtual 104, 3) := by decide +kernel
theorem dX6_vineyard_29 : decode cX6_vineyard 29 = .ok (.goto 8, 3) := by decide +kernel
theorem dX6_vineyard_32 : decode cX6_vineyard 32 = .ok (.aload_n 0, 1) := by decide +kernel
theorem dX6_vineyard_33 : decode cX6_vineyard 33 = .ok (.iconst 1, 1) := by decide +kernel
theorem dX6_vineyard_34 : decode cX6_vineyard 34 = .ok (.invokevirtual 58, 3) := by decide +kernel
theorem dX6_vineyard_37 : decode cX6_vineyard 37 = .ok (.ireturn, 1) := by decide +kernel
theorem dX6_cannonTold_0 : decode cX6_cannonTold 0 = .ok (.iconst 5, 1) := by decide +kernel
theorem dX6_cannonTold_1 : decode cX6_cannonTold 1 = .ok (.newarray .int, 2) := by decide +kernel
theorem dX6_cannonTold_3 : decode cX6_cannonTold 3 = .ok (.dup, 1) := by decide +kernel
theorem dX6_cannonTold_4 : decode cX6_cannonTold 4 = .ok (.iconst 0, 1) := by decide +kernel
theorem dX6_cannonTold_5 : decode cX6_cannonTold 5 = .ok (.aload_n 0, 1) := by decide +kernel
theorem dX6_cannonTold_6 : decode cX6_cannonTold 6 = .ok (.getfield 33, 3) := by decide +kernel
theorem dX6_cannonTold_9 : decode cX6_cannonTold 9 = .ok (.getfield 68, 3) := by decide +kernel
theorem dX6_cannonTold_12 : decode cX6_cannonTold 12 = .ok (.iload_n 1, 1) := by decide +kernel
theorem dX6_cannonTold_13 : decode cX6_cannonTold 13 = .ok (.iaload, 1) := by decide +kernel
theorem dX6_cannonTold_14 : decode cX6_cannonTold 14 = .ok (.iastore, 1) := by decide +kernel
theorem dX6_cannonTold_15 : decode cX6_cannonTold 15 = .ok (.dup, 1) := by decide +kernel
theorem dX6_cannonTold_16 : decode cX6_cannonTold 16 = .ok (.iconst 1, 1) := by decide +kernel
theorem dX6_cannonTold_17 : decode cX6_cannonTold 17 = .ok (.aload_n 0, 1) := by decide +kernel
theorem dX6_cannonTold_18 : decode cX6_cannonTold 18 = .ok (.getfield 19, 3) := by decide +kernel
theorem dX6_cannonTold_21 : decode cX6_cannonTold 21 = .ok (.iload_n 1, 1) := by decide +kernel
theorem dX6_cannonTold_22 : decode cX6_cannonTold 22 = .ok (.iaload, 1) := by decide +kernel
theorem dX6_cannonTold_23 : decode cX6_cannonTold 23 = .ok (.iastore, 1) := by decide +kernel
theorem dX6_cannonTold_24 : decode cX6_cannonTold 24 = .ok (.dup, 1) := by decide +kernel
theorem dX6_cannonTold_25 : decode cX6_cannonTold 25 = .ok (.iconst 2, 1) := by decide +kernel
theorem dX6_cannonTold_26 : decode cX6_cannonTold 26 = .ok (.aload_n 0, 1) := by decide +kernel
theorem dX6_cannonTold_27 : decode cX6_cannonTold 27 = .ok (.getfield 33, 3) := by decide +kernel
theorem dX6_cannonTold_30 : decode cX6_cannonTold 30 = .ok (.getfield 71, 3) := by decide +kernel
theorem dX6_cannonTold_33 : decode cX6_cannonTold 33 = .ok (.iload_n 1, 1) := by decide +kernel
theorem dX6_cannonTold_34 : decode cX6_cannonTold 34 = .ok (.iaload, 1) := by decide +kernel
theorem dX6_cannonTold_35 : decode cX6_cannonTold 35 = .ok (.iastore, 1) := by decide +kernel
theorem dX6_cannonTold_36 : decode cX6_cannonTold 36 = .ok (.dup, 1) := by decide +kernel
theorem dX6_cannonTold_37 : decode cX6_cannonTold 37 = .ok (.iconst 3, 1) := by decide +kernel
theorem dX6_cannonTold_38 : decode cX6_cannonTold 38 = .ok (.aload_n 0, 1) := by decide +kernel
theorem dX6_cannonTold_39 : decode cX6_cannonTold 39 = .ok (.getfield 33, 3) := by decide +kernel
theorem dX6_cannonTold_42 : decode cX6_cannonTold 42 = .ok (.getfield 107, 3) := by decide +kernel
theorem dX6_cannonTold_45 : decode cX6_cannonTold 45 = .ok (.iload_n 1, 1) := by decide +kernel
theorem dX6_cannonTold_46 : decode cX6_cannonTold 46 = .ok (.iaload, 1) := by decide +kernel
theorem dX6_cannonTold_47 : decode cX6_cannonTold 47 = .ok (.iastore, 1) := by decide +kernel
theorem dX6_cannonTold_48 : decode cX6_cannonTold 48 = .ok (.dup, 1) := by decide +kernel
theorem dX6_cannonTold_49 : decode cX6_cannonTold 49 = .ok (.iconst 4, 1) := by decide +kernel
theorem dX6_cannonTold_50 : decode cX6_cannonTold 50 = .ok (.aload_n 0, 1) := by decide +kernel
theorem dX6_cannonTold_51 : decode cX6_cannonTold 51 = .ok (.getfield 33, 3) := by decide +kernel
theorem dX6_cannonTold_54 : decode cX6_cannonTold 54 = .ok (.iload_n 1, 1) := by decide +kernel
theorem dX6_cannonTold_55 : decode cX6_cannonTold 55 = .ok (.invokevirtual 110, 3) := by decide +kernel
theorem dX6_cannonTold_58 : decode cX6_cannonTold 58 = .ok (.iastore, 1) := by decide +kernel
theorem dX6_cannonTold_59 : decode cX6_cannonTold 59 = .ok (.astore_n 3, 1) := by decide +kernel
theorem dX6_cannonTold_60 : decode cX6_cannonTold 60 = .ok (.aload_n 3, 1) := by decide +kernel
theorem dX6_cannonTold_61 : decode cX6_cannonTold 61 = .ok (.iload_n 2, 1) := by decide +kernel
theorem dX6_cannonTold_62 : decode cX6_cannonTold 62 = .ok (.iaload, 1) := by decide +kernel
theorem dX6_cannonTold_63 : decode cX6_cannonTold 63 = .ok (.ireturn, 1) := by decide +kernel
theorem dX6_about_0 : decode cX6_about 0 = .ok (.aload_n 0, 1) := by decide +kernel
theorem dX6_about_1 : decode cX6_about 1 = .ok (.iconst 0, 1) := by decide +kernel
theorem dX6_about_2 : decode cX6_about 2 = .ok (.putfield 40, 3) := by decide +kernel
theorem dX6_about_5 : decode cX6_about 5 = .ok (.aload_n 0, 1) := by decide +kernel
theorem dX6_about_6 : decode cX6_about 6 = .ok (.iload_n 1, 1) := by decide +kernel
theorem dX6_about_7 : decode cX6_about 7 = .ok (.invokevirtual 74, 3) := by decide +kernel
theorem dX6_about_10 : decode cX6_about 10 = .ok (.ifCond .eq 21, 3) := by decide +kernel
theorem dX6_about_13 : decode cX6_about 13 = .ok (.iload_n 2, 1) := by decide +kernel
theorem dX6_about_14 : decode cX6_about 14 = .ok (.iconst 0, 1) := by decide +kernel
theorem dX6_about_15 : decode cX6_about 15 = .ok (.iconst 4, 1) := by decide +kernel
theorem dX6_about_16 : decode cX6_about 16 = .ok (.invokestatic 44, 3) := by decide +kernel
theorem dX6_about_19 : decode cX6_about 19 = .ok (.ifCond .eq 12, 3) := by decide +kernel
theorem dX6_about_22 : decode cX6_about 22 = .ok (.aload_n 0, 1) := by decide +kernel
theorem dX6_about_23 : decode cX6_about 23 = .ok (.iload_n 1, 1) := by decide +kernel
theorem dX6_about_24 : decode cX6_about 24 = .ok (.iload_n 2, 1) := by decide +kernel
theorem dX6_about_25 : decode cX6_about 25 = .ok (.invokevirtual 113, 3) := by decide +kernel
theorem dX6_about_28 : decode cX6_about 28 = .ok (.goto 8, 3) := by decide +kernel
theorem dX6_about_31 : decode cX6_about 31 = .ok (.aload_n 0, 1) := by decide +kernel
theorem dX6_about_32 : decode cX6_about 32 = .ok (.iconst 1, 1) := by decide +kernel
theorem dX6_about_33 : decode cX6_about 33 = .ok (.invokevirtual 58, 3) := by decide +kernel
theorem dX6_about_36 : decode cX6_about 36 = .ok (.ireturn, 1) := by decide +kernel
theorem dX6_cloudTold_0 : decode cX6_cloudTold 0 = .ok (.iload_n 2, 1) := by decide +kernel
theorem dX6_cloudTold_1 : decode cX6_cloudTold 1 = .ok (.ifCond .ne 15, 3) := by decide +kernel
theorem dX6_cloudTold_4 : decode cX6_cloudTold 4 = .ok (.aload_n 0, 1) := by decide +kernel
theorem dX6_cloudTold_5 : decode cX6_cloudTold 5 = .ok (.getfield 33, 3) := by decide +kernel
theorem dX6_cloudTold_8 : decode cX6_cloudTold 8 = .ok (.getfield 89, 3) := by decide +kernel
theorem dX6_cloudTold_11 : decode cX6_cloudTold 11 = .ok (.iload_n 1, 1) := by decide +kernel
theorem dX6_cloudTold_12 : decode cX6_cloudTold 12 = .ok (.iaload, 1) := by decide +kernel
theorem dX6_cloudTold_13 : decode cX6_cloudTold 13 = .ok (.goto 50, 3) := by decide +kernel
theorem dX6_cloudTold_16 : decode cX6_cloudTold 16 = .ok (.iload_n 2, 1) := by decide +kernel
theorem dX6_cloudTold_17 : decode cX6_cloudTold 17 = .ok (.iconst 1, 1) := by decide +kernel
theorem dX6_cloudTold_18 : decode cX6_cloudTold 18 = .ok (.if_icmp .ne 12, 3) := by decide +kernel
theorem dX6_cloudTold_21 : decode cX6_cloudTold 21 = .ok (.aload_n 0, 1) := by decide +kernel
theorem dX6_cloudTold_22 : decode cX6_cloudTold 22 = .ok (.getfield 22, 3) := by decide +kernel
theorem dX6_cloudTold_25 : decode cX6_cloudTold 25 = .ok (.iload_n 1, 1) := by decide +kernel
theorem dX6_cloudTold_26 : decode cX6_cloudTold 26 = .ok (.iaload, 1) := by decide +kernel
theorem dX6_cloudTold_27 : decode cX6_cloudTold 27 = .ok (.goto 36, 3) := by decide +kernel
theorem dX6_cloudTold_30 : decode cX6_cloudTold 30 = .ok (.iload_n 2, 1) := by decide +kernel
theorem dX6_cloudTold_31 : decode cX6_cloudTold 31 = .ok (.iconst 2, 1) := by decide +kernel
theorem dX6_cloudTold_32 : decode cX6_cloudTold 32 = .ok (.if_icmp .ne 15, 3) := by decide +kernel
theorem dX6_cloudTold_35 : decode cX6_cloudTold 35 = .ok (.aload_n 0, 1) := by decide +kernel
theorem dX6_cloudTold_36 : decode cX6_cloudTold 36 = .ok (.getfield 33, 3) := by decide +kernel
theorem dX6_cloudTold_39 : decode cX6_cloudTold 39 = .ok (.getfield 92, 3) := by decide +kernel
theorem dX6_cloudTold_42 : decode cX6_cloudTold 42 = .ok (.iload_n 1, 1) := by decide +kernel
theorem dX6_cloudTold_43 : decode cX6_cloudTold 43 = .ok (.iaload, 1) := by decide +kernel
theorem dX6_cloudTold_44 : decode cX6_cloudTold 44 = .ok (.goto 19, 3) := by decide +kernel
theorem dX6_cloudTold_47 : decode cX6_cloudTold 47 = .ok (.aload_n 0, 1) := by decide +kernel
theorem dX6_cloudTold_48 : decode cX6_cloudTold 48 = .ok (.getfield 33, 3) := by decide +kernel
theorem dX6_cloudTold_51 : decode cX6_cloudTold 51 = .ok (.iload_n 1, 1) := by decide +kernel
theorem dX6_cloudTold_52 : decode cX6_cloudTold 52 = .ok (.invokevirtual 116, 3) := by decide +kernel
theorem dX6_cloudTold_55 : decode cX6_cloudTold 55 = .ok (.ifCond .eq 7, 3) := by decide +kernel
theorem dX6_cloudTold_58 : decode cX6_cloudTold 58 = .ok (.iconst 1, 1) := by decide +kernel
theorem dX6_cloudTold_59 : decode cX6_cloudTold 59 = .ok (.goto 4, 3) := by decide +kernel
theorem dX6_cloudTold_62 : decode cX6_cloudTold 62 = .ok (.iconst 0, 1) := by decide +kernel
theorem dX6_cloudTold_63 : decode cX6_cloudTold 63 = .ok (.ireturn, 1) := by decide +kernel
theorem dX6_cloud_0 : decode cX6_cloud 0 = .ok (.aload_n 0, 1) := by decide +kernel
theorem dX6_cloud_1 : decode cX6_cloud 1 = .ok (.iconst 0, 1) := by decide +kernel
theorem dX6_cloud_2 : decode cX6_cloud 2 = .ok (.putfield 40, 3) := by decide +kernel
theorem dX6_cloud_5 : decode cX6_cloud 5 = .ok (.iload_n 1, 1) := by decide +kernel
theorem dX6_cloud_6 : decode cX6_cloud 6 = .ok (.iconst 0, 1) := by decide +kernel
theorem dX6_cloud_7 : decode cX6_cloud 7 = .ok (.aload_n 0, 1) := by decide +kernel
theorem dX6_cloud_8 : decode cX6_cloud 8 = .ok (.getfield 86, 3) := by decide +kernel
theorem dX6_cloud_11 : decode cX6_cloud 11 = .ok (.iconst 1, 1) := by decide +kernel
theorem dX6_cloud_12 : decode cX6_cloud 12 = .ok (.isub, 1) := by decide +kernel
theorem dX6_cloud_13 : decode cX6_cloud 13 = .ok (.invokestatic 44, 3) := by decide +kernel
theorem dX6_cloud_16 : decode cX6_cloud 16 = .ok (.ifCond .eq 21, 3) := by decide +kernel
theorem dX6_cloud_19 : decode cX6_cloud 19 = .ok (.iload_n 2, 1) := by decide +kernel
theorem dX6_cloud_20 : decode cX6_cloud 20 = .ok (.iconst 0, 1) := by decide +kernel
theorem dX6_cloud_21 : decode cX6_cloud 21 = .ok (.iconst 3, 1) := by decide +kernel
theorem dX6_cloud_22 : decode cX6_cloud 22 = .ok (.invokestatic 44, 3) := by decide +kernel
theorem dX6_cloud_25 : decode cX6_cloud 25 = .ok (.ifCond .eq 12, 3) := by decide +kernel
theorem dX6_cloud_28 : decode cX6_cloud 28 = .ok (.aload_n 0, 1) := by decide +kernel
theorem dX6_cloud_29 : decode cX6_cloud 29 = .ok (.iload_n 1, 1) := by decide +kernel
theorem dX6_cloud_30 : decode cX6_cloud 30 = .ok (.iload_n 2, 1) := by decide +kernel
theorem dX6_cloud_31 : decode cX6_cloud 31 = .ok (.invokevirtual 119, 3) := by decide +kernel
theorem dX6_cloud_34 : decode cX6_cloud 34 = .ok (.goto 8, 3) := by decide +kernel
theorem dX6_cloud_37 : decode cX6_cloud 37 = .ok (.aload_n 0, 1) := by decide +kernel
theorem dX6_cloud_38 : decode cX6_cloud 38 = .ok (.iconst 1, 1) := by decide +kernel
theorem dX6_cloud_39 : decode cX6_cloud 39 = .ok (.invokevirtual 58, 3) := by decide +kernel
theorem dX6_cloud_42 : decode cX6_cloud 42 = .ok (.ireturn, 1) := by decide +kernel
theorem dX6_count_0 : decode cX6_count 0 = .ok (.aload_n 0, 1) := by decide +kernel
theorem dX6_count_1 : decode cX6_count 1 = .ok (.iconst 0, 1) := by decide +kernel
theorem dX6_count_2 : decode cX6_count 2 = .ok (.putfield 40, 3) := by decide +kernel
theorem dX6_count_5 : decode cX6_count 5 = .ok (.iload_n 1, 1) := by decide +kernel
theorem dX6_count_6 : decode cX6_count 6 = .ok (.iconst 0, 1) := by decide +kernel
theorem dX6_count_7 : decode cX6_count 7 = .ok (.bipush 9, 2) := by decide +kernel
theorem dX6_count_9 : decode cX6_count 9 = .ok (.invokestatic 44, 3) := by decide +kernel
theorem dX6_count_12 : decode cX6_count 12 = .ok (.ifCond .eq 14, 3) := by decide +kernel
theorem dX6_count_15 : decode cX6_count 15 = .ok (.aload_n 0, 1) := by decide +kernel
theorem dX6_count_16 : decode cX6_count 16 = .ok (.getfield 33, 3) := by decide +kernel
theorem dX6_count_19 : decode cX6_count 19 = .ok (.iload_n 1, 1) := by decide +kernel
theorem dX6_count_20 : decode cX6_count 20 = .ok (.invokevirtual 122, 3) := by decide +kernel
theorem dX6_count_23 : decode cX6_count 23 = .ok (.goto 8, 3) := by decide +kernel
theorem dX6_count_26 : decode cX6_count 26 = .ok (.aload_n 0, 1) := by decide +kernel
theorem dX6_count_27 : decode cX6_count 27 = .ok (.iconst 1, 1) := by decide +kernel
theorem dX6_count_28 : decode cX6_count 28 = .ok (.invokevirtual 58, 3) := by decide +kernel
theorem dX6_count_31 : decode cX6_count 31 = .ok (.ireturn, 1) := by decide +kernel
theorem dX6_pass_0 : decode cX6_pass 0 = .ok (.aload_n 0, 1) := by decide +kernel
theorem dX6_pass_1 : decode cX6_pass 1 = .ok (.iconst 0, 1) := by decide +kernel
theorem dX6_pass_2 : decode cX6_pass 2 = .ok (.putfield 40, 3) := by decide +kernel
theorem dX6_pass_5 : decode cX6_pass 5 = .ok (.iload_n 1, 1) := by decide +kernel
theorem dX6_pass_6 : decode cX6_pass 6 = .ok (.iconst 1, 1) := by decide +kernel
theorem dX6_pass_7 : decode cX6_pass 7 = .ok (.bipush 96, 2) := by decide +kernel
theorem dX6_pass_9 : decode cX6_pass 9 = .ok (.invokestatic 44, 3) := by decide +kernel
theorem dX6_pass_12 : decode cX6_pass 12 = .ok (.ifCond .ne 9, 3) := by decide +kernel
theorem dX6_pass_15 : decode cX6_pass 15 = .ok (.aload_n 0, 1) := by decide +kernel
theorem dX6_pass_16 : decode cX6_pass 16 = .ok (.iconst 1, 1) := by decide +kernel
theorem dX6_pass_17 : decode cX6_pass 17 = .ok (.invokevirtual 58, 3) := by decide +kernel
theorem dX6_pass_20 : decode cX6_pass 20 = .ok (.ireturn, 1) := by decide +kernel
theorem dX6_pass_21 : decode cX6_pass 21 = .ok (.aload_n 0, 1) := by decide +kernel
theorem dX6_pass_22 : decode cX6_pass 22 = .ok (.getfield 33, 3) := by decide +kernel
theorem dX6_pass_25 : decode cX6_pass 25 = .ok (.invokevirtual 125, 3) := by decide +kernel
theorem dX6_pass_28 : decode cX6_pass 28 = .ok (.istore_n 2, 1) := by decide +kernel
theorem dX6_pass_29 : decode cX6_pass 29 = .ok (.aload_n 0, 1) := by decide +kernel
theorem dX6_pass_30 : decode cX6_pass 30 = .ok (.getfield 33, 3) := by decide +kernel
theorem dX6_pass_33 : decode cX6_pass 33 = .ok (.iload_n 1, 1) := by decide +kernel
theorem dX6_pass_34 : decode cX6_pass 34 = .ok (.invokevirtual 129, 3) := by decide +kernel
theorem dX6_pass_37 : decode cX6_pass 37 = .ok (.aload_n 0, 1) := by decide +kernel
theorem dX6_pass_38 : decode cX6_pass 38 = .ok (.getfield 33, 3) := by decide +kernel
theorem dX6_pass_41 : decode cX6_pass 41 = .ok (.invokevirtual 125, 3) := by decide +kernel
theorem dX6_pass_44 : decode cX6_pass 44 = .ok (.iload_n 2, 1) := by decide +kernel
theorem dX6_pass_45 : decode cX6_pass 45 = .ok (.isub, 1) := by decide +kernel
theorem dX6_pass_46 : decode cX6_pass 46 = .ok (.ireturn, 1) := by decide +kernel
theorem dX6_hit_0 : decode cX6_hit 0 = .ok (.aload_n 0, 1) := by decide +kernel
theorem dX6_hit_1 : decode cX6_hit 1 = .ok (.iconst 0, 1) := by decide +kernel
theorem dX6_hit_2 : decode cX6_hit 2 = .ok (.putfield 40, 3) := by decide +kernel
theorem dX6_hit_5 : decode cX6_hit 5 = .ok (.aload_n 0, 1) := by decide +kernel
theorem dX6_hit_6 : decode cX6_hit 6 = .ok (.iload_n 1, 1) := by decide +kernel
theorem dX6_hit_7 : decode cX6_hit 7 = .ok (.invokevirtual 65, 3) := by decide +kernel
theorem dX6_hit_10 : decode cX6_hit 10 = .ok (.ifCond .ne 9, 3) := by decide +kernel
theorem dX6_hit_13 : decode cX6_hit 13 = .ok (.aload_n 0, 1) := by decide +kernel
theorem dX6_hit_14 : decode cX6_hit 14 = .ok (.iconst 1, 1) := by decide +kernel
theorem dX6_hit_15 : decode cX6_hit 15 = .ok (.invokevirtual 58, 3) := by decide +kernel
theorem dX6_hit_18 : decode cX6_hit 18 = .ok (.ireturn, 1) := by decide +kernel
theorem dX6_hit_19 : decode cX6_hit 19 = .ok (.aload_n 0, 1) := by decide +kernel
theorem dX6_hit_20 : decode cX6_hit 20 = .ok (.getfield 37, 3) := by decide +kernel
theorem dX6_hit_23 : decode cX6_hit 23 = .ok (.aload_n 0, 1) := by decide +kernel
theorem dX6_hit_24 : decode cX6_hit 24 = .ok (.getfield 33, 3) := by decide +kernel
theorem dX6_hit_27 : decode cX6_hit 27 = .ok (.invokevirtual 133, 3) := by decide +kernel
theorem dX6_hit_30 : decode cX6_hit 30 = .ok (.iconst 1, 1) := by decide +kernel
theorem dX6_hit_31 : decode cX6_hit 31 = .ok (.istore_n 2, 1) := by decide +kernel
theorem dX6_hit_32 : decode cX6_hit 32 = .ok (.iload_n 2, 1) := by decide +kernel
theorem dX6_hit_33 : decode cX6_hit 33 = .ok (.bipush 60, 2) := by decide +kernel
theorem dX6_hit_35 : decode cX6_hit 35 = .ok (.if_icmp .gt 39, 3) := by decide +kernel
theorem dX6_hit_38 : decode cX6_hit 38 = .ok (.aload_n 0, 1) := by decide +kernel
theorem dX6_hit_39 : decode cX6_hit 39 = .ok (.getfield 37, 3) := by decide +kernel
theorem dX6_hit_42 : decode cX6_hit 42 = .ok (.invokevirtual 137, 3) := by decide +kernel
theorem dX6_hit_45 : decode cX6_hit 45 = .ok (.aload_n 0, 1) := by decide +kernel
theorem dX6_hit_46 : decode cX6_hit 46 = .ok (.getfield 37, 3) := by decide +kernel
theorem dX6_hit_49 : decode cX6_hit 49 = .ok (.getfield 101, 3) := by decide +kernel
theorem dX6_hit_52 : decode cX6_hit 52 = .ok (.iload_n 1, 1) := by decide +kernel
theorem dX6_hit_53 : decode cX6_hit 53 = .ok (.iaload, 1) := by decide +kernel
theorem dX6_hit_54 : decode cX6_hit 54 = .ok (.aload_n 0, 1) := by decide +kernel
theorem dX6_hit_55 : decode cX6_hit 55 = .ok (.getfield 33, 3) := by decide +kernel
theorem dX6_hit_58 : decode cX6_hit 58 = .ok (.getfield 101, 3) := by decide +kernel
theorem dX6_hit_61 : decode cX6_hit 61 = .ok (.iload_n 1, 1) := by decide +kernel
theorem dX6_hit_62 : decode cX6_hit 62 = .ok (.iaload, 1) := by decide +kernel
theorem dX6_hit_63 : decode cX6_hit 63 = .ok (.if_icmp .le 5, 3) := by decide +kernel
theorem dX6_hit_66 : decode cX6_hit 66 = .ok (.iload_n 2, 1) := by decide +kernel
theorem dX6_hit_67 : decode cX6_hit 67 = .ok (.ireturn, 1) := by decide +kernel
theorem dX6_hit_68 : decode cX6_hit 68 = .ok (.iinc 2 1, 3) := by decide +kernel
theorem dX6_hit_71 : decode cX6_hit 71 = .ok (.goto (-39), 3) := by decide +kernel
theorem dX6_hit_74 : decode cX6_hit 74 = .ok (.iconst (-1), 1) := by decide +kernel
theorem dX6_hit_75 : decode cX6_hit 75 = .ok (.ireturn, 1) := by decide +kernel
theorem dX6_foresee_0 : decode cX6_foresee 0 = .ok (.aload_n 0, 1) := by decide +kernel
theorem dX6_foresee_1 : decode cX6_foresee 1 = .ok (.iconst 0, 1) := by decide +kernel
theorem dX6_foresee_2 : decode cX6_foresee 2 = .ok (.putfield 40, 3) := by decide +kernel
theorem dX6_foresee_5 : decode cX6_foresee 5 = .ok (.iload_n 1, 1) := by decide +kernel
theorem dX6_foresee_6 : decode cX6_foresee 6 = .ok (.iconst 1, 1) := by decide +kernel
theorem dX6_foresee_7 : decode cX6_foresee 7 = .ok (.bipush 96, 2) := by decide +kernel
theorem dX6_foresee_9 : decode cX6_foresee 9 = .ok (.invokestatic 44, 3) := by decide +kernel
theorem dX6_foresee_12 : decode cX6_foresee 12 = .ok (.ifCond .ne 9, 3) := by decide +kernel
theorem dX6_foresee_15 : decode cX6_foresee 15 = .ok (.aload_n 0, 1) := by decide +kernel
theorem dX6_foresee_16 : decode cX6_foresee 16 = .ok (.iconst 1, 1) := by decide +kernel
theorem dX6_foresee_17 : decode cX6_foresee 17 = .ok (.invokevirtual 58, 3) := by decide +kernel
theorem dX6_foresee_20 : decode cX6_foresee 20 = .ok (.ireturn, 1) := by decide +kernel
theorem dX6_foresee_21 : decode cX6_foresee 21 = .ok (.iload_n 2, 1) := by decide +kernel
theorem dX6_foresee_22 : decode cX6_foresee 22 = .ok (.iconst 2, 1) := by decide +kernel
theorem dX6_foresee_23 : decode cX6_foresee 23 = .ok (.iconst 5, 1) := by decide +kernel
theorem dX6_foresee_24 : decode cX6_foresee 24 = .ok (.invokestatic 44, 3) := by decide +kernel
theorem dX6_foresee_27 : decode cX6_foresee 27 = .ok (.ifCond .ne 15, 3) := by decide +kernel
theorem dX6_foresee_30 : decode cX6_foresee 30 = .ok (.iload_n 2, 1) := by decide +kernel
theorem dX6_foresee_31 : decode cX6_foresee 31 = .ok (.bipush 8, 2) := by decide +kernel
theorem dX6_foresee_33 : decode cX6_foresee 33 = .ok (.if_icmp .eq 9, 3) := by decide +kernel
theorem dX6_foresee_36 : decode cX6_foresee 36 = .ok (.aload_n 0, 1) := by decide +kernel
theorem dX6_foresee_37 : decode cX6_foresee 37 = .ok (.iconst 2, 1) := by decide +kernel
theorem dX6_foresee_38 : decode cX6_foresee 38 = .ok (.invokevirtual 58, 3) := by decide +kernel
theorem dX6_foresee_41 : decode cX6_foresee 41 = .ok (.ireturn, 1) := by decide +kernel
theorem dX6_foresee_42 : decode cX6_foresee 42 = .ok (.aload_n 0, 1) := by decide +kernel
theorem dX6_foresee_43 : decode cX6_foresee 43 = .ok (.getfield 37, 3) := by decide +kernel
theorem dX6_foresee_46 : decode cX6_foresee 46 = .ok (.aload_n 0, 1) := by decide +kernel
theorem dX6_foresee_47 : decode cX6_foresee 47 = .ok (.getfield 33, 3) := by decide +kernel
theorem dX6_foresee_50 : decode cX6_foresee 50 = .ok (.invokevirtual 133, 3) := by decide +kernel
theorem dX6_foresee_53 : decode cX6_foresee 53 = .ok (.aload_n 0, 1) := by decide +kernel
theorem dX6_foresee_54 : decode cX6_foresee 54 = .ok (.getfield 37, 3) := by decide +kernel
theorem dX6_foresee_57 : decode cX6_foresee 57 = .ok (.iload_n 1, 1) := by decide +kernel
theorem dX6_foresee_58 : decode cX6_foresee 58 = .ok (.invokevirtual 129, 3) := by decide +kernel
theorem dX6_foresee_61 : decode cX6_foresee 61 = .ok (.aload_n 0, 1) := by decide +kernel
theorem dX6_foresee_62 : decode cX6_foresee 62 = .ok (.getfield 37, 3) := by decide +kernel
theorem dX6_foresee_65 : decode cX6_foresee 65 = .ok (.iload_n 2, 1) := by decide +kernel
theorem dX6_foresee_66 : decode cX6_foresee 66 = .ok (.invokevirtual 122, 3) := by decide +kernel
theorem dX6_foresee_69 : decode cX6_foresee 69 = .ok (.ireturn, 1) := by decide +kernel
theorem dX6_lostWith_0 : decode cX6_lostWith 0 = .ok (.aload_n 0, 1) := by decide +kernel
theorem dX6_lostWith_1 : decode cX6_lostWith 1 = .ok (.getfield 37, 3) := by decide +kernel
theorem dX6_lostWith_4 : decode cX6_lostWith 4 = .ok (.aload_n 0, 1) := by decide +kernel
theorem dX6_lostWith_5 : decode cX6_lostWith 5 = .ok (.getfield 33, 3) := by decide +kernel
theorem dX6_lostWith_8 : decode cX6_lostWith 8 = .ok (.invokevirtual 133, 3) := by decide +kernel
theorem dX6_lostWith_11 : decode cX6_lostWith 11 = .ok (.aload_n 0, 1) := by decide +kernel
theorem dX6_lostWith_12 : decode cX6_lostWith 12 = .ok (.getfield 37, 3) := by decide +kernel
theorem dX6_lostWith_15 : decode cX6_lostWith 15 = .ok (.getfield 68, 3) := by decide +kernel
theorem dX6_lostWith_18 : decode cX6_lostWith 18 = .ok (.iload_n 1, 1) := by decide +kernel
theorem dX6_lostWith_19 : decode cX6_lostWith 19 = .ok (.iload_n 2, 1) := by decide +kernel
theorem dX6_lostWith_20 : decode cX6_lostWith 20 = .ok (.iastore, 1) := by decide +kernel
theorem dX6_lostWith_21 : decode cX6_lostWith 21 = .ok (.aload_n 0, 1) := by decide +kernel
theorem dX6_lostWith_22 : decode cX6_lostWith 22 = .ok (.getfield 37, 3) := by decide +kernel
theorem dX6_lostWith_25 : decode cX6_lostWith 25 = .ok (.iload_n 3, 1) := by decide +kernel
theorem dX6_lostWith_26 : decode cX6_lostWith 26 = .ok (.invokevirtual 129, 3) := by decide +kernel
theorem dX6_lostWith_29 : decode cX6_lostWith 29 = .ok (.aload_n 0, 1) := by decide +kernel
theorem dX6_lostWith_30 : decode cX6_lostWith 30 = .ok (.getfield 37, 3) := by decide +kernel
theorem dX6_lostWith_33 : decode cX6_lostWith 33 = .ok (.invokevirtual 125, 3) := by decide +kernel
theorem dX6_lostWith_36 : decode cX6_lostWith 36 = .ok (.ireturn, 1) := by decide +kernel
theorem dX6_advise_0 : decode cX6_advise 0 = .ok (.aload_n 0, 1) := by decide +kernel
theorem dX6_advise_1 : decode cX6_advise 1 = .ok (.iconst 0, 1) := by decide +kernel
theorem dX6_advise_2 : decode cX6_advise 2 = .ok (.putfield 40, 3) := by decide +kernel
theorem dX6_advise_5 : decode cX6_advise 5 = .ok (.aload_n 0, 1) := by decide +kernel
theorem dX6_advise_6 : decode cX6_advise 6 = .ok (.iload_n 1, 1) := by decide +kernel
theorem dX6_advise_7 : decode cX6_advise 7 = .ok (.invokevirtual 74, 3) := by decide +kernel
theorem dX6_advise_10 : decode cX6_advise 10 = .ok (.ifCond .ne 9, 3) := by decide +kernel
theorem dX6_advise_13 : decode cX6_advise 13 = .ok (.aload_n 0, 1) := by decide +kernel
theorem dX6_advise_14 : decode cX6_advise 14 = .ok (.iconst 1, 1) := by decide +kernel
theorem dX6_advise_15 : decode cX6_advise 15 = .ok (.invokevirtual 58, 3) := by decide +kernel
theorem dX6_advise_18 : decode cX6_advise 18 = .ok (.ireturn, 1) := by decide +kernel
theorem dX6_advise_19 : decode cX6_advise 19 = .ok (.iload_n 2, 1) := by decide +kernel
theorem dX6_advise_20 : decode cX6_advise 20 = .ok (.iconst 1, 1) := by decide +kernel
theorem dX6_advise_21 : decode cX6_advise 21 = .ok (.bipush 36, 2) := by decide +kernel
theorem dX6_advise_23 : decode cX6_advise 23 = .ok (.invokestatic 44, 3) := by decide +kernel
theorem dX6_advise_26 : decode cX6_advise 26 = .ok (.ifCond .ne 9, 3) := by decide +kernel
theorem dX6_advise_29 : decode cX6_advise 29 = .ok (.aload_n 0, 1) := by decide +kernel
theorem dX6_advise_30 : decode cX6_advise 30 = .ok (.iconst 2, 1) := by decide +kernel
theorem dX6_advise_31 : decode cX6_advise 31 = .ok (.invokevirtual 58, 3) := by decide +kernel
theorem dX6_advise_34 : decode cX6_advise 34 = .ok (.ireturn, 1) := by decide +kernel
theorem dX6_advise_35 : decode cX6_advise 35 = .ok (.aload_n 0, 1) := by decide +kernel
theorem dX6_advise_36 : decode cX6_advise 36 = .ok (.iload_n 1, 1) := by decide +kernel
theorem dX6_advise_37 : decode cX6_advise 37 = .ok (.aload_n 0, 1) := by decide +kernel
theorem dX6_advise_38 : decode cX6_advise 38 = .ok (.getfield 33, 3) := by decide +kernel
theorem dX6_advise_41 : decode cX6_advise 41 = .ok (.getfield 68, 3) := by decide +kernel
theorem dX6_advise_44 : decode cX6_advise 44 = .ok (.iload_n 1, 1) := by decide +kernel
theorem dX6_advise_45 : decode cX6_advise 45 = .ok (.iaload, 1) := by decide +kernel
theorem dX6_advise_46 : decode cX6_advise 46 = .ok (.iload_n 2, 1) := by decide +kernel
theorem dX6_advise_47 : decode cX6_advise 47 = .ok (.invokevirtual 139, 3) := by decide +kernel
theorem dX6_advise_50 : decode cX6_advise 50 = .ok (.istore_n 3, 1) := by decide +kernel
theorem dX6_advise_51 : decode cX6_advise 51 = .ok (.iconst (-1), 1) := by decide +kernel
theorem dX6_advise_52 : decode cX6_advise 52 = .ok (.istore 4, 2) := by decide +kernel
theorem dX6_advise_54 : decode cX6_advise 54 = .ok (.iconst 0, 1) := by decide +kernel
theorem dX6_advise_55 : decode cX6_advise 55 = .ok (.istore 5, 2) := by decide +kernel
theorem dX6_advise_57 : decode cX6_advise 57 = .ok (.iload 5, 2) := by decide +kernel
theorem dX6_advise_59 : decode cX6_advise 59 = .ok (.bipush 30, 2) := by decide +kernel
theorem dX6_advise_61 : decode cX6_advise 61 = .ok (.if_icmp .ge 35, 3) := by decide +kernel
theorem dX6_advise_64 : decode cX6_advise 64 = .ok (.aload_n 0, 1) := by decide +kernel
theorem dX6_advise_65 : decode cX6_advise 65 = .ok (.iload_n 1, 1) := by decide +kernel
theorem dX6_advise_66 : decode cX6_advise 66 = .ok (.iload 5, 2) := by decide +kernel
theorem dX6_advise_68 : decode cX6_advise 68 = .ok (.iload_n 2, 1) := by decide +kernel
theorem dX6_advise_69 : decode cX6_advise 69 = .ok (.invokevirtual 139, 3) := by decide +kernel
theorem dX6_advise_72 : decode cX6_advise 72 = .ok (.istore 6, 2) := by decide +kernel
theorem dX6_advise_74 : decode cX6_advise 74 = .ok (.iload 6, 2) := by decide +kernel
theorem dX6_advise_76 : decode cX6_advise 76 = .ok (.iload_n 3, 1) := by decide +kernel
theorem dX6_advise_77 : decode cX6_advise 77 = .ok (.if_icmp .lt 6, 3) := by decide +kernel
theorem dX6_advise_80 : decode cX6_advise 80 = .ok (.goto 10, 3) := by decide +kernel
theorem dX6_advise_83 : decode cX6_advise 83 = .ok (.iload 6, 2) := by decide +kernel
theorem dX6_advise_85 : decode cX6_advise 85 = .ok (.istore_n 3, 1) := by decide +kernel
theorem dX6_advise_86 : decode cX6_advise 86 = .ok (.iload 5, 2) := by decide +kernel
theorem dX6_advise_88 : decode cX6_advise 88 = .ok (.istore 4, 2) := by decide +kernel
theorem dX6_advise_90 : decode cX6_advise 90 = .ok (.iinc 5 1, 3) := by decide +kernel
theorem dX6_advise_93 : decode cX6_advise 93 = .ok (.goto (-36), 3) := by decide +kernel
theorem dX6_advise_96 : decode cX6_advise 96 = .ok (.iload 4, 2) := by decide +kernel
theorem dX6_advise_98 : decode cX6_advise 98 = .ok (.ireturn, 1) := by decide +kernel
theorem dX6_move_0 : decode cX6_move 0 = .ok (.aload_n 0, 1) := by decide +kernel
theorem dX6_move_1 : decode cX6_move 1 = .ok (.iconst 0, 1) := by decide +kernel
theorem dX6_move_2 : decode cX6_move 2 = .ok (.putfield 40, 3) := by decide +kernel
theorem dX6_move_5 : decode cX6_move 5 = .ok (.aload_n 0, 1) := by decide +kernel
theorem dX6_move_6 : decode cX6_move 6 = .ok (.iload_n 1, 1) := by decide +kernel
theorem dX6_move_7 : decode cX6_move 7 = .ok (.invokevirtual 74, 3) := by decide +kernel
theorem dX6_move_10 : decode cX6_move 10 = .ok (.ifCond .ne 9, 3) := by decide +kernel
theorem dX6_move_13 : decode cX6_move 13 = .ok (.aload_n 0, 1) := by decide +kernel
theorem dX6_move_14 : decode cX6_move 14 = .ok (.iconst 1, 1) := by decide +kernel
theorem dX6_move_15 : decode cX6_move 15 = .ok (.invokevirtual 58, 3) := by decide +kernel
theorem dX6_move_18 : decode cX6_move 18 = .ok (.ireturn, 1) := by decide +kernel
theorem dX6_move_19 : decode cX6_move 19 = .ok (.iload_n 2, 1) := by decide +kernel
theorem dX6_move_20 : decode cX6_move 20 = .ok (.invokestatic 54, 3) := by decide +kernel
theorem dX6_move_23 : decode cX6_move 23 = .ok (.ifCond .ne 9, 3) := by decide +kernel
theorem dX6_move_26 : decode cX6_move 26 = .ok (.aload_n 0, 1) := by decide +kernel
theorem dX6_move_27 : decode cX6_move 27 = .ok (.iconst 2, 1) := by decide +kernel
theorem dX6_move_28 : decode cX6_move 28 = .ok (.invokevirtual 58, 3) := by decide +kernel
theorem dX6_move_31 : decode cX6_move 31 = .ok (.ireturn, 1) := by decide +kernel
theorem dX6_move_32 : decode cX6_move 32 = .ok (.aload_n 0, 1) := by decide +kernel
theorem dX6_move_33 : decode cX6_move 33 = .ok (.getfield 33, 3) := by decide +kernel
theorem dX6_move_36 : decode cX6_move 36 = .ok (.getfield 68, 3) := by decide +kernel
theorem dX6_move_39 : decode cX6_move 39 = .ok (.iload_n 1, 1) := by decide +kernel
theorem dX6_move_40 : decode cX6_move 40 = .ok (.iaload, 1) := by decide +kernel
theorem dX6_move_41 : decode cX6_move 41 = .ok (.istore_n 3, 1) := by decide +kernel
theorem dX6_move_42 : decode cX6_move 42 = .ok (.aload_n 0, 1) := by decide +kernel
theorem dX6_move_43 : decode cX6_move 43 = .ok (.getfield 33, 3) := by decide +kernel
theorem dX6_move_46 : decode cX6_move 46 = .ok (.getfield 68, 3) := by decide +kernel
theorem dX6_move_49 : decode cX6_move 49 = .ok (.iload_n 1, 1) := by decide +kernel
theorem dX6_move_50 : decode cX6_move 50 = .ok (.iload_n 2, 1) := by decide +kernel
theorem dX6_move_51 : decode cX6_move 51 = .ok (.iastore, 1) := by decide +kernel
theorem dX6_move_52 : decode cX6_move 52 = .ok (.aload_n 0, 1) := by decide +kernel
theorem dX6_move_53 : decode cX6_move 53 = .ok (.getfield 33, 3) := by decide +kernel
theorem dX6_move_56 : decode cX6_move 56 = .ok (.dup, 1) := by decide +kernel
theorem dX6_move_57 : decode cX6_move 57 = .ok (.getfield 77, 3) := by decide +kernel
theorem dX6_move_60 : decode cX6_move 60 = .ok (.iconst 2, 1) := by decide +kernel
theorem dX6_move_61 : decode cX6_move 61 = .ok (.isub, 1) := by decide +kernel
theorem dX6_move_62 : decode cX6_move 62 = .ok (.putfield 77, 3) := by decide +kernel
theorem dX6_move_65 : decode cX6_move 65 = .ok (.iload_n 3, 1) := by decide +kernel
theorem dX6_move_66 : decode cX6_move 66 = .ok (.ireturn, 1) := by decide +kernel
theorem dX6_mean_0 : decode cX6_mean 0 = .ok (.aload_n 0, 1) := by decide +kernel
theorem dX6_mean_1 : decode cX6_mean 1 = .ok (.iconst 0, 1) := by decide +kernel
theorem dX6_mean_2 : decode cX6_mean 2 = .ok (.putfield 40, 3) := by decide +kernel
theorem dX6_mean_5 : decode cX6_mean 5 = .ok (.aload_n 0, 1) := by decide +kernel
theorem dX6_mean_6 : decode cX6_mean 6 = .ok (.getfield 48, 3) := by decide +kernel
theorem dX6_mean_9 : decode cX6_mean 9 = .ok (.ifCond .ne 7, 3) := by decide +kernel
theorem dX6_mean_12 : decode cX6_mean 12 = .ok (.dconst 0, 1) := by decide +kernel
theorem dX6_mean_13 : decode cX6_mean 13 = .ok (.goto 28, 3) := by decide +kernel
theorem dX6_mean_16 : decode cX6_mean 16 = .ok (.aload_n 0, 1) := by decide +kernel
theorem dX6_mean_17 : decode cX6_mean 17 = .ok (.getfield 33, 3) := by decide +kernel
theorem dX6_mean_20 : decode cX6_mean 20 = .ok (.aload_n 0, 1) := by decide +kernel
theorem dX6_mean_21 : decode cX6_mean 21 = .ok (.getfield 33, 3) := by decide +kernel
theorem dX6_mean_24 : decode cX6_mean 24 = .ok (.getfield 62, 3) := by decide +kernel
theorem dX6_mean_27 : decode cX6_mean 27 = .ok (.aload_n 0, 1) := by decide +kernel
theorem dX6_mean_28 : decode cX6_mean 28 = .ok (.getfield 48, 3) := by decide +kernel
theorem dX6_mean_31 : decode cX6_mean 31 = .ok (.invokevirtual 143, 3) := by decide +kernel
theorem dX6_mean_34 : decode cX6_mean 34 = .ok (.i2d, 1) := by decide +kernel
theorem dX6_mean_35 : decode cX6_mean 35 = .ok (.aload_n 0, 1) := by decide +kernel
theorem dX6_mean_36 : decode cX6_mean 36 = .ok (.getfield 48, 3) := by decide +kernel
theorem dX6_mean_39 : decode cX6_mean 39 = .ok (.i2d, 1) := by decide +kernel
theorem dX6_mean_40 : decode cX6_mean 40 = .ok (.ddiv, 1) := by decide +kernel
theorem dX6_mean_41 : decode cX6_mean 41 = .ok (.dreturn, 1) := by decide +kernel
theorem dX6_digest_0 : decode cX6_digest 0 = .ok (.aload_n 0, 1) := by decide +kernel
theorem dX6_digest_1 : decode cX6_digest 1 = .ok (.iconst 0, 1) := by decide +kernel
theorem dX6_digest_2 : decode cX6_digest 2 = .ok (.putfield 40, 3) := by decide +kernel
theorem dX6_digest_5 : decode cX6_digest 5 = .ok (.ldc2_w 147, 3) := by decide +kernel
theorem dX6_digest_8 : decode cX6_digest 8 = .ok (.lstore_n 1, 1) := by decide +kernel
theorem dX6_digest_9 : decode cX6_digest 9 = .ok (.iconst 0, 1) := by decide +kernel
theorem dX6_digest_10 : decode cX6_digest 10 = .ok (.istore_n 3, 1) := by decide +kernel
theorem dX6_digest_11 : decode cX6_digest 11 = .ok (.iload_n 3, 1) := by decide +kernel
theorem dX6_digest_12 : decode cX6_digest 12 = .ok (.bipush 10, 2) := by decide +kernel
theorem dX6_digest_14 : decode cX6_digest 14 = .ok (.if_icmp .ge 25, 3) := by decide +kernel
theorem dX6_digest_17 : decode cX6_digest 17 = .ok (.lload_n 1, 1) := by decide +kernel
theorem dX6_digest_18 : decode cX6_digest 18 = .ok (.ldc2_w 149, 3) := by decide +kernel
theorem dX6_digest_21 : decode cX6_digest 21 = .ok (.lmul, 1) := by decide +kernel
theorem dX6_digest_22 : decode cX6_digest 22 = .ok (.aload_n 0, 1) := by decide +kernel
theorem dX6_digest_23 : decode cX6_digest 23 = .ok (.getfield 33, 3) := by decide +kernel
theorem dX6_digest_26 : decode cX6_digest 26 = .ok (.iload_n 3, 1) := by decide +kernel
theorem dX6_digest_27 : decode cX6_digest 27 = .ok (.invokevirtual 122, 3) := by decide +kernel
theorem dX6_digest_30 : decode cX6_digest 30 = .ok (.i2l, 1) := by decide +kernel
theorem dX6_digest_31 : decode cX6_digest 31 = .ok (.ladd, 1) := by decide +kernel
theorem dX6_digest_32 : decode cX6_digest 32 = .ok (.lstore_n 1, 1) := by decide +kernel
theorem dX6_digest_33 : decode cX6_digest 33 = .ok (.iinc 3 1, 3) := by decide +kernel
theorem dX6_digest_36 : decode cX6_digest 36 = .ok (.goto (-25), 3) := by decide +kernel
theorem dX6_digest_39 : decode cX6_digest 39 = .ok (.aload_n 0, 1) := by decide +kernel
theorem dX6_digest_40 : decode cX6_digest 40 = .ok (.getfield 25, 3) := by decide +kernel
theorem dX6_digest_43 : decode cX6_digest 43 = .ok (.astore_n 3, 1) := by decide +kernel
theorem dX6_digest_44 : decode cX6_digest 44 = .ok (.aload_n 3, 1) := by decide +kernel
theorem dX6_digest_45 : decode cX6_digest 45 = .ok (.arraylength, 1) := by decide +kernel
theorem dX6_digest_46 : decode cX6_digest 46 = .ok (.istore 4, 2) := by decide +kernel
theorem dX6_digest_48 : decode cX6_digest 48 = .ok (.iconst 0, 1) := by decide +kernel
theorem dX6_digest_49 : decode cX6_digest 49 = .ok (.istore 5, 2) := by decide +kernel
theorem dX6_digest_51 : decode cX6_digest 51 = .ok (.iload 5, 2) := by decide +kernel
theorem dX6_digest_53 : decode cX6_digest 53 = .ok (.iload 4, 2) := by decide +kernel
theorem dX6_digest_55 : decode cX6_digest 55 = .ok (.if_icmp .ge 25, 3) := by decide +kernel
theorem dX6_digest_58 : decode cX6_digest 58 = .ok (.aload_n 3, 1) := by decide +kernel
theorem dX6_digest_59 : decode cX6_digest 59 = .ok (.iload 5, 2) := by decide +kernel
theorem dX6_digest_61 : decode cX6_digest 61 = .ok (.iaload, 1) := by decide +kernel
theorem dX6_digest_62 : decode cX6_digest 62 = .ok (.istore 6, 2) := by decide +kernel
theorem dX6_digest_64 : decode cX6_digest 64 = .ok (.lload_n 1, 1) := by decide +kernel
theorem dX6_digest_65 : decode cX6_digest 65 = .ok (.ldc2_w 149, 3) := by decide +kernel
theorem dX6_digest_68 : decode cX6_digest 68 = .ok (.lmul, 1) := by decide +kernel
theorem dX6_digest_69 : decode cX6_digest 69 = .ok (.iload 6, 2) := by decide +kernel
theorem dX6_digest_71 : decode cX6_digest 71 = .ok (.i2l, 1) := by decide +kernel
theorem dX6_digest_72 : decode cX6_digest 72 = .ok (.ladd, 1) := by decide +kernel
theorem dX6_digest_73 : decode cX6_digest 73 = .ok (.lstore_n 1, 1) := by decide +kernel
theorem dX6_digest_74 : decode cX6_digest 74 = .ok (.iinc 5 1, 3) := by decide +kernel
theorem dX6_digest_77 : decode cX6_digest 77 = .ok (.goto (-26), 3) := by decide +kernel
theorem dX6_digest_80 : decode cX6_digest 80 = .ok (.iconst 0, 1) := by decide +kernel
theorem dX6_digest_81 : decode cX6_digest 81 = .ok (.istore_n 3, 1) := by decide +kernel
theorem dX6_digest_82 : decode cX6_digest 82 = .ok (.iload_n 3, 1) := by decide +kernel
theorem dX6_digest_83 : decode cX6_digest 83 = .ok (.aload_n 0, 1) := by decide +kernel
theorem dX6_digest_84 : decode cX6_digest 84 = .ok (.getfield 48, 3) := by decide +kernel
theorem dX6_digest_87 : decode cX6_digest 87 = .ok (.if_icmp .ge 40, 3) := by decide +kernel
theorem dX6_digest_90 : decode cX6_digest 90 = .ok (.iconst 0, 1) := by decide +kernel
theorem dX6_digest_91 : decode cX6_digest 91 = .ok (.istore 4, 2) := by decide +kernel
theorem dX6_digest_93 : decode cX6_digest 93 = .ok (.iload 4, 2) := by decide +kernel
theorem dX6_digest_95 : decode cX6_digest 95 = .ok (.bipush 7, 2) := by decide +kernel
theorem dX6_digest_97 : decode cX6_digest 97 = .ok (.if_icmp .ge 24, 3) := by decide +kernel
theorem dX6_digest_100 : decode cX6_digest 100 = .ok (.lload_n 1, 1) := by decide +kernel
theorem dX6_digest_101 : decode cX6_digest 101 = .ok (.ldc2_w 149, 3) := by decide +kernel
theorem dX6_digest_104 : decode cX6_digest 104 = .ok (.lmul, 1) := by decide +kernel
theorem dX6_digest_105 : decode cX6_digest 105 = .ok (.aload_n 0, 1) := by decide +kernel
theorem dX6_digest_106 : decode cX6_digest 106 = .ok (.iload_n 3, 1) := by decide +kernel
theorem dX6_digest_107 : decode cX6_digest 107 = .ok (.iload 4, 2) := by decide +kernel
theorem dX6_digest_109 : decode cX6_digest 109 = .ok (.invokevirtual 104, 3) := by decide +kernel
theorem dX6_digest_112 : decode cX6_digest 112 = .ok (.i2l, 1) := by decide +kernel
theorem dX6_digest_113 : decode cX6_digest 113 = .ok (.ladd, 1) := by decide +kernel
theorem dX6_digest_114 : decode cX6_digest 114 = .ok (.lstore_n 1, 1) := by decide +kernel
theorem dX6_digest_115 : decode cX6_digest 115 = .ok (.iinc 4 1, 3) := by decide +kernel
theorem dX6_digest_118 : decode cX6_digest 118 = .ok (.goto (-25), 3) := by decide +kernel
theorem dX6_digest_121 : decode cX6_digest 121 = .ok (.iinc 3 1, 3) := by decide +kernel
theorem dX6_digest_124 : decode cX6_digest 124 = .ok (.goto (-42), 3) := by decide +kernel
theorem dX6_digest_127 : decode cX6_digest 127 = .ok (.iconst 0, 1) := by decide +kernel
theorem dX6_digest_128 : decode cX6_digest 128 = .ok (.istore_n 3, 1) := by decide +kernel
theorem dX6_digest_129 : decode cX6_digest 129 = .ok (.iload_n 3, 1) := by decide +kernel
theorem dX6_digest_130 : decode cX6_digest 130 = .ok (.aload_n 0, 1) := by decide +kernel
theorem dX6_digest_131 : decode cX6_digest 131 = .ok (.getfield 51, 3) := by decide +kernel
theorem dX6_digest_134 : decode cX6_digest 134 = .ok (.if_icmp .ge 39, 3) := by decide +kernel
theorem dX6_digest_137 : decode cX6_digest 137 = .ok (.iconst 0, 1) := by decide +kernel
theorem dX6_digest_138 : decode cX6_digest 138 = .ok (.istore 4, 2) := by decide +kernel
theorem dX6_digest_140 : decode cX6_digest 140 = .ok (.iload 4, 2) := by decide +kernel
theorem dX6_digest_142 : decode cX6_digest 142 = .ok (.iconst 5, 1) := by decide +kernel
theorem dX6_digest_143 : decode cX6_digest 143 = .ok (.if_icmp .ge 24, 3) := by decide +kernel
theorem dX6_digest_146 : decode cX6_digest 146 = .ok (.lload_n 1, 1) := by decide +kernel
theorem dX6_digest_147 : decode cX6_digest 147 = .ok (.ldc2_w 149, 3) := by decide +kernel
theorem dX6_digest_150 : decode cX6_digest 150 = .ok (.lmul, 1) := by decide +kernel
theorem dX6_digest_151 : decode cX6_digest 151 = .ok (.aload_n 0, 1) := by decide +kernel
theorem dX6_digest_152 : decode cX6_digest 152 = .ok (.iload_n 3, 1) := by decide +kernel
theorem dX6_digest_153 : decode cX6_digest 153 = .ok (.iload 4, 2) := by decide +kernel
theorem dX6_digest_155 : decode cX6_digest 155 = .ok (.invokevirtual 113, 3) := by decide +kernel
theorem dX6_digest_158 : decode cX6_digest 158 = .ok (.i2l, 1) := by decide +kernel
theorem dX6_digest_159 : decode cX6_digest 159 = .ok (.ladd, 1) := by decide +kernel
theorem dX6_digest_160 : decode cX6_digest 160 = .ok (.lstore_n 1, 1) := by decide +kernel
theorem dX6_digest_161 : decode cX6_digest 161 = .ok (.iinc 4 1, 3) := by decide +kernel
theorem dX6_digest_164 : decode cX6_digest 164 = .ok (.goto (-24), 3) := by decide +kernel
theorem dX6_digest_167 : decode cX6_digest 167 = .ok (.iinc 3 1, 3) := by decide +kernel
theorem dX6_digest_170 : decode cX6_digest 170 = .ok (.goto (-41), 3) := by decide +kernel
theorem dX6_digest_173 : decode cX6_digest 173 = .ok (.iconst 0, 1) := by decide +kernel
theorem dX6_digest_174 : decode cX6_digest 174 = .ok (.istore_n 3, 1) := by decide +kernel
theorem dX6_digest_175 : decode cX6_digest 175 = .ok (.iload_n 3, 1) := by decide +kernel
theorem dX6_digest_176 : decode cX6_digest 176 = .ok (.aload_n 0, 1) := by decide +kernel
theorem dX6_digest_177 : decode cX6_digest 177 = .ok (.getfield 86, 3) := by decide +kernel
theorem dX6_digest_180 : decode cX6_digest 180 = .ok (.if_icmp .ge 39, 3) := by decide +kernel
theorem dX6_digest_183 : decode cX6_digest 183 = .ok (.iconst 0, 1) := by decide +kernel
theorem dX6_digest_184 : decode cX6_digest 184 = .ok (.istore 4, 2) := by decide +kernel
theorem dX6_digest_186 : decode cX6_digest 186 = .ok (.iload 4, 2) := by decide +kernel
theorem dX6_digest_188 : decode cX6_digest 188 = .ok (.iconst 4, 1) := by decide +kernel
theorem dX6_digest_189 : decode cX6_digest 189 = .ok (.if_icmp .ge 24, 3) := by decide +kernel
theorem dX6_digest_192 : decode cX6_digest 192 = .ok (.lload_n 1, 1) := by decide +kernel
theorem dX6_digest_193 : decode cX6_digest 193 = .ok (.ldc2_w 149, 3) := by decide +kernel
theorem dX6_digest_196 : decode cX6_digest 196 = .ok (.lmul, 1) := by decide +kernel
theorem dX6_digest_197 : decode cX6_digest 197 = .ok (.aload_n 0, 1) := by decide +kernel
theorem dX6_digest_198 : decode cX6_digest 198 = .ok (.iload_n 3, 1) := by decide +kernel
theorem dX6_digest_199 : decode cX6_digest 199 = .ok (.iload 4, 2) := by decide +kernel
theorem dX6_digest_201 : decode cX6_digest 201 = .ok (.invokevirtual 119, 3) := by decide +kernel
theorem dX6_digest_204 : decode cX6_digest 204 = .ok (.i2l, 1) := by decide +kernel
theorem dX6_digest_205 : decode cX6_digest 205 = .ok (.ladd, 1) := by decide +kernel
theorem dX6_digest_206 : decode cX6_digest 206 = .ok (.lstore_n 1, 1) := by decide +kernel
theorem dX6_digest_207 : decode cX6_digest 207 = .ok (.iinc 4 1, 3) := by decide +kernel
theorem dX6_digest_210 : decode cX6_digest 210 = .ok (.goto (-24), 3) := by decide +kernel
theorem dX6_digest_213 : decode cX6_digest 213 = .ok (.iinc 3 1, 3) := by decide +kernel
theorem dX6_digest_216 : decode cX6_digest 216 = .ok (.goto (-41), 3) := by decide +kernel
theorem dX6_digest_219 : decode cX6_digest 219 = .ok (.lload_n 1, 1) := by decide +kernel
theorem dX6_digest_220 : decode cX6_digest 220 = .ok (.lreturn, 1) := by decide +kernel
end
section
theorem dL_plant_0 : decode cL_plant 0 = .ok (.aload 5, 2) := by decide +kernel
theorem dL_plant_2 : decode cL_plant 2 = .ok (.iconst 0, 1) := by decide +kernel
theorem dL_plant_3 : decode cL_plant 3 = .ok (.aload_n 0, 1) := by decide +kernel
theorem dL_plant_4 : decode cL_plant 4 = .ok (.iload_n 1, 1) := by decide +kernel
theorem dL_plant_5 : decode cL_plant 5 = .ok (.iload_n 2, 1) := by decide +kernel
theorem dL_plant_6 : decode cL_plant 6 = .ok (.iload_n 3, 1) := by decide +kernel
theorem dL_plant_7 : decode cL_plant 7 = .ok (.iload 4, 2) := by decide +kernel
theorem dL_plant_9 : decode cL_plant 9 = .ok (.invokevirtual 7, 3) := by decide +kernel
theorem dL_plant_12 : decode cL_plant 12 = .ok (.i2l, 1) := by decide +kernel
theorem dL_plant_13 : decode cL_plant 13 = .ok (.lastore, 1) := by decide +kernel
theorem dL_plant_14 : decode cL_plant 14 = .ok (.goto 11, 3) := by decide +kernel
theorem dL_plant_17 : decode cL_plant 17 = .ok (.astore 6, 2) := by decide +kernel
theorem dL_plant_19 : decode cL_plant 19 = .ok (.iconst 1, 1) := by decide +kernel
theorem dL_plant_20 : decode cL_plant 20 = .ok (.ireturn, 1) := by decide +kernel
theorem dL_plant_21 : decode cL_plant 21 = .ok (.astore 6, 2) := by decide +kernel
theorem dL_plant_23 : decode cL_plant 23 = .ok (.iconst 2, 1) := by decide +kernel
theorem dL_plant_24 : decode cL_plant 24 = .ok (.ireturn, 1) := by decide +kernel
theorem dL_plant_25 : decode cL_plant 25 = .ok (.iconst 0, 1) := by decide +kernel
theorem dL_plant_26 : decode cL_plant 26 = .ok (.ireturn, 1) := by decide +kernel
theorem dL_sign_0 : decode cL_sign 0 = .ok (.aload 4, 2) := by decide +kernel
theorem dL_sign_2 : decode cL_sign 2 = .ok (.iconst 0, 1) := by decide +kernel
theorem dL_sign_3 : decode cL_sign 3 = .ok (.aload_n 0, 1) := by decide +kernel
theorem dL_sign_4 : decode cL_sign 4 = .ok (.iload_n 1, 1) := by decide +kernel
theorem dL_sign_5 : decode cL_sign 5 = .ok (.iload_n 2, 1) := by decide +kernel
theorem dL_sign_6 : decode cL_sign 6 = .ok (.iload_n 3, 1) := by decide +kernel
theorem dL_sign_7 : decode cL_sign 7 = .ok (.invokevirtual 17, 3) := by decide +kernel
theorem dL_sign_10 : decode cL_sign 10 = .ok (.i2l, 1) := by decide +kernel
theorem dL_sign_11 : decode cL_sign 11 = .ok (.lastore, 1) := by decide +kernel
theorem dL_sign_12 : decode cL_sign 12 = .ok (.goto 7, 3) := by decide +kernel
theorem dL_sign_15 : decode cL_sign 15 = .ok (.astore 5, 2) := by decide +kernel
theorem dL_sign_17 : decode cL_sign 17 = .ok (.iconst 1, 1) := by decide +kernel
theorem dL_sign_18 : decode cL_sign 18 = .ok (.ireturn, 1) := by decide +kernel
theorem dL_sign_19 : decode cL_sign 19 = .ok (.iconst 0, 1) := by decide +kernel
theorem dL_sign_20 : decode cL_sign 20 = .ok (.ireturn, 1) := by decide +kernel
theorem dL_cannon_0 : decode cL_cannon 0 = .ok (.aload 4, 2) := by decide +kernel
theorem dL_cannon_2 : decode cL_cannon 2 = .ok (.iconst 0, 1) := by decide +kernel
theorem dL_cannon_3 : decode cL_cannon 3 = .ok (.aload_n 0, 1) := by decide +kernel
theorem dL_cannon_4 : decode cL_cannon 4 = .ok (.iload_n 1, 1) := by decide +kernel
theorem dL_cannon_5 : decode cL_cannon 5 = .ok (.iload_n 2, 1) := by decide +kernel
theorem dL_cannon_6 : decode cL_cannon 6 = .ok (.iload_n 3, 1) := by decide +kernel
theorem dL_cannon_7 : decode cL_cannon 7 = .ok (.invokevirtual 23, 3) := by decide +kernel
theorem dL_cannon_10 : decode cL_cannon 10 = .ok (.i2l, 1) := by decide +kernel
theorem dL_cannon_11 : decode cL_cannon 11 = .ok (.lastore, 1) := by decide +kernel
theorem dL_cannon_12 : decode cL_cannon 12 = .ok (.goto 11, 3) := by decide +kernel
theorem dL_cannon_15 : decode cL_cannon 15 = .ok (.astore 5, 2) := by decide +kernel
theorem dL_cannon_17 : decode cL_cannon 17 = .ok (.iconst 1, 1) := by decide +kernel
theorem dL_cannon_18 : decode cL_cannon 18 = .ok (.ireturn, 1) := by decide +kernel
theorem dL_cannon_19 : decode cL_cannon 19 = .ok (.astore 5, 2) := by decide +kernel
theorem dL_cannon_21 : decode cL_cannon 21 = .ok (.iconst 2, 1) := by decide +kernel
theorem dL_cannon_22 : decode cL_cannon 22 = .ok (.ireturn, 1) := by decide +kernel
theorem dL_cannon_23 : decode cL_cannon 23 = .ok (.iconst 0, 1) := by decide +kernel
theorem dL_cannon_24 : decode cL_cannon 24 = .ok (.ireturn, 1) := by decide +kernel
theorem dL_load_0 : decode cL_load 0 = .ok (.aload_n 3, 1) := by decide +kernel
theorem dL_load_1 : decode cL_load 1 = .ok (.iconst 0, 1) := by decide +kernel
theorem dL_load_2 : decode cL_load 2 = .ok (.aload_n 0, 1) := by decide +kernel
theorem dL_load_3 : decode cL_load 3 = .ok (.iload_n 1, 1) := by decide +kernel
theorem dL_load_4 : decode cL_load 4 = .ok (.iload_n 2, 1) := by decide +kernel
theorem dL_load_5 : decode cL_load 5 = .ok (.invokevirtual 27, 3) := by decide +kernel
theorem dL_load_8 : decode cL_load 8 = .ok (.i2l, 1) := by decide +kernel
theorem dL_load_9 : decode cL_load 9 = .ok (.lastore, 1) := by decide +kernel
theorem dL_load_10 : decode cL_load 10 = .ok (.goto 11, 3) := by decide +kernel
theorem dL_load_13 : decode cL_load 13 = .ok (.astore 4, 2) := by decide +kernel
theorem dL_load_15 : decode cL_load 15 = .ok (.iconst 1, 1) := by decide +kernel
theorem dL_load_16 : decode cL_load 16 = .ok (.ireturn, 1) := by decide +kernel
theorem dL_load_17 : decode cL_load 17 = .ok (.astore 4, 2) := by decide +kernel
theorem dL_load_19 : decode cL_load 19 = .ok (.iconst 2, 1) := by decide +kernel
theorem dL_load_20 : decode cL_load 20 = .ok (.ireturn, 1) := by decide +kernel
theorem dL_load_21 : decode cL_load 21 = .ok (.iconst 0, 1) := by decide +kernel
theorem dL_load_22 : decode cL_load 22 = .ok (.ireturn, 1) := by decide +kernel
theorem dL_gather_0 : decode cL_gather 0 = .ok (.aload 4, 2) := by decide +kernel
theorem dL_gather_2 : decode cL_gather 2 = .ok (.iconst 0, 1) := by decide +kernel
theorem dL_gather_3 : decode cL_gather 3 = .ok (.aload_n 0, 1) := by decide +kernel
theorem dL_gather_4 : decode cL_gather 4 = .ok (.iload_n 1, 1) := by decide +kernel
theorem dL_gather_5 : decode cL_gather 5 = .ok (.iload_n 2, 1) := by decide +kernel
theorem dL_gather_6 : decode cL_gather 6 = .ok (.iload_n 3, 1) := by decide +kernel
theorem dL_gather_7 : decode cL_gather 7 = .ok (.invokevirtual 31, 3) := by decide +kernel
theorem dL_gather_10 : decode cL_gather 10 = .ok (.i2l, 1) := by decide +kernel
theorem dL_gather_11 : decode cL_gather 11 = .ok (.lastore, 1) := by decide +kernel
theorem dL_gather_12 : decode cL_gather 12 = .ok (.goto 11, 3) := by decide +kernel
theorem dL_gather_15 : decode cL_gather 15 = .ok (.astore 5, 2) := by decide +kernel
theorem dL_gather_17 : decode cL_gather 17 = .ok (.iconst 1, 1) := by decide +kernel
theorem dL_gather_18 : decode cL_gather 18 = .ok (.ireturn, 1) := by decide +kernel
theorem dL_gather_19 : decode cL_gather 19 = .ok (.astore 5, 2) := by decide +kernel
theorem dL_gather_21 : decode cL_gather 21 = .ok (.iconst 2, 1) := by decide +kernel
theorem dL_gather_22 : decode cL_gather 22 = .ok (.ireturn, 1) := by decide +kernel
theorem dL_gather_23 : decode cL_gather 23 = .ok (.iconst 0, 1) := by decide +kernel
theorem dL_gather_24 : decode cL_gather 24 = .ok (.ireturn, 1) := by decide +kernel
theorem dL_setWind_0 : decode cL_setWind 0 = .ok (.aload_n 3, 1) := by decide +kernel
theorem dL_setWind_1 : decode cL_setWind 1 = .ok (.iconst 0, 1) := by decide +kernel
theorem dL_setWind_2 : decode cL_setWind 2 = .ok (.aload_n 0, 1) := by decide +kernel
theorem dL_setWind_3 : decode cL_setWind 3 = .ok (.iload_n 1, 1) := by decide +kernel
theorem dL_setWind_4 : decode cL_setWind 4 = .ok (.iload_n 2, 1) := by decide +kernel
theorem dL_setWind_5 : decode cL_setWind 5 = .ok (.invokevirtual 34, 3) := by decide +kernel
theorem dL_setWind_8 : decode cL_setWind 8 = .ok (.i2l, 1) := by decide +kernel
theorem dL_setWind_9 : decode cL_setWind 9 = .ok (.lastore, 1) := by decide +kernel
theorem dL_setWind_10 : decode cL_setWind 10 = .ok (.goto 11, 3) := by decide +kernel
theorem dL_setWind_13 : decode cL_setWind 13 = .ok (.astore 4, 2) := by decide +kernel
theorem dL_setWind_15 : decode cL_setWind 15 = .ok (.iconst 1, 1) := by decide +kernel
theorem dL_setWind_16 : decode cL_setWind 16 = .ok (.ireturn, 1) := by decide +kernel
theorem dL_setWind_17 : decode cL_setWind 17 = .ok (.astore 4, 2) := by decide +kernel
theorem dL_setWind_19 : decode cL_setWind 19 = .ok (.iconst 2, 1) := by decide +kernel
theorem dL_setWind_20 : decode cL_setWind 20 = .ok (.ireturn, 1) := by decide +kernel
theorem dL_setWind_21 : decode cL_setWind 21 = .ok (.iconst 0, 1) := by decide +kernel
theorem dL_setWind_22 : decode cL_setWind 22 = .ok (.ireturn, 1) := by decide +kernel
theorem dL_vineyard_0 : decode cL_vineyard 0 = .ok (.aload_n 3, 1) := by decide +kernel
theorem dL_vineyard_1 : decode cL_vineyard 1 = .ok (.iconst 0, 1) := by decide +kernel
theorem dL_vineyard_2 : decode cL_vineyard 2 = .ok (.aload_n 0, 1) := by decide +kernel
theorem dL_vineyard_3 : decode cL_vineyard 3 = .ok (.iload_n 1, 1) := by decide +kernel
theorem dL_vineyard_4 : decode cL_vineyard 4 = .ok (.iload_n 2, 1) := by decide +kernel
theorem dL_vineyard_5 : decode cL_vineyard 5 = .ok (.invokevirtual 37, 3) := by decide +kernel
theorem dL_vineyard_8 : decode cL_vineyard 8 = .ok (.i2l, 1) := by decide +kernel
theorem dL_vineyard_9 : decode cL_vineyard 9 = .ok (.lastore, 1) := by decide +kernel
theorem dL_vineyard_10 : decode cL_vineyard 10 = .ok (.goto 7, 3) := by decide +kernel
theorem dL_vineyard_13 : decode cL_vineyard 13 = .ok (.astore 4, 2) := by decide +kernel
theorem dL_vineyard_15 : decode cL_vineyard 15 = .ok (.iconst 1, 1) := by decide +kernel
theorem dL_vineyard_16 : decode cL_vineyard 16 = .ok (.ireturn, 1) := by decide +kernel
theorem dL_vineyard_17 : decode cL_vineyard 17 = .ok (.iconst 0, 1) := by decide +kernel
theorem dL_vineyard_18 : decode cL_vineyard 18 = .ok (.ireturn, 1) := by decide +kernel
theorem dL_about_0 : decode cL_about 0 = .ok (.aload_n 3, 1) := by decide +kernel
theorem dL_about_1 : decode cL_about 1 = .ok (.iconst 0, 1) := by decide +kernel
theorem dL_about_2 : decode cL_about 2 = .ok (.aload_n 0, 1) := by decide +kernel
theorem dL_about_3 : decode cL_about 3 = .ok (.iload_n 1, 1) := by decide +kernel
theorem dL_about_4 : decode cL_about 4 = .ok (.iload_n 2, 1) := by decide +kernel
theorem dL_about_5 : decode cL_about 5 = .ok (.invokevirtual 40, 3) := by decide +kernel
theorem dL_about_8 : decode cL_about 8 = .ok (.i2l, 1) := by decide +kernel
theorem dL_about_9 : decode cL_about 9 = .ok (.lastore, 1) := by decide +kernel
theorem dL_about_10 : decode cL_about 10 = .ok (.goto 7, 3) := by decide +kernel
theorem dL_about_13 : decode cL_about 13 = .ok (.astore 4, 2) := by decide +kernel
theorem dL_about_15 : decode cL_about 15 = .ok (.iconst 1, 1) := by decide +kernel
theorem dL_about_16 : decode cL_about 16 = .ok (.ireturn, 1) := by decide +kernel
theorem dL_about_17 : decode cL_about 17 = .ok (.iconst 0, 1) := by decide +kernel
theorem dL_about_18 : decode cL_about 18 = .ok (.ireturn, 1) := by decide +kernel
theorem dL_cloud_0 : decode cL_cloud 0 = .ok (.aload_n 3, 1) := by decide +kernel
theorem dL_cloud_1 : decode cL_cloud 1 = .ok (.iconst 0, 1) := by decide +kernel
theorem dL_cloud_2 : decode cL_cloud 2 = .ok (.aload_n 0, 1) := by decide +kernel
theorem dL_cloud_3 : decode cL_cloud 3 = .ok (.iload_n 1, 1) := by decide +kernel
theorem dL_cloud_4 : decode cL_cloud 4 = .ok (.iload_n 2, 1) := by decide +kernel
theorem dL_cloud_5 : decode cL_cloud 5 = .ok (.invokevirtual 43, 3) := by decide +kernel
theorem dL_cloud_8 : decode cL_cloud 8 = .ok (.i2l, 1) := by decide +kernel
theorem dL_cloud_9 : decode cL_cloud 9 = .ok (.lastore, 1) := by decide +kernel
theorem dL_cloud_10 : decode cL_cloud 10 = .ok (.goto 7, 3) := by decide +kernel
theorem dL_cloud_13 : decode cL_cloud 13 = .ok (.astore 4, 2) := by decide +kernel
theorem dL_cloud_15 : decode cL_cloud 15 = .ok (.iconst 1, 1) := by decide +kernel
theorem dL_cloud_16 : decode cL_cloud 16 = .ok (.ireturn, 1) := by decide +kernel
theorem dL_cloud_17 : decode cL_cloud 17 = .ok (.iconst 0, 1) := by decide +kernel
theorem dL_cloud_18 : decode cL_cloud 18 = .ok (.ireturn, 1) := by decide +kernel
theorem dL_count_0 : decode cL_count 0 = .ok (.aload_n 2, 1) := by decide +kernel
theorem dL_count_1 : decode cL_count 1 = .ok (.iconst 0, 1) := by decide +kernel
theorem dL_count_2 : decode cL_count 2 = .ok (.aload_n 0, 1) := by decide +kernel
theorem dL_count_3 : decode cL_count 3 = .ok (.iload_n 1, 1) := by decide +kernel
theorem dL_count_4 : decode cL_count 4 = .ok (.invokevirtual 46, 3) := by decide +kernel
theorem dL_count_7 : decode cL_count 7 = .ok (.i2l, 1) := by decide +kernel
theorem dL_count_8 : decode cL_count 8 = .ok (.lastore, 1) := by decide +kernel
theorem dL_count_9 : decode cL_count 9 = .ok (.goto 6, 3) := by decide +kernel
theorem dL_count_12 : decode cL_count 12 = .ok (.astore_n 3, 1) := by decide +kernel
theorem dL_count_13 : decode cL_count 13 = .ok (.iconst 1, 1) := by decide +kernel
theorem dL_count_14 : decode cL_count 14 = .ok (.ireturn, 1) := by decide +kernel
theorem dL_count_15 : decode cL_count 15 = .ok (.iconst 0, 1) := by decide +kernel
theorem dL_count_16 : decode cL_count 16 = .ok (.ireturn, 1) := by decide +kernel
theorem dL_pass_0 : decode cL_pass 0 = .ok (.aload_n 2, 1) := by decide +kernel
theorem dL_pass_1 : decode cL_pass 1 = .ok (.iconst 0, 1) := by decide +kernel
theorem dL_pass_2 : decode cL_pass 2 = .ok (.aload_n 0, 1) := by decide +kernel
theorem dL_pass_3 : decode cL_pass 3 = .ok (.iload_n 1, 1) := by decide +kernel
theorem dL_pass_4 : decode cL_pass 4 = .ok (.invokevirtual 50, 3) := by decide +kernel
theorem dL_pass_7 : decode cL_pass 7 = .ok (.i2l, 1) := by decide +kernel
theorem dL_pass_8 : decode cL_pass 8 = .ok (.lastore, 1) := by decide +kernel
theorem dL_pass_9 : decode cL_pass 9 = .ok (.goto 6, 3) := by decide +kernel
theorem dL_pass_12 : decode cL_pass 12 = .ok (.astore_n 3, 1) := by decide +kernel
theorem dL_pass_13 : decode cL_pass 13 = .ok (.iconst 1, 1) := by decide +kernel
theorem dL_pass_14 : decode cL_pass 14 = .ok (.ireturn, 1) := by decide +kernel
theorem dL_pass_15 : decode cL_pass 15 = .ok (.iconst 0, 1) := by decide +kernel
theorem dL_pass_16 : decode cL_pass 16 = .ok (.ireturn, 1) := by decide +kernel
theorem dL_hit_0 : decode cL_hit 0 = .ok (.aload_n 2, 1) := by decide +kernel
theorem dL_hit_1 : decode cL_hit 1 = .ok (.iconst 0, 1) := by decide +kernel
theorem dL_hit_2 : decode cL_hit 2 = .ok (.aload_n 0, 1) := by decide +kernel
theorem dL_hit_3 : decode cL_hit 3 = .ok (.iload_n 1, 1) := by decide +kernel
theorem dL_hit_4 : decode cL_hit 4 = .ok (.invokevirtual 53, 3) := by decide +kernel
theorem dL_hit_7 : decode cL_hit 7 = .ok (.i2l, 1) := by decide +kernel
theorem dL_hit_8 : decode cL_hit 8 = .ok (.lastore, 1) := by decide +kernel
theorem dL_hit_9 : decode cL_hit 9 = .ok (.goto 6, 3) := by decide +kernel
theorem dL_hit_12 : decode cL_hit 12 = .ok (.astore_n 3, 1) := by decide +kernel
theorem dL_hit_13 : decode cL_hit 13 = .ok (.iconst 1, 1) := by decide +kernel
theorem dL_hit_14 : decode cL_hit 14 = .ok (.ireturn, 1) := by decide +kernel
theorem dL_hit_15 : decode cL_hit 15 = .ok (.iconst 0, 1) := by decide +kernel
theorem dL_hit_16 : decode cL_hit 16 = .ok (.ireturn, 1) := by decide +kernel
theorem dL_foresee_0 : decode cL_foresee 0 = .ok (.aload_n 3, 1) := by decide +kernel
theorem dL_foresee_1 : decode cL_foresee 1 = .ok (.iconst 0, 1) := by decide +kernel
theorem dL_foresee_2 : decode cL_foresee 2 = .ok (.aload_n 0, 1) := by decide +kernel
theorem dL_foresee_3 : decode cL_foresee 3 = .ok (.iload_n 1, 1) := by decide +kernel
theorem dL_foresee_4 : decode cL_foresee 4 = .ok (.iload_n 2, 1) := by decide +kernel
theorem dL_foresee_5 : decode cL_foresee 5 = .ok (.invokevirtual 56, 3) := by decide +kernel
theorem dL_foresee_8 : decode cL_foresee 8 = .ok (.i2l, 1) := by decide +kernel
theorem dL_foresee_9 : decode cL_foresee 9 = .ok (.lastore, 1) := by decide +kernel
theorem dL_foresee_10 : decode cL_foresee 10 = .ok (.goto 11, 3) := by decide +kernel
theorem dL_foresee_13 : decode cL_foresee 13 = .ok (.astore 4, 2) := by decide +kernel
theorem dL_foresee_15 : decode cL_foresee 15 = .ok (.iconst 1, 1) := by decide +kernel
theorem dL_foresee_16 : decode cL_foresee 16 = .ok (.ireturn, 1) := by decide +kernel
theorem dL_foresee_17 : decode cL_foresee 17 = .ok (.astore 4, 2) := by decide +kernel
theorem dL_foresee_19 : decode cL_foresee 19 = .ok (.iconst 2, 1) := by decide +kernel
theorem dL_foresee_20 : decode cL_foresee 20 = .ok (.ireturn, 1) := by decide +kernel
theorem dL_foresee_21 : decode cL_foresee 21 = .ok (.iconst 0, 1) := by decide +kernel
theorem dL_foresee_22 : decode cL_foresee 22 = .ok (.ireturn, 1) := by decide +kernel
theorem dL_advise_0 : decode cL_advise 0 = .ok (.aload_n 3, 1) := by decide +kernel
theorem dL_advise_1 : decode cL_advise 1 = .ok (.iconst 0, 1) := by decide +kernel
theorem dL_advise_2 : decode cL_advise 2 = .ok (.aload_n 0, 1) := by decide +kernel
theorem dL_advise_3 : decode cL_advise 3 = .ok (.iload_n 1, 1) := by decide +kernel
theorem dL_advise_4 : decode cL_advise 4 = .ok (.iload_n 2, 1) := by decide +kernel
theorem dL_advise_5 : decode cL_advise 5 = .ok (.invokevirtual 59, 3) := by decide +kernel
theorem dL_advise_8 : decode cL_advise 8 = .ok (.i2l, 1) := by decide +kernel
theorem dL_advise_9 : decode cL_advise 9 = .ok (.lastore, 1) := by decide +kernel
theorem dL_advise_10 : decode cL_advise 10 = .ok (.goto 11, 3) := by decide +kernel
theorem dL_advise_13 : decode cL_advise 13 = .ok (.astore 4, 2) := by decide +kernel
theorem dL_advise_15 : decode cL_advise 15 = .ok (.iconst 1, 1) := by decide +kernel
theorem dL_advise_16 : decode cL_advise 16 = .ok (.ireturn, 1) := by decide +kernel
theorem dL_advise_17 : decode cL_advise 17 = .ok (.astore 4, 2) := by decide +kernel
theorem dL_advise_19 : decode cL_advise 19 = .ok (.iconst 2, 1) := by decide +kernel
theorem dL_advise_20 : decode cL_advise 20 = .ok (.ireturn, 1) := by decide +kernel
theorem dL_advise_21 : decode cL_advise 21 = .ok (.iconst 0, 1) := by decide +kernel
theorem dL_advise_22 : decode cL_advise 22 = .ok (.ireturn, 1) := by decide +kernel
theorem dL_move_0 : decode cL_move 0 = .ok (.aload_n 3, 1) := by decide +kernel
theorem dL_move_1 : decode cL_move 1 = .ok (.iconst 0, 1) := by decide +kernel
theorem dL_move_2 : decode cL_move 2 = .ok (.aload_n 0, 1) := by decide +kernel
theorem dL_move_3 : decode cL_move 3 = .ok (.iload_n 1, 1) := by decide +kernel
theorem dL_move_4 : decode cL_move 4 = .ok (.iload_n 2, 1) := by decide +kernel
theorem dL_move_5 : decode cL_move 5 = .ok (.invokevirtual 62, 3) := by decide +kernel
theorem dL_move_8 : decode cL_move 8 = .ok (.i2l, 1) := by decide +kernel
theorem dL_move_9 : decode cL_move 9 = .ok (.lastore, 1) := by decide +kernel
theorem dL_move_10 : decode cL_move 10 = .ok (.goto 11, 3) := by decide +kernel
theorem dL_move_13 : decode cL_move 13 = .ok (.astore 4, 2) := by decide +kernel
theorem dL_move_15 : decode cL_move 15 = .ok (.iconst 1, 1) := by decide +kernel
theorem dL_move_16 : decode cL_move 16 = .ok (.ireturn, 1) := by decide +kernel
theorem dL_move_17 : decode cL_move 17 = .ok (.astore 4, 2) := by decide +kernel
theorem dL_move_19 : decode cL_move 19 = .ok (.iconst 2, 1) := by decide +kernel
theorem dL_move_20 : decode cL_move 20 = .ok (.ireturn, 1) := by decide +kernel
theorem dL_move_21 : decode cL_move 21 = .ok (.iconst 0, 1) := by decide +kernel
theorem dL_move_22 : decode cL_move 22 = .ok (.ireturn, 1) := by decide +kernel
end
section
-- THE LAYER: a goal is a list of cells, a list of locals, a pc, a stack; what else a walk carries is bundled
def mn (x y : Int32) : Int32 := if y < x then y else x
def mx (x y : Int32) : Int32 := if x < y then y else x
def ab (x : Int32) : Int32 := if 0 ≤ x then x else 0 - x
def bI (b : Bool) : Int32 := if b then 1 else 0
/-- a fold over 0 .. n-1 -/
def yi {α : Type} : Nat → (Nat → α → α) → α → α
  | 0, _, x => x
  | n + 1, s, x => s n (yi n s x)
abbrev yyG : Type := Program × Launch × Env × Room × State × MethodId × Array Value × List Frame × Method × Code × (Nat → Prop) × Nat
abbrev gP (G : yyG) : Program := G.1
abbrev gL (G : yyG) : Launch := G.2.1
abbrev gE (G : yyG) : Env := G.2.2.1
abbrev gR (G : yyG) : Room := G.2.2.2.1
abbrev gS (G : yyG) : State := G.2.2.2.2.1
abbrev gM (G : yyG) : MethodId := G.2.2.2.2.2.1
abbrev gV (G : yyG) : Array Value := G.2.2.2.2.2.2.1
abbrev gB (G : yyG) : List Frame := G.2.2.2.2.2.2.2.1
abbrev gT (G : yyG) : Method := G.2.2.2.2.2.2.2.2.1
abbrev gC (G : yyG) : Code := G.2.2.2.2.2.2.2.2.2.1
abbrev gA (G : yyG) : Nat → Prop := G.2.2.2.2.2.2.2.2.2.2.1
abbrev gN (G : yyG) : Nat := G.2.2.2.2.2.2.2.2.2.2.2
abbrev yyD : Type := va_G × ClassId × ClassId × ClassId
abbrev aI (d : yyD) (n : Nat) (f : Nat → Int32) : va_E := .inl (d.2.1, n, .inl f)
abbrev aZ (d : yyD) (n : Nat) (f : Nat → Bool) : va_E := .inl (d.2.2.1, n, .inl (fun k => bI (f k)))
abbrev aJ (d : yyD) (n : Nat) (f : Nat → Int64) : va_E := .inl (d.2.2.2, n, .inr (.inl f))
def isNest : Cond → Bool
  | .fieldLinkNest .. => true
  | .methodLinkNest .. => true
  | .declares _ => true
  | .castable .. => true
  | _ => false
theorem NL_nest : ∀ w ∈ NL, isNest w = true := by
  intro w h
  have : NL.all isNest = true := rfl
  exact List.all_eq_true.mp this w h
theorem nest_warm {w : Cond} {s U : State} (hw : isNest w = true) (hW : s.WarmedH U.vm) (h : va_Nw w s) : va_Nw w U := by
  cases w <;> first | exact va_Nw.warmF hW h | exact va_Nw.warmM hW h | exact va_Nw.warmD hW h | exact va_Nw.warmC hW h | exact absurd hw (by simp [isNest])
theorem nest_on {w : Cond} (hw : isNest w = true) : w.onTables = true := by
  cases w <;> first | rfl | exact absurd hw (by simp [isNest])
def yyK (d : yyD) (U : State) : Prop := va_K d.1 vwCl [(d.2.1, .int), (d.2.2.1, .boolean), (d.2.2.2, .long)] U ∧ ∀ w ∈ NL, va_Nw w U
theorem yyK.warm {d : yyD} {s U : State} (h : yyK d s) (hW : s.WarmedH U.vm) : yyK d U :=
  ⟨va_K.moved hW.alike h.1, fun w hw => nest_warm (NL_nest w hw) hW (h.2 w hw)⟩
theorem yyK.same {d : yyD} {s U : State} (h : yyK d s) (hv : s.vm = U.vm) : yyK d U :=
  ⟨va_K.moved (hv ▸ Vm.Alike.refl s.vm) h.1, fun w hw => va_Nw.same (nest_on (NL_nest w hw)) hv (h.2 w hw)⟩
/-- the goal -/
def yyW (d : yyD) (G : yyG) (k n : Nat) (Q : State → Prop) (ws : va_W) (lv : List (Nat × Value)) (pc : Nat) (st : List Value) : Prop :=
  ∀ (H : Heap) (locs : List Loc) (ls : Array Slot), va_P d.1 vwCl ws H → va_D (gA G) ws → va_S (gA G) (gS G).heap H locs → lv_has ls (gN G) lv →
    W (gP G) (gL G) (gE G) (gR G) (gS G) (gM G) (gV G) (gB G) (gT G) (gC G) H locs k n Q (F0 (gM G) pc ls st)
/-- what stands still -/
def yyC (d : yyD) (G : yyG) (cc : ByteArray) (own : String) (R : Room) (nL : Nat) (ret : Option FieldType) : Prop :=
  (gP G).tables.exec = Jvm.exec ∧ (gC G).code = cc ∧ (gC G).maxLocals = nL ∧ (gS G).vm.findClass own = some (gM G).cls ∧ (∀ w ∈ WW, w.before (gV G) (gS G) = true) ∧ yyK d (gS G) ∧ (gT G).locks = false ∧ (∀ q, (gS G).heap.size ≤ q → gA G q) ∧ gR G = R ∧ gN G = nL ∧ (gT G).sig.returnType = ret
section YA
variable {d : yyD} {G : yyG} {cc : ByteArray} {own : String} {R : Room} {nL : Nat} {ret : Option FieldType}
theorem yyC.w (h : yyC d G cc own R nL ret) {w : Cond} (hw : w ∈ WW) : w.before (gV G) (gS G) = true := h.2.2.2.2.1 w hw
theorem yyC.K (h : yyC d G cc own R nL ret) : va_K d.1 vwCl [(d.2.1, .int), (d.2.2.1, .boolean), (d.2.2.2, .long)] (gS G) := h.2.2.2.2.2.1.1
theorem yyC.N (h : yyC d G cc own R nL ret) {w : Cond} (hw : w ∈ NL) : w.before (gV G) (gS G) = true := va_Nw.use (nest_on (NL_nest w hw)) (h.2.2.2.2.2.1.2 w hw)
theorem yyC.lk (h : yyC d G cc own R nL ret) : (gT G).locks = false := h.2.2.2.2.2.2.1
theorem yyC.A (h : yyC d G cc own R nL ret) : ∀ q, (gS G).heap.size ≤ q → gA G q := h.2.2.2.2.2.2.2.1
theorem yyC.rm (h : yyC d G cc own R nL ret) : gR G = R := h.2.2.2.2.2.2.2.2.1
theorem yyC.n (h : yyC d G cc own R nL ret) : gN G = nL := h.2.2.2.2.2.2.2.2.2.1
theorem yyC.r (h : yyC d G cc own R nL ret) : (gT G).sig.returnType = ret := h.2.2.2.2.2.2.2.2.2.2
end YA
section YB
variable {d : yyD} {G : yyG} {cc : ByteArray} {own : String} {R : Room} {nL : Nat} {ret : Option FieldType} {k n : Nat} {Q : State → Prop} {ws : va_W} {lv : List (Nat × Value)} {pc : Nat} {st : List Value}
theorem y_iload (hC : yyC d G cc own R nL ret) (j : Nat) {i : Nat} {x : Int32} (hdg : decode cc pc = .ok (.iload i, 2)) (hl : lv[j]? = some (i, .int x)) (kk : yyW d G k n Q ws lv (pc + 2) (.int x :: st)) : yyW d G k n Q ws lv pc st :=
  fun H locs ls hP hD hS h => lv_iload hC.1 hC.2.1 hdg (lv_at h j hl) (kk H locs ls hP hD hS h)
theorem y_iload_n (hC : yyC d G cc own R nL ret) (j : Nat) {q : Fin 4} {x : Int32} (hdg : decode cc pc = .ok (.iload_n q, 1)) (hl : lv[j]? = some ((q : Nat), .int x)) (kk : yyW d G k n Q ws lv (pc + 1) (.int x :: st)) : yyW d G k n Q ws lv pc st :=
  fun H locs ls hP hD hS h => lv_iload_n hC.1 hC.2.1 hdg rfl (lv_at h j hl) (kk H locs ls hP hD hS h)
theorem y_aload (hC : yyC d G cc own R nL ret) (j : Nat) {i : Nat} {x : Nat} (hdg : decode cc pc = .ok (.aload i, 2)) (hl : lv[j]? = some (i, .ref x)) (kk : yyW d G k n Q ws lv (pc + 2) (.ref x :: st)) : yyW d G k n Q ws lv pc st :=
  fun H locs ls hP hD hS h => lv_aload hC.1 hC.2.1 hdg (lv_at h j hl) (kk H locs ls hP hD hS h)
theorem y_aload_n (hC : yyC d G cc own R nL ret) (j : Nat) {q : Fin 4} {x : Nat} (hdg : decode cc pc = .ok (.aload_n q, 1)) (hl : lv[j]? = some ((q : Nat), .ref x)) (kk : yyW d G k n Q ws lv (pc + 1) (.ref x :: st)) : yyW d G k n Q ws lv pc st :=
  fun H locs ls hP hD hS h => lv_aload_n hC.1 hC.2.1 hdg rfl (lv_at h j hl) (kk H locs ls hP hD hS h)
theorem y_lload_n (hC : yyC d G cc own R nL ret) (j : Nat) {q : Fin 4} {x : Int64} (hdg : decode cc pc = .ok (.lload_n q, 1)) (hl : lv[j]? = some ((q : Nat), .long x)) (kk : yyW d G k n Q ws lv (pc + 1) (.long x :: st)) : yyW d G k n Q ws lv pc st :=
  fun H locs ls hP hD hS h => lv_lload_n hC.1 hC.2.1 hdg rfl (lv_at h j hl) (kk H locs ls hP hD hS h)
theorem y_istore (hC : yyC d G cc own R nL ret) {i : Nat} {x : Int32} (hdg : decode cc pc = .ok (.istore i, 2)) (lv' : List (Nat × Value)) (hl : (i, Value.int x) :: lv.filter (fun q => !(q.1 == i) && !(q.1 + 1 == i && q.2.category == 2)) = lv') (hn : i < nL) (kk : yyW d G k n Q ws lv' (pc + 2) st) : yyW d G k n Q ws lv pc (.int x :: st) :=
  fun H locs _ hP hD hS h => lv_istore hC.1 hC.2.1 hdg h (hC.n ▸ hn) hl (fun ls' h' => kk H locs ls' hP hD hS h')
theorem y_istore_n (hC : yyC d G cc own R nL ret) {q : Fin 4} {x : Int32} (hdg : decode cc pc = .ok (.istore_n q, 1)) (lv' : List (Nat × Value)) (hl : ((q : Nat), Value.int x) :: lv.filter (fun z => !(z.1 == (q : Nat)) && !(z.1 + 1 == (q : Nat) && z.2.category == 2)) = lv') (hn : (q : Nat) < nL) (kk : yyW d G k n Q ws lv' (pc + 1) st) : yyW d G k n Q ws lv pc (.int x :: st) :=
  fun H locs _ hP hD hS h => lv_istore_n hC.1 hC.2.1 hdg rfl h (hC.n ▸ hn) hl (fun ls' h' => kk H locs ls' hP hD hS h')
theorem y_astore (hC : yyC d G cc own R nL ret) {i : Nat} {x : Nat} (hdg : decode cc pc = .ok (.astore i, 2)) (lv' : List (Nat × Value)) (hl : (i, Value.ref x) :: lv.filter (fun q => !(q.1 == i) && !(q.1 + 1 == i && q.2.category == 2)) = lv') (hn : i < nL) (kk : yyW d G k n Q ws lv' (pc + 2) st) : yyW d G k n Q ws lv pc (.ref x :: st) :=
  fun H locs _ hP hD hS h => lv_astore hC.1 hC.2.1 hdg h (hC.n ▸ hn) hl (fun ls' h' => kk H locs ls' hP hD hS h')
theorem y_astore_n (hC : yyC d G cc own R nL ret) {q : Fin 4} {x : Nat} (hdg : decode cc pc = .ok (.astore_n q, 1)) (lv' : List (Nat × Value)) (hl : ((q : Nat), Value.ref x) :: lv.filter (fun z => !(z.1 == (q : Nat)) && !(z.1 + 1 == (q : Nat) && z.2.category == 2)) = lv') (hn : (q : Nat) < nL) (kk : yyW d G k n Q ws lv' (pc + 1) st) : yyW d G k n Q ws lv pc (.ref x :: st) :=
  fun H locs _ hP hD hS h => lv_astore_n hC.1 hC.2.1 hdg rfl h (hC.n ▸ hn) hl (fun ls' h' => kk H locs ls' hP hD hS h')
theorem y_lstore_n (hC : yyC d G cc own R nL ret) {q : Fin 4} {x : Int64} (hdg : decode cc pc = .ok (.lstore_n q, 1)) (lv' : List (Nat × Value)) (hl : ((q : Nat), Value.long x) :: lv.filter (fun z => !(z.1 == (q : Nat)) && (!(z.1 == (q : Nat) + 1) && !(z.1 + 1 == (q : Nat) && z.2.category == 2))) = lv') (hn : (q : Nat) + 1 < nL) (kk : yyW d G k n Q ws lv' (pc + 1) st) : yyW d G k n Q ws lv pc (.long x :: st) :=
  fun H locs _ hP hD hS h => lv_lstore_n hC.1 hC.2.1 hdg rfl h (hC.n ▸ hn) hl (fun ls' h' => kk H locs ls' hP hD hS h')
theorem y_iinc (hC : yyC d G cc own R nL ret) (j : Nat) {i : Nat} {c : Int} {x : Int32} (hdg : decode cc pc = .ok (.iinc i c, 3)) (v : Int32) (lv' : List (Nat × Value)) (hj : lv[j]? = some (i, .int x)) (hv : x + Int32.ofInt c = v) (hl : (i, Value.int v) :: lv.filter (fun q => !(q.1 == i) && !(q.1 + 1 == i && q.2.category == 2)) = lv') (hn : i < nL) (kk : yyW d G k n Q ws lv' (pc + 3) st) : yyW d G k n Q ws lv pc st :=
  fun H locs _ hP hD hS h => lv_iinc hC.1 hC.2.1 hdg h hj hv (hC.n ▸ hn) hl (fun ls' h' => kk H locs ls' hP hD hS h')
theorem y_iconst (hC : yyC d G cc own R nL ret) {c : Int} (hdg : decode cc pc = .ok (.iconst c, 1)) (v : Int32) (hv : Int32.ofInt c = v) (kk : yyW d G k n Q ws lv (pc + 1) (.int v :: st)) : yyW d G k n Q ws lv pc st :=
  fun H locs ls hP hD hS h => lv_iconst hC.1 hC.2.1 hdg hv (kk H locs ls hP hD hS h)
theorem y_bipush (hC : yyC d G cc own R nL ret) {c : Int} (hdg : decode cc pc = .ok (.bipush c, 2)) (v : Int32) (hv : (Int8.ofInt c).toInt32 = v) (kk : yyW d G k n Q ws lv (pc + 2) (.int v :: st)) : yyW d G k n Q ws lv pc st :=
  fun H locs ls hP hD hS h => lv_bipush hC.1 hC.2.1 hdg hv (kk H locs ls hP hD hS h)
theorem y_ldc2 (hC : yyC d G cc own R nL ret) {i : Nat} {v : Int64} (hdg : decode cc pc = .ok (.ldc2_w i, 3)) (hw : Cond.constantLong own i v ∈ WW) (kk : yyW d G k n Q ws lv (pc + 3) (.long v :: st)) : yyW d G k n Q ws lv pc st :=
  fun H locs ls hP hD hS h => lv_ldc2 hC.1 hC.2.1 hC.2.2.2.1 (hC.w hw) hdg (kk H locs ls hP hD hS h)
theorem y_dup (hC : yyC d G cc own R nL ret) {v : Value} (hdg : decode cc pc = .ok (.dup, 1)) (hv : v.category = 1) (kk : yyW d G k n Q ws lv (pc + 1) (v :: v :: st)) : yyW d G k n Q ws lv pc (v :: st) :=
  fun H locs ls hP hD hS h => lv_dup hC.1 hC.2.1 hdg hv (kk H locs ls hP hD hS h)
theorem y_dup2 (hC : yyC d G cc own R nL ret) {v w : Value} (hdg : decode cc pc = .ok (.dup2, 1)) (hv : v.category = 1) (hw : w.category = 1) (kk : yyW d G k n Q ws lv (pc + 1) (v :: w :: v :: w :: st)) : yyW d G k n Q ws lv pc (v :: w :: st) :=
  fun H locs ls hP hD hS h => lv_dup2_11 hC.1 hC.2.1 hdg hv hw (kk H locs ls hP hD hS h)
theorem y_pop (hC : yyC d G cc own R nL ret) {v : Value} (hdg : decode cc pc = .ok (.pop, 1)) (hv : v.category = 1) (kk : yyW d G k n Q ws lv (pc + 1) st) : yyW d G k n Q ws lv pc (v :: st) :=
  fun H locs ls hP hD hS h => lv_pop hC.1 hC.2.1 hdg hv (kk H locs ls hP hD hS h)
theorem y_iadd (hC : yyC d G cc own R nL ret) {x y : Int32} (hdg : decode cc pc = .ok (.iadd, 1)) (z : Int32) (hz : x + y = z) (kk : yyW d G k n Q ws lv (pc + 1) (.int z :: st)) : yyW d G k n Q ws lv pc (.int y :: .int x :: st) :=
  fun H locs ls hP hD hS h => lv_iadd hC.1 hC.2.1 hdg (hz ▸ kk H locs ls hP hD hS h)
theorem y_isub (hC : yyC d G cc own R nL ret) {x y : Int32} (hdg : decode cc pc = .ok (.isub, 1)) (z : Int32) (hz : x - y = z) (kk : yyW d G k n Q ws lv (pc + 1) (.int z :: st)) : yyW d G k n Q ws lv pc (.int y :: .int x :: st) :=
  fun H locs ls hP hD hS h => lv_isub hC.1 hC.2.1 hdg (hz ▸ kk H locs ls hP hD hS h)
theorem y_imul (hC : yyC d G cc own R nL ret) {x y : Int32} (hdg : decode cc pc = .ok (.imul, 1)) (z : Int32) (hz : x * y = z) (kk : yyW d G k n Q ws lv (pc + 1) (.int z :: st)) : yyW d G k n Q ws lv pc (.int y :: .int x :: st) :=
  fun H locs ls hP hD hS h => lv_imul hC.1 hC.2.1 hdg (hz ▸ kk H locs ls hP hD hS h)
theorem y_idiv (hC : yyC d G cc own R nL ret) {x y : Int32} (hdg : decode cc pc = .ok (.idiv, 1)) (z : Int32) (hz : x / y = z) (hne : ¬ y = 0) (kk : yyW d G k n Q ws lv (pc + 1) (.int z :: st)) : yyW d G k n Q ws lv pc (.int y :: .int x :: st) :=
  fun H locs ls hP hD hS h => lv_idiv hC.1 hC.2.1 hdg hne (hz ▸ kk H locs ls hP hD hS h)
theorem y_irem (hC : yyC d G cc own R nL ret) {x y : Int32} (hdg : decode cc pc = .ok (.irem, 1)) (z : Int32) (hz : x - x / y * y = z) (hne : ¬ y = 0) (kk : yyW d G k n Q ws lv (pc + 1) (.int z :: st)) : yyW d G k n Q ws lv pc (.int y :: .int x :: st) :=
  fun H locs ls hP hD hS h => lv_irem hC.1 hC.2.1 hdg hne (hz ▸ kk H locs ls hP hD hS h)
theorem y_iand (hC : yyC d G cc own R nL ret) {x y : Int32} (hdg : decode cc pc = .ok (.iand, 1)) (z : Int32) (hz : x &&& y = z) (kk : yyW d G k n Q ws lv (pc + 1) (.int z :: st)) : yyW d G k n Q ws lv pc (.int y :: .int x :: st) :=
  fun H locs ls hP hD hS h => lv_iand hC.1 hC.2.1 hdg (hz ▸ kk H locs ls hP hD hS h)
theorem y_ixor (hC : yyC d G cc own R nL ret) {x y : Int32} (hdg : decode cc pc = .ok (.ixor, 1)) (z : Int32) (hz : x ^^^ y = z) (kk : yyW d G k n Q ws lv (pc + 1) (.int z :: st)) : yyW d G k n Q ws lv pc (.int y :: .int x :: st) :=
  fun H locs ls hP hD hS h => lv_ixor hC.1 hC.2.1 hdg (hz ▸ kk H locs ls hP hD hS h)
theorem y_ladd (hC : yyC d G cc own R nL ret) {x y : Int64} (hdg : decode cc pc = .ok (.ladd, 1)) (kk : yyW d G k n Q ws lv (pc + 1) (.long (x + y) :: st)) : yyW d G k n Q ws lv pc (.long y :: .long x :: st) :=
  fun H locs ls hP hD hS h => lv_ladd hC.1 hC.2.1 hdg (kk H locs ls hP hD hS h)
theorem y_lmul (hC : yyC d G cc own R nL ret) {x y : Int64} (hdg : decode cc pc = .ok (.lmul, 1)) (kk : yyW d G k n Q ws lv (pc + 1) (.long (x * y) :: st)) : yyW d G k n Q ws lv pc (.long y :: .long x :: st) :=
  fun H locs ls hP hD hS h => lv_lmul hC.1 hC.2.1 hdg (kk H locs ls hP hD hS h)
theorem y_i2l (hC : yyC d G cc own R nL ret) {x : Int32} (hdg : decode cc pc = .ok (.i2l, 1)) (kk : yyW d G k n Q ws lv (pc + 1) (.long x.toInt64 :: st)) : yyW d G k n Q ws lv pc (.int x :: st) :=
  fun H locs ls hP hD hS h => lv_i2l hC.1 hC.2.1 hdg rfl (kk H locs ls hP hD hS h)
theorem y_goto (hC : yyC d G cc own R nL ret) {off : Int} (hdg : decode cc pc = .ok (.goto off, 3)) (tgt : Nat) (ht : (pc : Int) + off = (tgt : Int)) (kk : yyW d G k n Q ws lv tgt st) : yyW d G k n Q ws lv pc st :=
  fun H locs ls hP hD hS h => lv_goto hC.1 hC.2.1 hdg ht (kk H locs ls hP hD hS h)
theorem y_if_eq (hC : yyC d G cc own R nL ret) {x : Int32} {off : Int} (hdg : decode cc pc = .ok (.ifCond .eq off, 3)) (tgt : Nat) (ht : (pc : Int) + off = (tgt : Int)) (kt : x = 0 → yyW d G k n Q ws lv tgt st) (kf : ¬ x = 0 → yyW d G k n Q ws lv (pc + 3) st) : yyW d G k n Q ws lv pc (.int x :: st) :=
  fun H locs ls hP hD hS h => lv_if_eq hC.1 hC.2.1 hdg ht (fun c => kt c H locs ls hP hD hS h) (fun c => kf c H locs ls hP hD hS h)
theorem y_if_ne (hC : yyC d G cc own R nL ret) {x : Int32} {off : Int} (hdg : decode cc pc = .ok (.ifCond .ne off, 3)) (tgt : Nat) (ht : (pc : Int) + off = (tgt : Int)) (kt : ¬ x = 0 → yyW d G k n Q ws lv tgt st) (kf : x = 0 → yyW d G k n Q ws lv (pc + 3) st) : yyW d G k n Q ws lv pc (.int x :: st) :=
  fun H locs ls hP hD hS h => lv_if_ne hC.1 hC.2.1 hdg ht (fun c => kt c H locs ls hP hD hS h) (fun c => kf c H locs ls hP hD hS h)
theorem y_if_lt (hC : yyC d G cc own R nL ret) {x : Int32} {off : Int} (hdg : decode cc pc = .ok (.ifCond .lt off, 3)) (tgt : Nat) (ht : (pc : Int) + off = (tgt : Int)) (kt : x < 0 → yyW d G k n Q ws lv tgt st) (kf : ¬ x < 0 → yyW d G k n Q ws lv (pc + 3) st) : yyW d G k n Q ws lv pc (.int x :: st) :=
  fun H locs ls hP hD hS h => lv_if_lt hC.1 hC.2.1 hdg ht (fun c => kt c H locs ls hP hD hS h) (fun c => kf c H locs ls hP hD hS h)
theorem y_if_ge (hC : yyC d G cc own R nL ret) {x : Int32} {off : Int} (hdg : decode cc pc = .ok (.ifCond .ge off, 3)) (tgt : Nat) (ht : (pc : Int) + off = (tgt : Int)) (kt : 0 ≤ x → yyW d G k n Q ws lv tgt st) (kf : ¬ 0 ≤ x → yyW d G k n Q ws lv (pc + 3) st) : yyW d G k n Q ws lv pc (.int x :: st) :=
  fun H locs ls hP hD hS h => lv_if_ge hC.1 hC.2.1 hdg ht (fun c => kt c H locs ls hP hD hS h) (fun c => kf c H locs ls hP hD hS h)
theorem y_if_le (hC : yyC d G cc own R nL ret) {x : Int32} {off : Int} (hdg : decode cc pc = .ok (.ifCond .le off, 3)) (tgt : Nat) (ht : (pc : Int) + off = (tgt : Int)) (kt : x ≤ 0 → yyW d G k n Q ws lv tgt st) (kf : ¬ x ≤ 0 → yyW d G k n Q ws lv (pc + 3) st) : yyW d G k n Q ws lv pc (.int x :: st) :=
  fun H locs ls hP hD hS h => lv_if_le hC.1 hC.2.1 hdg ht (fun c => kt c H locs ls hP hD hS h) (fun c => kf c H locs ls hP hD hS h)
theorem y_cmp_eq (hC : yyC d G cc own R nL ret) {x y : Int32} {off : Int} (hdg : decode cc pc = .ok (.if_icmp .eq off, 3)) (tgt : Nat) (ht : (pc : Int) + off = (tgt : Int)) (kt : x = y → yyW d G k n Q ws lv tgt st) (kf : ¬ x = y → yyW d G k n Q ws lv (pc + 3) st) : yyW d G k n Q ws lv pc (.int y :: .int x :: st) :=
  fun H locs ls hP hD hS h => lv_icmp_eq hC.1 hC.2.1 hdg ht (fun c => kt c H locs ls hP hD hS h) (fun c => kf c H locs ls hP hD hS h)
theorem y_cmp_ne (hC : yyC d G cc own R nL ret) {x y : Int32} {off : Int} (hdg : decode cc pc = .ok (.if_icmp .ne off, 3)) (tgt : Nat) (ht : (pc : Int) + off = (tgt : Int)) (kt : ¬ x = y → yyW d G k n Q ws lv tgt st) (kf : x = y → yyW d G k n Q ws lv (pc + 3) st) : yyW d G k n Q ws lv pc (.int y :: .int x :: st) :=
  fun H locs ls hP hD hS h => lv_icmp_ne hC.1 hC.2.1 hdg ht (fun c => kt c H locs ls hP hD hS h) (fun c => kf c H locs ls hP hD hS h)
theorem y_cmp_lt (hC : yyC d G cc own R nL ret) {x y : Int32} {off : Int} (hdg : decode cc pc = .ok (.if_icmp .lt off, 3)) (tgt : Nat) (ht : (pc : Int) + off = (tgt : Int)) (kt : x < y → yyW d G k n Q ws lv tgt st) (kf : ¬ x < y → yyW d G k n Q ws lv (pc + 3) st) : yyW d G k n Q ws lv pc (.int y :: .int x :: st) :=
  fun H locs ls hP hD hS h => lv_icmp_lt hC.1 hC.2.1 hdg ht (fun c => kt c H locs ls hP hD hS h) (fun c => kf c H locs ls hP hD hS h)
theorem y_cmp_ge (hC : yyC d G cc own R nL ret) {x y : Int32} {off : Int} (hdg : decode cc pc = .ok (.if_icmp .ge off, 3)) (tgt : Nat) (ht : (pc : Int) + off = (tgt : Int)) (kt : y ≤ x → yyW d G k n Q ws lv tgt st) (kf : ¬ y ≤ x → yyW d G k n Q ws lv (pc + 3) st) : yyW d G k n Q ws lv pc (.int y :: .int x :: st) :=
  fun H locs ls hP hD hS h => lv_icmp_ge hC.1 hC.2.1 hdg ht (fun c => kt c H locs ls hP hD hS h) (fun c => kf c H locs ls hP hD hS h)
theorem y_cmp_gt (hC : yyC d G cc own R nL ret) {x y : Int32} {off : Int} (hdg : decode cc pc = .ok (.if_icmp .gt off, 3)) (tgt : Nat) (ht : (pc : Int) + off = (tgt : Int)) (kt : y < x → yyW d G k n Q ws lv tgt st) (kf : ¬ y < x → yyW d G k n Q ws lv (pc + 3) st) : yyW d G k n Q ws lv pc (.int y :: .int x :: st) :=
  fun H locs ls hP hD hS h => lv_icmp_gt hC.1 hC.2.1 hdg ht (fun c => kt c H locs ls hP hD hS h) (fun c => kf c H locs ls hP hD hS h)
theorem y_cmp_le (hC : yyC d G cc own R nL ret) {x y : Int32} {off : Int} (hdg : decode cc pc = .ok (.if_icmp .le off, 3)) (tgt : Nat) (ht : (pc : Int) + off = (tgt : Int)) (kt : x ≤ y → yyW d G k n Q ws lv tgt st) (kf : ¬ x ≤ y → yyW d G k n Q ws lv (pc + 3) st) : yyW d G k n Q ws lv pc (.int y :: .int x :: st) :=
  fun H locs ls hP hD hS h => lv_icmp_le hC.1 hC.2.1 hdg ht (fun c => kt c H locs ls hP hD hS h) (fun c => kf c H locs ls hP hD hS h)
/-- a loop's head: its counter against its bound -/
theorem y_ge_t (hC : yyC d G cc own R nL ret) {a b : Nat} {off : Int} (hdg : decode cc pc = .ok (.if_icmp .ge off, 3)) (tgt : Nat) (ht : (pc : Int) + off = (tgt : Int)) (h : b ≤ a) (ha : a < 2147483648) (kt : yyW d G k n Q ws lv tgt st) : yyW d G k n Q ws lv pc (.int (nI b) :: .int (nI a) :: st) :=
  y_cmp_ge hC hdg tgt ht (fun _ => kt) (fun c => absurd (nI_le h ha) c)
theorem y_ge_f (hC : yyC d G cc own R nL ret) {a b : Nat} {off : Int} (hdg : decode cc pc = .ok (.if_icmp .ge off, 3)) (tgt : Nat) (ht : (pc : Int) + off = (tgt : Int)) (h : a < b) (hb : b < 2147483648) (kf : yyW d G k n Q ws lv (pc + 3) st) : yyW d G k n Q ws lv pc (.int (nI b) :: .int (nI a) :: st) :=
  y_cmp_ge hC hdg tgt ht (fun c => absurd c (nI_ge h hb)) (fun _ => kf)
theorem y_gt_t (hC : yyC d G cc own R nL ret) {a b : Nat} {off : Int} (hdg : decode cc pc = .ok (.if_icmp .gt off, 3)) (tgt : Nat) (ht : (pc : Int) + off = (tgt : Int)) (h : b < a) (ha : a < 2147483648) (kt : yyW d G k n Q ws lv tgt st) : yyW d G k n Q ws lv pc (.int (nI b) :: .int (nI a) :: st) :=
  y_cmp_gt hC hdg tgt ht (fun _ => kt) (fun c => absurd (nI_lt h ha) c)
theorem y_gt_f (hC : yyC d G cc own R nL ret) {a b : Nat} {off : Int} (hdg : decode cc pc = .ok (.if_icmp .gt off, 3)) (tgt : Nat) (ht : (pc : Int) + off = (tgt : Int)) (h : a ≤ b) (hb : b < 2147483648) (kf : yyW d G k n Q ws lv (pc + 3) st) : yyW d G k n Q ws lv pc (.int (nI b) :: .int (nI a) :: st) :=
  y_cmp_gt hC hdg tgt ht (fun c => absurd c (nI_nlt h hb)) (fun _ => kf)
theorem y_tsw (hC : yyC d G cc own R nL ret) {df lo hi : Int} {offs : Array Int} {len : Nat} {x : Int32} {off : Int} (hdg : decode cc pc = .ok (.tableswitch df lo hi offs, len)) (tgt : Nat) (h1 : ¬ x.toInt < lo) (h2 : ¬ hi < x.toInt) (ho : offs[(x.toInt - lo).toNat]? = some off) (ht : (pc : Int) + off = (tgt : Int)) (kk : yyW d G k n Q ws lv tgt st) : yyW d G k n Q ws lv pc (.int x :: st) :=
  fun H locs ls hP hD hS h => lv_tableIn hC.1 hC.2.1 hdg h1 h2 ho ht (kk H locs ls hP hD hS h)
theorem y_tsd (hC : yyC d G cc own R nL ret) {df lo hi : Int} {offs : Array Int} {len : Nat} {x : Int32} (hdg : decode cc pc = .ok (.tableswitch df lo hi offs, len)) (tgt : Nat) (h1 : x.toInt < lo ∨ hi < x.toInt) (ht : (pc : Int) + df = (tgt : Int)) (kk : yyW d G k n Q ws lv tgt st) : yyW d G k n Q ws lv pc (.int x :: st) :=
  fun H locs ls hP hD hS h => lv_tableOut hC.1 hC.2.1 hdg h1 ht (kk H locs ls hP hD hS h)
-- fields and rows
theorem y_get (hC : yyC d G cc own R nL ret) (q : Nat) (f : Nat) {C ref : String} {T : u_T} {N ci i : Nat} {a : Nat} {fs : List Value} {v : Value} (hdg : decode cc pc = .ok (.getfield i, 3)) (hw : ws[q]? = some (a, .inr (ci, fs))) (hc : vwCl[ci]? = some (C, T, N)) (hin : ∀ w ∈ u_ws C T N, w ∈ WW) (hf : f < N) (hk : Cond.fieldLink own i ref (T f).2.1 (T f).2.2.1 ∈ WW) (hr : (T f).1 = ref) (hv : fs[f]? = some v) (kk : yyW d G k n Q ws lv (pc + 3) (v :: st)) : yyW d G k n Q ws lv pc (.ref a :: st) :=
  fun H locs ls hP hD hS h => va_get (T := T) (C := C) (N := N) (ref := ref) hC.1 hC.2.1 (fun w hw => hC.w hw) hin hC.2.2.2.1 hC.K hP q hw hc f hf (hC.w hk) (fun _ h9 => hr ▸ h9) hv hdg (kk H locs ls hP hD hS h)
theorem y_getN (hC : yyC d G cc own R nL ret) (q : Nat) (f : Nat) {C ref host : String} {T : u_T} {N ci i : Nat} {a : Nat} {fs : List Value} {v : Value} (hdg : decode cc pc = .ok (.getfield i, 3)) (hw : ws[q]? = some (a, .inr (ci, fs))) (hc : vwCl[ci]? = some (C, T, N)) (hin : ∀ w ∈ u_ws C T N, w ∈ WW) (hf : f < N) (hk : Cond.fieldLinkNest own i ref (T f).2.1 (T f).2.2.1 host ∈ NL) (hr : (T f).1 = ref) (hv : fs[f]? = some v) (kk : yyW d G k n Q ws lv (pc + 3) (v :: st)) : yyW d G k n Q ws lv pc (.ref a :: st) :=
  fun H locs ls hP hD hS h => va_getN (T := T) (C := C) (N := N) (ref := ref) hC.1 hC.2.1 (fun w hw => hC.w hw) hin hC.2.2.2.1 hC.K hP q hw hc f hf (hC.N hk) (fun _ h9 => hr ▸ h9) hv hdg (kk H locs ls hP hD hS h)
theorem y_put (hC : yyC d G cc own R nL ret) (q : Nat) (f : Nat) (ty : FieldType) {C ref : String} {T : u_T} {N ci i : Nat} {a : Nat} {fs : List Value} {v : Value} (hdg : decode cc pc = .ok (.putfield i, 3)) (ty0 : Nat → FieldType) (ws' : va_W) (hw : ws[q]? = some (a, .inr (ci, fs))) (hws : ws.set q (a, .inr (ci, fs.set f v)) = ws') (hc : vwCl[ci]? = some (C, T, N)) (hin : ∀ w ∈ u_ws C T N, w ∈ WW) (hty : ∀ k, k < N → parseFieldDescriptor (T k).2.2.1 = some (ty0 k)) (hnm : ∀ a, a < N → ∀ b, b < N → a ≠ b → (T a).2.1 ≠ (T b).2.1) (hf : f < N) (hk : Cond.fieldLink own i ref (T f).2.1 (T f).2.2.1 ∈ WW) (hr : (T f).1 = ref) (hfin : (T f).2.2.2 = false) (hd : parseFieldDescriptor (T f).2.2.1 = some ty) (hn : narrow ty v = v) (hfit : fits ty v = true) (hl : f < fs.length) (kk : yyW d G k n Q ws' lv (pc + 3) st) : yyW d G k n Q ws lv pc (v :: .ref a :: st) :=
  fun H locs ls hP hD hS h => va_put (T := T) (C := C) (N := N) (ref := ref) hC.1 hC.2.1 (fun w hw => hC.w hw) hin ty0 hty hnm hC.2.2.2.1 hC.K hP hD hS q hw hc f hf (hC.w hk) (fun _ h9 => hr ▸ h9) hfin hd hn hfit hl hdg (fun H1 locs1 a1 a2 a3 => kk H1 locs1 ls (hws ▸ a1) (hws ▸ a2) a3 h)
theorem y_putN (hC : yyC d G cc own R nL ret) (q : Nat) (f : Nat) (ty : FieldType) {C ref host : String} {T : u_T} {N ci i : Nat} {a : Nat} {fs : List Value} {v : Value} (hdg : decode cc pc = .ok (.putfield i, 3)) (ty0 : Nat → FieldType) (ws' : va_W) (hw : ws[q]? = some (a, .inr (ci, fs))) (hws : ws.set q (a, .inr (ci, fs.set f v)) = ws') (hc : vwCl[ci]? = some (C, T, N)) (hin : ∀ w ∈ u_ws C T N, w ∈ WW) (hty : ∀ k, k < N → parseFieldDescriptor (T k).2.2.1 = some (ty0 k)) (hnm : ∀ a, a < N → ∀ b, b < N → a ≠ b → (T a).2.1 ≠ (T b).2.1) (hf : f < N) (hk : Cond.fieldLinkNest own i ref (T f).2.1 (T f).2.2.1 host ∈ NL) (hr : (T f).1 = ref) (hfin : (T f).2.2.2 = false) (hd : parseFieldDescriptor (T f).2.2.1 = some ty) (hn : narrow ty v = v) (hfit : fits ty v = true) (hl : f < fs.length) (kk : yyW d G k n Q ws' lv (pc + 3) st) : yyW d G k n Q ws lv pc (v :: .ref a :: st) :=
  fun H locs ls hP hD hS h => va_putN (T := T) (C := C) (N := N) (ref := ref) hC.1 hC.2.1 (fun w hw => hC.w hw) hin ty0 hty hnm hC.2.2.2.1 hC.K hP hD hS q hw hc f hf (hC.N hk) (fun _ h9 => hr ▸ h9) hfin hd hn hfit hl hdg (fun H1 locs1 a1 a2 a3 => kk H1 locs1 ls (hws ▸ a1) (hws ▸ a2) a3 h)
theorem yy_lt {j n : Nat} (h1 : j < n) (h2 : Nat.blt n 1000000 = true) : j < 2 ^ 31 ∧ n < 2 ^ 31 := by
  have := Nat.blt_eq.mp h2
  omega
theorem y_iald (hC : yyC d G cc own R nL ret) (q : Nat) {a m j : Nat} {f : Nat → Int32} (hdg : decode cc pc = .ok (.iaload, 1)) (v : Int32) (hw : ws[q]? = some (a, aI d m f)) (hj : j < m) (hm : Nat.blt m 1000000 = true) (hv : f j = v) (kk : yyW d G k n Q ws lv (pc + 1) (.int v :: st)) : yyW d G k n Q ws lv pc (.int (nI j) :: .ref a :: st) := by
  intro H locs ls hP hD hS h
  refine va_iald hC.1 hC.2.1 hC.K hP q 0 hw rfl (vp_in_nI hj (yy_lt hj hm).2) hdg ?_
  rw [nI_clamp (yy_lt hj hm).1, hv]
  exact kk H locs ls hP hD hS h
theorem y_zald (hC : yyC d G cc own R nL ret) (q : Nat) {a m j : Nat} {f : Nat → Bool} (hdg : decode cc pc = .ok (.baload, 1)) (v : Int32) (hw : ws[q]? = some (a, aZ d m f)) (hj : j < m) (hm : Nat.blt m 1000000 = true) (hv : bI (f j) = v) (kk : yyW d G k n Q ws lv (pc + 1) (.int v :: st)) : yyW d G k n Q ws lv pc (.int (nI j) :: .ref a :: st) := by
  intro H locs ls hP hD hS h
  refine va_zald hC.1 hC.2.1 hC.K hP q 1 hw rfl (vp_in_nI hj (yy_lt hj hm).2) hdg ?_
  rw [nI_clamp (yy_lt hj hm).1, hv]
  exact kk H locs ls hP hD hS h
theorem y_lald (hC : yyC d G cc own R nL ret) (q : Nat) {a m j : Nat} {f : Nat → Int64} (hdg : decode cc pc = .ok (.laload, 1)) (v : Int64) (hw : ws[q]? = some (a, aJ d m f)) (hj : j < m) (hm : Nat.blt m 1000000 = true) (hv : f j = v) (kk : yyW d G k n Q ws lv (pc + 1) (.long v :: st)) : yyW d G k n Q ws lv pc (.int (nI j) :: .ref a :: st) := by
  intro H locs ls hP hD hS h
  refine va_lald hC.1 hC.2.1 hC.K hP q 2 hw rfl (vp_in_nI hj (yy_lt hj hm).2) hdg ?_
  rw [nI_clamp (yy_lt hj hm).1, hv]
  exact kk H locs ls hP hD hS h
theorem y_iast (hC : yyC d G cc own R nL ret) (q : Nat) {a m j : Nat} {f : Nat → Int32} {x : Int32} (hdg : decode cc pc = .ok (.iastore, 1)) (g : Nat → Int32) (ws' : va_W) (hw : ws[q]? = some (a, aI d m f)) (hj : j < m) (hm : Nat.blt m 1000000 = true) (hg : upd f j x = g) (hws : ws.set q (a, aI d m g) = ws') (kk : yyW d G k n Q ws' lv (pc + 1) st) : yyW d G k n Q ws lv pc (.int x :: .int (nI j) :: .ref a :: st) := by
  intro H locs ls hP hD hS h
  subst hg; subst hws
  refine va_iast hC.1 hC.2.1 hC.K hP hD hS q 0 hw rfl (vp_in_nI hj (yy_lt hj hm).2) hdg ?_
  rw [nI_clamp (yy_lt hj hm).1]
  exact fun H1 locs1 a1 a2 a3 => kk H1 locs1 ls a1 a2 a3 h
def updB (f : Nat → Bool) (j : Nat) (b : Bool) : Nat → Bool := fun k => if k = j then b else f k
theorem bI_upd (f : Nat → Bool) (j : Nat) (b : Bool) : upd (fun k => bI (f k)) j (vp_nar .boolean (bI b)) = fun k => bI (updB f j b k) := by
  funext k
  have e : vp_nar .boolean (bI b) = bI b := by cases b <;> rfl
  rw [e]
  unfold upd updB
  by_cases h : k = j
  · rw [if_pos h, if_pos h]
  · rw [if_neg h, if_neg h]
theorem y_zast (hC : yyC d G cc own R nL ret) (q : Nat) {a m j : Nat} {f : Nat → Bool} (hdg : decode cc pc = .ok (.bastore, 1)) (b : Bool) (g : Nat → Bool) (ws' : va_W) (hw : ws[q]? = some (a, aZ d m f)) (hj : j < m) (hm : Nat.blt m 1000000 = true) (hg : updB f j b = g) (hws : ws.set q (a, aZ d m g) = ws') (kk : yyW d G k n Q ws' lv (pc + 1) st) : yyW d G k n Q ws lv pc (.int (bI b) :: .int (nI j) :: .ref a :: st) := by
  intro H locs ls hP hD hS h
  subst hg; subst hws
  refine va_zast hC.1 hC.2.1 hC.K hP hD hS q 1 hw rfl (vp_in_nI hj (yy_lt hj hm).2) hdg ?_
  rw [nI_clamp (yy_lt hj hm).1, bI_upd]
  exact fun H1 locs1 a1 a2 a3 => kk H1 locs1 ls a1 a2 a3 h
theorem y_last (hC : yyC d G cc own R nL ret) (q : Nat) {a m j : Nat} {f : Nat → Int64} {x : Int64} (hdg : decode cc pc = .ok (.lastore, 1)) (ws' : va_W) (hw : ws[q]? = some (a, aJ d m f)) (hj : j < m) (hm : Nat.blt m 1000000 = true) (hws : ws.set q (a, aJ d m (vp_updL f j x)) = ws') (kk : yyW d G k n Q ws' lv (pc + 1) st) : yyW d G k n Q ws lv pc (.long x :: .int (nI j) :: .ref a :: st) := by
  intro H locs ls hP hD hS h
  subst hws
  refine va_last hC.1 hC.2.1 hC.K hP hD hS q 2 hw rfl (vp_in_nI hj (yy_lt hj hm).2) hdg ?_
  rw [nI_clamp (yy_lt hj hm).1]
  exact fun H1 locs1 a1 a2 a3 => kk H1 locs1 ls a1 a2 a3 h
theorem y_alen (hC : yyC d G cc own R nL ret) (q : Nat) {a m : Nat} {f : Nat → Int32} (hdg : decode cc pc = .ok (.arraylength, 1)) (hw : ws[q]? = some (a, aI d m f)) (kk : yyW d G k n Q ws lv (pc + 1) (.int (nI m) :: st)) : yyW d G k n Q ws lv pc (.ref a :: st) :=
  fun H locs ls hP hD hS h => va_alen hC.1 hC.2.1 hC.K hP q 0 hw (ty := .int) rfl rfl hdg (kk H locs ls hP hD hS h)
-- the JDK's small ones
theorem y_min (hC : yyC d G cc own R nL ret) {i : Nat} {x y : Int32} (hdg : decode cc pc = .ok (.invokestatic i, 3)) (hk : Cond.methodLink own i Lib.Math.min.name ∈ WW) (h0 : Cond.static Lib.Math.min.name ∈ WW) (h1 : Cond.initialized "java/lang/Math" ∈ WW) (h2 : Cond.code Lib.Math.min.name Lib.Math.min.code 2 (some .int) ∈ WW) (hR : 1 ≤ R.frames ∧ (st.map fun v => v.category).sum + 13 ≤ R.locals ∧ k ≤ R.cells ∧ n ≤ R.slots) (kk : yyW d G k n Q ws lv (pc + 3) (.int (mn x y) :: st)) : yyW d G k n Q ws lv pc (.int y :: .int x :: st) :=
  fun H locs ls hP hD hS h => va_mmin hC.1 hC.2.1 (by rw [hC.2.2.1, h.1, hC.n]) hC.2.2.2.1 (hC.w hk) (hC.w h0) (hC.w h1) (hC.w h2) (by rw [hC.rm]; exact hR.1) (by rw [hC.rm]; exact hR.2.1) (by rw [hC.rm]; exact hR.2.2.1) (by rw [hC.rm]; exact hR.2.2.2) hdg (kk H locs ls hP hD hS h)
theorem y_max (hC : yyC d G cc own R nL ret) {i : Nat} {x y : Int32} (hdg : decode cc pc = .ok (.invokestatic i, 3)) (hk : Cond.methodLink own i Lib.Math.max.name ∈ WW) (h0 : Cond.static Lib.Math.max.name ∈ WW) (h1 : Cond.initialized "java/lang/Math" ∈ WW) (h2 : Cond.code Lib.Math.max.name Lib.Math.max.code 2 (some .int) ∈ WW) (hR : 1 ≤ R.frames ∧ (st.map fun v => v.category).sum + 13 ≤ R.locals ∧ k ≤ R.cells ∧ n ≤ R.slots) (kk : yyW d G k n Q ws lv (pc + 3) (.int (mx x y) :: st)) : yyW d G k n Q ws lv pc (.int y :: .int x :: st) :=
  fun H locs ls hP hD hS h => va_mmax hC.1 hC.2.1 (by rw [hC.2.2.1, h.1, hC.n]) hC.2.2.2.1 (hC.w hk) (hC.w h0) (hC.w h1) (hC.w h2) (by rw [hC.rm]; exact hR.1) (by rw [hC.rm]; exact hR.2.1) (by rw [hC.rm]; exact hR.2.2.1) (by rw [hC.rm]; exact hR.2.2.2) hdg (kk H locs ls hP hD hS h)
theorem y_abs (hC : yyC d G cc own R nL ret) {i : Nat} {x : Int32} (hdg : decode cc pc = .ok (.invokestatic i, 3)) (hk : Cond.methodLink own i Lib.Math.abs.name ∈ WW) (h0 : Cond.static Lib.Math.abs.name ∈ WW) (h1 : Cond.initialized "java/lang/Math" ∈ WW) (h2 : Cond.code Lib.Math.abs.name Lib.Math.abs.code 1 (some .int) ∈ WW) (hR : 1 ≤ R.frames ∧ (st.map fun v => v.category).sum + 13 ≤ R.locals ∧ k ≤ R.cells ∧ n ≤ R.slots) (kk : yyW d G k n Q ws lv (pc + 3) (.int (ab x) :: st)) : yyW d G k n Q ws lv pc (.int x :: st) :=
  fun H locs ls hP hD hS h => va_mabs hC.1 hC.2.1 (by rw [hC.2.2.1, h.1, hC.n]) hC.2.2.2.1 (hC.w hk) (hC.w h0) (hC.w h1) (hC.w h2) (by rw [hC.rm]; exact hR.1) (by rw [hC.rm]; exact hR.2.1) (by rw [hC.rm]; exact hR.2.2.1) (by rw [hC.rm]; exact hR.2.2.2) hdg (kk H locs ls hP hD hS h)
-- moves of a goal
theorem y_ws (ws' : va_W) (h : ws = ws') (kk : yyW d G k n Q ws' lv pc st) : yyW d G k n Q ws lv pc st := h ▸ kk
theorem y_lv (lv' : List (Nat × Value)) (is : List Nat) (h : lv_pick lv is = lv') (kk : yyW d G k n Q ws lv' pc st) : yyW d G k n Q ws lv pc st :=
  fun H locs ls hP hD hS hl => kk H locs ls hP hD hS (lv_sub hl is h)
theorem y_drop (ws' : va_W) (is : List Nat) (hn : va_nd is = true) (h : is.filterMap (fun i => ws[i]?) = ws') (h2 : is.map (fun i => ws[i]?) = ws'.map some) (kk : yyW d G k n Q ws' lv pc st) : yyW d G k n Q ws lv pc st :=
  fun H locs ls hP hD hS hl => kk H locs ls (hP.sub is h) (hD.sub is hn h2) hS hl
theorem y_wide (k' n' : Nat) (hk : k ≤ k') (hn : n ≤ n') (kk : yyW d G k' n' Q ws lv pc st) : yyW d G k n Q ws lv pc st :=
  fun H locs ls hP hD hS hl => W.widen hk hn (kk H locs ls hP hD hS hl)
end YB
end
section
-- CONTRACTS over the layer: cells before, cells behind, the answer; entry, end and call of each form
theorem fm_of {α β : Type} {f : α → Option β} {l : List α} {r : List β} (h : l.map f = r.map some) : l.filterMap f = r := by
  induction l generalizing r with
  | nil => cases r with
    | nil => rfl
    | cons a b => simp at h
  | cons a l ih => cases r with
    | nil => simp at h
    | cons b r =>
      simp only [List.map_cons, List.cons.injEq] at h
      rw [List.filterMap_cons, h.1, ih h.2]
def yyPre (d : yyD) (av : List Value) (w0 : va_W) (sz : Nat) : Array Value → State → Prop := va_Pc av (fun U => U.heap.size = sz ∧ va_P d.1 vwCl w0 U.heap ∧ yyK d U ∧ va_D (fun _ => True) w0)
def yyB (d : yyD) (A : Nat → Prop) (w1 : va_W) (t : State) : Prop := va_P d.1 vwCl w1 t.heap ∧ va_D A w1
theorem yyPre.blind (d : yyD) (av : List Value) (w0 : va_W) (sz : Nat) : FrameBlind (yyPre d av w0 sz) := by
  intro a U g mk q
  obtain ⟨q0, q1, qP, qK, qD⟩ := q
  exact ⟨q0, q1, qP, qK.same rfl, qD⟩
def yyI (l : Launch) (y : MethodName) (cc : ByteArray) (mL : Nat) (ret : Option FieldType) (rm : Room) (d : yyD) (av : List Value) (w0 w1 : va_W) (rv : Int32) : Prop :=
  ∀ sz : Nat, Met l y (Cond.code y cc mL ret :: WW) rm (yyPre d av w0 sz) (va_Qi (fun r (_ : Unit) => r = rv) (fun _ => yyB d (va_A w0 sz) w1) (va_A w0 sz)) rm.cells rm.slots (va_A w0 sz)
def yyL (l : Launch) (y : MethodName) (cc : ByteArray) (mL : Nat) (ret : Option FieldType) (rm : Room) (d : yyD) (av : List Value) (w0 w1 : va_W) (rv : Int64) : Prop :=
  ∀ sz : Nat, Met l y (Cond.code y cc mL ret :: WW) rm (yyPre d av w0 sz) (va_Ql (fun r (_ : Unit) => r = rv) (fun _ => yyB d (va_A w0 sz) w1) (va_A w0 sz)) rm.cells rm.slots (va_A w0 sz)
def yyV {S : Type} (l : Launch) (y : MethodName) (cc : ByteArray) (mL : Nat) (rm : Room) (d : yyD) (av : List Value) (w0 : va_W) (P : S → Prop) (w1 : S → va_W) : Prop :=
  ∀ sz : Nat, Met l y (Cond.code y cc mL none :: WW) rm (yyPre d av w0 sz) (va_Qv P (fun u => yyB d (va_A w0 sz) (w1 u)) (va_A w0 sz)) rm.cells rm.slots (va_A w0 sz)
def yyQI (d : yyD) (G : yyG) (R : Room) (w1 : va_W) (rv : Int32) : State → Prop := MQ (gB G) (va_Qi (fun r (_ : Unit) => r = rv) (fun _ => yyB d (gA G) w1) (gA G)) (gV G) (gS G) R.cells R.slots (gA G)
def yyQL (d : yyD) (G : yyG) (R : Room) (w1 : va_W) (rv : Int64) : State → Prop := MQ (gB G) (va_Ql (fun r (_ : Unit) => r = rv) (fun _ => yyB d (gA G) w1) (gA G)) (gV G) (gS G) R.cells R.slots (gA G)
def yyQV {S : Type} (d : yyD) (G : yyG) (R : Room) (P : S → Prop) (w1 : S → va_W) : State → Prop := MQ (gB G) (va_Qv P (fun u => yyB d (gA G) (w1 u)) (gA G)) (gV G) (gS G) R.cells R.slots (gA G)
/-- Met.ofW for a name of the JDK, too, if no row of the natives bears it -/
theorem yy_ofWF {l : Launch} {y : MethodName} {ws ws' : List Cond} {rm : Room} {Pc : Array Value → State → Prop} {Qc : Array Value → State → Outcome → State → Prop} {mc ms : Nat} {free : Addr → Prop} {cc : ByteArray} {maxL : Nat} {ret : Option FieldType}
    (hy : plainFor y = true) (hw : ws = Cond.code y cc maxL ret :: ws')
    (body : ∀ p e s m args below meth c s₁, BodyLoose p l y (headSpec ws rm) cc maxL ret e s m args below meth c s₁ → c.maxLocals = maxL → Pc args s →
      W p l e (headSpec ws rm).room s m args below meth c s.heap [] 0 0 (MQ below Qc args s mc ms free) (entryFrame m args maxL)) : Met l y ws rm Pc Qc mc ms free := by
  refine MetFree.of_bodySF (code := cc) (maxLocals := maxL) (ret := ret) hy ?_ ?_
  · intro args s m h hn
    obtain ⟨meth, c, h1, h2, h3, h4, h5, h6, -, -⟩ := Cond.code_spec hn (atoms_spec (ws := ws) h _ (by rw [hw]; exact List.mem_cons_self))
    exact ⟨meth, c, h1, h2, h3, h4, h5, h6⟩
  · intro p e s m args below meth c s₁ B hml hP _
    have hh0 : s₁.heap = s.heap := by rw [B.state]; rfl
    obtain ⟨t, a1, o, b1, b2, b3⟩ := body p e s m args below meth c s₁ B hml hP s₁ hh0 (Stand.of_body B)
    exact ⟨t, o, a1, b1, b2, ⟨b3.1, b3.2⟩⟩
section YD
variable {l : Launch} {y : MethodName} {cc : ByteArray} {mL : Nat} {ret : Option FieldType} {rm : Room} {d : yyD} {av : List Value} {w0 : va_W} {own : String}
theorem yyI_of {w1 : va_W} {rv : Int32} (lv0 : List (Nat × Value)) (hy : plainFor y = true) (ho : y.cls = own) (hl : (lg_sl av).length ≤ mL) (hlv : lv_args 0 av = lv0)
    (body : ∀ (G : yyG) (Q : State → Prop), Q = yyQI d G rm w1 rv → gL G = l → yyC d G cc own rm mL ret → (gA G = va_A w0 (gS G).heap.size) → yyW d G 0 0 Q w0 lv0 0 []) : yyI l y cc mL ret rm d av w0 w1 rv := by
  intro sz
  refine yy_ofWF (cc := cc) (maxL := mL) (ret := ret) hy rfl ?_
  intro p e s m args below meth c s₁ B hml hv
  obtain ⟨rfl, hsz, hP, hK, hD0⟩ := hv
  subst hsz
  have hts := atoms_spec (ws := Cond.code y cc mL ret :: WW) B.pre
  have hown : s.vm.findClass own = some m.cls := ho ▸ findClass_of_methodNamed B.named
  rw [lg_entry_eq]
  exact body (p, l, e, rm, s, m, av.toArray, below, meth, c, va_A w0 s.heap.size, mL) _ rfl rfl ⟨B.exec, B.bytes, hml, hown, fun w h => hts w (List.mem_cons_of_mem _ h), hK, B.notSynchronized, fun q h => Or.inr h, rfl, rfl, B.returns⟩ rfl s.heap [] _ hP hD0.self va_S.rf (hlv ▸ lv_entry av hl)
theorem yyL_of {w1 : va_W} {rv : Int64} (lv0 : List (Nat × Value)) (hy : plainFor y = true) (ho : y.cls = own) (hl : (lg_sl av).length ≤ mL) (hlv : lv_args 0 av = lv0)
    (body : ∀ (G : yyG) (Q : State → Prop), Q = yyQL d G rm w1 rv → gL G = l → yyC d G cc own rm mL ret → (gA G = va_A w0 (gS G).heap.size) → yyW d G 0 0 Q w0 lv0 0 []) : yyL l y cc mL ret rm d av w0 w1 rv := by
  intro sz
  refine yy_ofWF (cc := cc) (maxL := mL) (ret := ret) hy rfl ?_
  intro p e s m args below meth c s₁ B hml hv
  obtain ⟨rfl, hsz, hP, hK, hD0⟩ := hv
  subst hsz
  have hts := atoms_spec (ws := Cond.code y cc mL ret :: WW) B.pre
  have hown : s.vm.findClass own = some m.cls := ho ▸ findClass_of_methodNamed B.named
  rw [lg_entry_eq]
  exact body (p, l, e, rm, s, m, av.toArray, below, meth, c, va_A w0 s.heap.size, mL) _ rfl rfl ⟨B.exec, B.bytes, hml, hown, fun w h => hts w (List.mem_cons_of_mem _ h), hK, B.notSynchronized, fun q h => Or.inr h, rfl, rfl, B.returns⟩ rfl s.heap [] _ hP hD0.self va_S.rf (hlv ▸ lv_entry av hl)
theorem yyV_of {S : Type} {P : S → Prop} {w1 : S → va_W} (lv0 : List (Nat × Value)) (hy : plainFor y = true) (ho : y.cls = own) (hl : (lg_sl av).length ≤ mL) (hlv : lv_args 0 av = lv0)
    (body : ∀ (G : yyG) (Q : State → Prop), Q = yyQV d G rm P w1 → gL G = l → yyC d G cc own rm mL none → (gA G = va_A w0 (gS G).heap.size) → ((gT G).name = y.name) → yyW d G 0 0 Q w0 lv0 0 []) : yyV l y cc mL rm d av w0 P w1 := by
  intro sz
  refine yy_ofWF (cc := cc) (maxL := mL) (ret := none) hy rfl ?_
  intro p e s m args below meth c s₁ B hml hv
  obtain ⟨rfl, hsz, hP, hK, hD0⟩ := hv
  subst hsz
  have hts := atoms_spec (ws := Cond.code y cc mL none :: WW) B.pre
  have hown : s.vm.findClass own = some m.cls := ho ▸ findClass_of_methodNamed B.named
  have hin : meth.name = y.name := (name_of_methodNamed B.named B.method).1
  rw [lg_entry_eq]
  exact body (p, l, e, rm, s, m, av.toArray, below, meth, c, va_A w0 s.heap.size, mL) _ rfl rfl ⟨B.exec, B.bytes, hml, hown, fun w h => hts w (List.mem_cons_of_mem _ h), hK, B.notSynchronized, fun q h => Or.inr h, rfl, rfl, B.returns⟩ rfl hin s.heap [] _ hP hD0.self va_S.rf (hlv ▸ lv_entry av hl)
end YD
theorem gww {y : MethodName} {cc : ByteArray} {mL : Nat} {ret : Option FieldType} (hk : Cond.code y cc mL ret ∈ WW) : GoodIn WW (Cond.code y cc mL ret :: WW) := by
  intro w hw
  have h : w ∈ WW := by
    rcases List.mem_cons.mp hw with h | h
    · rw [h]; exact hk
    · exact h
  exact ⟨h, good_of_word (List.mem_filter.mp h).2⟩
theorem gwV {own : String} {i : Nat} {C : String} {y : MethodName} {ws : List Cond} (kl : Cond.methodLink own i y ∈ WW) (ki : Cond.instanceMethod y ∈ WW) (ks : Cond.selects C y y ∈ WW) (kn : Cond.initialized C ∈ WW) (h : GoodIn WW ws) : GoodIn WW (wsV own i C y ws) := by
  intro w hw
  have g : ∀ w ∈ WW, w ∈ WW ∧ ((w.onTables && w.keeps) = true ∨ ∃ ty, w = .arrayClass ty) := fun w h => ⟨h, good_of_word (List.mem_filter.mp h).2⟩
  rcases List.mem_append.mp hw with h1 | h1
  · simp only [List.mem_cons, List.not_mem_nil, or_false] at h1
    rcases h1 with h1 | h1 | h1 | h1 <;> rw [h1] <;> apply g <;> assumption
  · exact h w h1
theorem gwS {own : String} {i : Nat} {y : MethodName} {ws : List Cond} (kl : Cond.methodLink own i y ∈ WW) (ki : Cond.static y ∈ WW) (kn : Cond.initialized y.cls ∈ WW) (h : GoodIn WW ws) : GoodIn WW (va_wsS own i y ws) := by
  intro w hw
  have g : ∀ w ∈ WW, w ∈ WW ∧ ((w.onTables && w.keeps) = true ∨ ∃ ty, w = .arrayClass ty) := fun w h => ⟨h, good_of_word (List.mem_filter.mp h).2⟩
  rcases List.mem_append.mp hw with h1 | h1
  · simp only [List.mem_cons, List.not_mem_nil, or_false] at h1
    rcases h1 with h1 | h1 | h1 <;> rw [h1] <;> apply g <;> assumption
  · exact h w h1
/-- a world cut in two: the callee's cells by places, the rest by places -/
abbrev yyCut (ws wc wr : va_W) (is rs : List Nat) : Prop := is.map (fun i => ws[i]?) = wc.map some ∧ va_nd is = true ∧ rs.map (fun i => ws[i]?) = wr.map some ∧ va_nd rs = true ∧ ∀ i ∈ rs, i ∉ is
/-- and put together again -/
abbrev yyPut (wr w1 ws' : va_W) (pm : List Nat) : Prop := pm.map (fun i => (wr ++ w1)[i]?) = ws'.map some ∧ va_nd pm = true
section YE
variable {d : yyD} {G : yyG} {cc : ByteArray} {own : String} {R : Room} {nL : Nat} {ret : Option FieldType} {k n : Nat} {Q : State → Prop} {ws : va_W} {lv : List (Nat × Value)} {pc : Nat} {st st0 : List Value} {H : Heap} {locs : List Loc} {ls : Array Slot} {wc wr : va_W} {is rs : List Nat} {mc ms : Nat} {a : Array Value}
theorem yyC.kw (hC : yyC d G cc own R nL ret) : yyK d (gS G) := hC.2.2.2.2.2.1
theorem yy_pre (hC : yyC d G cc own R nL ret) (hcut : yyCut ws wc wr is rs) (hP : va_P d.1 vwCl ws H) (hD : va_D (gA G) ws) (As : List Value) : PreS (gS G) H (yyPre d As wc H.size) As :=
  ⟨yyPre.blind _ _ _ _, fun U hU hW => ⟨rfl, by rw [hU], by rw [hU]; exact hP.sub is (fm_of hcut.1), hC.kw.warm hW, (hD.sub is hcut.2.1 hcut.1).weaken (fun _ _ _ _ => trivial)⟩⟩
theorem yy_preV (hC : yyC d G cc own R nL ret) (hcut : yyCut ws wc wr is rs) (hP : va_P d.1 vwCl ws H) (hD : va_D (gA G) ws) {b : Nat} (As : List Value) {C : String} {T : u_T} {N ci : Nat} {fs : List Value} (q0 : Nat) (hq : wc[q0]? = some (b, .inr (ci, fs))) (hc : vwCl[ci]? = some (C, T, N)) : PreV (gS G) H C b (yyPre d (.ref b :: As) wc H.size) As :=
  ⟨yyPre.blind _ _ _ _, va_recv (q := (C, T, N)) hC.K (hP.sub is (fm_of hcut.1)) hc hq, (yy_pre hC hcut hP hD (.ref b :: As)).2⟩
theorem yy_afterI {w1 ws' : va_W} {rv : Int32} {pm : List Nat} (hC : yyC d G cc own R nL ret) (hP : va_P d.1 vwCl ws H) (hD : va_D (gA G) ws) (hS : va_S (gA G) (gS G).heap H locs) (hl : lv_has ls (gN G) lv) (hcut : yyCut ws wc wr is rs) (hput : yyPut wr w1 ws' pm)
    (hr : va_Run (gP G) (gL G) (gE G) (gR G) (gS G) (gM G) (gV G) (gB G) (gT G) (gC G) H locs k n mc ms (F0 (gM G) pc ls st0) st (va_Qi (fun r (_ : Unit) => r = rv) (fun _ => yyB d (va_A wc H.size) w1) (va_A wc H.size) a) (va_A wc H.size))
    (kk : yyW d G (k + mc) (n + ms) Q ws' lv (pc + 3) (.int rv :: st)) : W (gP G) (gL G) (gE G) (gR G) (gS G) (gM G) (gV G) (gB G) (gT G) (gC G) H locs k n Q (F0 (gM G) pc ls st0) := by
  have hFc := va_free (wc := wc) hD hS hC.A is hcut.1
  refine va_calli hr hS (fun q _ h => hFc q h) hFc (fun r u t H1 locs1 ht hvm hw hB hz1 hk1 hS1 => ?_)
  obtain ⟨hP1, hD1⟩ := hB
  rw [ht] at hP1
  obtain ⟨hP2, hD2⟩ := va_join (wr := wr) (w1 := w1) hP hD is rs hcut.1 hcut.2.2.1 hcut.2.2.2.1 hcut.2.2.2.2 hk1 hFc hP1 hD1
  have hw' : r = rv := hw
  rw [hw']
  exact kk H1 locs1 ls (hP2.sub pm (fm_of hput.1)) (hD2.sub pm hput.2 hput.1) hS1 hl
theorem yy_afterL {w1 ws' : va_W} {rv : Int64} {pm : List Nat} (hC : yyC d G cc own R nL ret) (hP : va_P d.1 vwCl ws H) (hD : va_D (gA G) ws) (hS : va_S (gA G) (gS G).heap H locs) (hl : lv_has ls (gN G) lv) (hcut : yyCut ws wc wr is rs) (hput : yyPut wr w1 ws' pm)
    (hr : va_Run (gP G) (gL G) (gE G) (gR G) (gS G) (gM G) (gV G) (gB G) (gT G) (gC G) H locs k n mc ms (F0 (gM G) pc ls st0) st (va_Ql (fun r (_ : Unit) => r = rv) (fun _ => yyB d (va_A wc H.size) w1) (va_A wc H.size) a) (va_A wc H.size))
    (kk : yyW d G (k + mc) (n + ms) Q ws' lv (pc + 3) (.long rv :: st)) : W (gP G) (gL G) (gE G) (gR G) (gS G) (gM G) (gV G) (gB G) (gT G) (gC G) H locs k n Q (F0 (gM G) pc ls st0) := by
  have hFc := va_free (wc := wc) hD hS hC.A is hcut.1
  refine va_calll hr hS (fun q _ h => hFc q h) hFc (fun r u t H1 locs1 ht hvm hw hB hz1 hk1 hS1 => ?_)
  obtain ⟨hP1, hD1⟩ := hB
  rw [ht] at hP1
  obtain ⟨hP2, hD2⟩ := va_join (wr := wr) (w1 := w1) hP hD is rs hcut.1 hcut.2.2.1 hcut.2.2.2.1 hcut.2.2.2.2 hk1 hFc hP1 hD1
  have hw' : r = rv := hw
  rw [hw']
  exact kk H1 locs1 ls (hP2.sub pm (fm_of hput.1)) (hD2.sub pm hput.2 hput.1) hS1 hl
theorem yy_afterV {S : Type} {P : S → Prop} {w1 ws' : S → va_W} {pm : List Nat} (hC : yyC d G cc own R nL ret) (hP : va_P d.1 vwCl ws H) (hD : va_D (gA G) ws) (hS : va_S (gA G) (gS G).heap H locs) (hl : lv_has ls (gN G) lv) (hcut : yyCut ws wc wr is rs) (hput : ∀ u, yyPut wr (w1 u) (ws' u) pm)
    (hr : va_Run (gP G) (gL G) (gE G) (gR G) (gS G) (gM G) (gV G) (gB G) (gT G) (gC G) H locs k n mc ms (F0 (gM G) pc ls st0) st (va_Qv P (fun u => yyB d (va_A wc H.size) (w1 u)) (va_A wc H.size) a) (va_A wc H.size))
    (kk : ∀ u, P u → yyW d G (k + mc) (n + ms) Q (ws' u) lv (pc + 3) st) : W (gP G) (gL G) (gE G) (gR G) (gS G) (gM G) (gV G) (gB G) (gT G) (gC G) H locs k n Q (F0 (gM G) pc ls st0) := by
  have hFc := va_free (wc := wc) hD hS hC.A is hcut.1
  refine va_callv hr hS (fun q _ h => hFc q h) hFc (fun u t H1 locs1 ht hvm hw hB hz1 hk1 hS1 => ?_)
  obtain ⟨hP1, hD1⟩ := hB
  rw [ht] at hP1
  obtain ⟨hP2, hD2⟩ := va_join (wr := wr) (w1 := w1 u) hP hD is rs hcut.1 hcut.2.2.1 hcut.2.2.2.1 hcut.2.2.2.2 hk1 hFc hP1 hD1
  exact kk u hw H1 locs1 ls (hP2.sub pm (fm_of (hput u).1)) (hD2.sub pm (hput u).2 (hput u).1) hS1 hl
end YE
section YF
variable {d : yyD} {G : yyG} {cc : ByteArray} {own : String} {R : Room} {nL : Nat} {ret : Option FieldType} {k n : Nat} {Q : State → Prop} {ws : va_W} {lv : List (Nat × Value)} {pc : Nat} {st st0 : List Value} {wc wr : va_W} {is rs : List Nat}
variable {y : MethodName} {cy : ByteArray} {mL : Nat} {rt : Option FieldType} {rm : Room} {b : Nat} {As : List Value} {i : Nat} {C host : String}
/-- what a callee's name says: its class, its number of arguments -/
abbrev yyN (y : MethodName) (C : String) (n : Nat) : Prop := y.cls = C ∧ y.cls ≠ "java/lang/invoke/MethodHandle" ∧ y.cls ≠ "java/lang/invoke/VarHandle" ∧ (parseMethodDescriptor y.desc).map (fun d => d.parameters.length) = some n
/-- the room of a callee in its caller's -/
abbrev yyR (rm R : Room) (mL k n : Nat) (st : List Value) : Prop := (rm.frames + 1 ≤ R.frames ∧ 8 + (mL + 11) + rm.locals ≤ R.locals) ∧ (k + rm.cells ≤ R.cells ∧ n + rm.slots ≤ R.slots) ∧ (st.map fun v => v.category).sum ≤ 8
theorem y_cI {w1 : va_W} {rv : Int32} (hC : yyC d G cc own R nL ret) (hM : yyI (gL G) y cy mL rt rm d (.ref b :: As) wc w1 rv) (kc : Cond.code y cy mL rt ∈ WW) (kl : Cond.methodLink own i y ∈ WW) (ki : Cond.instanceMethod y ∈ WW) (ks : Cond.selects C y y ∈ WW) (kn : Cond.initialized C ∈ WW)
    (hy : yyN y C As.length) (hR : yyR rm R mL k n st) (is rs pm : List Nat) (q0 : Nat) {ci N : Nat} {fs : List Value} {T : u_T} (wr ws' : va_W) (hq : wc[q0]? = some (b, .inr (ci, fs))) (hc : vwCl[ci]? = some (C, T, N)) (hcut : yyCut ws wc wr is rs) (hput : yyPut wr w1 ws' pm) (hs0 : st0 = As.reverse ++ .ref b :: st)
    (hdg : decode cc pc = .ok (.invokevirtual i, 3)) (kk : yyW d G (k + rm.cells) (n + rm.slots) Q ws' lv (pc + 3) (.int rv :: st)) : yyW d G k n Q ws lv pc st0 := by
  intro H locs ls hP hD hS hl
  subst hs0
  have hRR := hC.rm
  subst hRR
  refine yy_afterI hC hP hD hS hl hcut hput (va_runV (As := As) (rest := st) ⟨hC.1, hC.2.1, hC.2.2.1, hC.2.2.2.1, hC.2.2.2.2.1⟩ (hM H.size) (cwV As.length hC.2.2.2.2.1 (gwV kl ki ks kn (gww kc)) rfl rfl rfl hy hR.1) (yy_preV hC hcut hP hD As q0 hq hc) rfl rfl (hl.1.trans hC.n) rfl (lv_room hR.2.2) hdg hR.2.1) kk
theorem y_cL {w1 : va_W} {rv : Int64} (hC : yyC d G cc own R nL ret) (hM : yyL (gL G) y cy mL rt rm d (.ref b :: As) wc w1 rv) (kc : Cond.code y cy mL rt ∈ WW) (kl : Cond.methodLink own i y ∈ WW) (ki : Cond.instanceMethod y ∈ WW) (ks : Cond.selects C y y ∈ WW) (kn : Cond.initialized C ∈ WW)
    (hy : yyN y C As.length) (hR : yyR rm R mL k n st) (is rs pm : List Nat) (q0 : Nat) {ci N : Nat} {fs : List Value} {T : u_T} (wr ws' : va_W) (hq : wc[q0]? = some (b, .inr (ci, fs))) (hc : vwCl[ci]? = some (C, T, N)) (hcut : yyCut ws wc wr is rs) (hput : yyPut wr w1 ws' pm) (hs0 : st0 = As.reverse ++ .ref b :: st)
    (hdg : decode cc pc = .ok (.invokevirtual i, 3)) (kk : yyW d G (k + rm.cells) (n + rm.slots) Q ws' lv (pc + 3) (.long rv :: st)) : yyW d G k n Q ws lv pc st0 := by
  intro H locs ls hP hD hS hl
  subst hs0
  have hRR := hC.rm
  subst hRR
  refine yy_afterL hC hP hD hS hl hcut hput (va_runV (As := As) (rest := st) ⟨hC.1, hC.2.1, hC.2.2.1, hC.2.2.2.1, hC.2.2.2.2.1⟩ (hM H.size) (cwV As.length hC.2.2.2.2.1 (gwV kl ki ks kn (gww kc)) rfl rfl rfl hy hR.1) (yy_preV hC hcut hP hD As q0 hq hc) rfl rfl (hl.1.trans hC.n) rfl (lv_room hR.2.2) hdg hR.2.1) kk
theorem y_cV {S : Type} {P : S → Prop} {w1 : S → va_W} (hC : yyC d G cc own R nL ret) (hM : yyV (gL G) y cy mL rm d (.ref b :: As) wc P w1) (kc : Cond.code y cy mL none ∈ WW) (kl : Cond.methodLink own i y ∈ WW) (ki : Cond.instanceMethod y ∈ WW) (ks : Cond.selects C y y ∈ WW) (kn : Cond.initialized C ∈ WW)
    (hy : yyN y C As.length) (hR : yyR rm R mL k n st) (is rs pm : List Nat) (q0 : Nat) {ci N : Nat} {fs : List Value} {T : u_T} (wr : va_W) (ws' : S → va_W) (hq : wc[q0]? = some (b, .inr (ci, fs))) (hc : vwCl[ci]? = some (C, T, N)) (hcut : yyCut ws wc wr is rs) (hput : ∀ u, yyPut wr (w1 u) (ws' u) pm) (hs0 : st0 = As.reverse ++ .ref b :: st)
    (hdg : decode cc pc = .ok (.invokevirtual i, 3)) (kk : ∀ u, P u → yyW d G (k + rm.cells) (n + rm.slots) Q (ws' u) lv (pc + 3) st) : yyW d G k n Q ws lv pc st0 := by
  intro H locs ls hP hD hS hl
  subst hs0
  have hRR := hC.rm
  subst hRR
  refine yy_afterV hC hP hD hS hl hcut hput (va_runV (As := As) (rest := st) ⟨hC.1, hC.2.1, hC.2.2.1, hC.2.2.2.1, hC.2.2.2.2.1⟩ (hM H.size) (cwV As.length hC.2.2.2.2.1 (gwV kl ki ks kn (gww kc)) rfl rfl rfl hy hR.1) (yy_preV hC hcut hP hD As q0 hq hc) rfl rfl (hl.1.trans hC.n) rfl (lv_room hR.2.2) hdg hR.2.1) kk
/-- a private method of a nest mate -/
theorem y_nI {w1 : va_W} {rv : Int32} (hC : yyC d G cc own R nL ret) (hM : yyI (gL G) y cy mL rt rm d (.ref b :: As) wc w1 rv) (kc : Cond.code y cy mL rt ∈ WW) (kl : Cond.methodLinkNest own i y host ∈ NL) (ki : Cond.instanceMethod y ∈ WW) (ks : Cond.selects C y y ∈ WW) (kn : Cond.initialized y.cls ∈ WW)
    (hy : yyN y C As.length) (hR : yyR rm R mL k n st) (is rs pm : List Nat) (q0 : Nat) {ci N : Nat} {fs : List Value} {T : u_T} (wr ws' : va_W) (hq : wc[q0]? = some (b, .inr (ci, fs))) (hc : vwCl[ci]? = some (C, T, N)) (hcut : yyCut ws wc wr is rs) (hput : yyPut wr w1 ws' pm) (hs0 : st0 = As.reverse ++ .ref b :: st)
    (hdg : decode cc pc = .ok (.invokevirtual i, 3)) (kk : yyW d G (k + rm.cells) (n + rm.slots) Q ws' lv (pc + 3) (.int rv :: st)) : yyW d G k n Q ws lv pc st0 := by
  intro H locs ls hP hD hS hl
  subst hs0
  have hRR := hC.rm
  subst hRR
  refine yy_afterI hC hP hD hS hl hcut hput (va_runVN (As := As) (rest := st) ⟨hC.1, hC.2.1, hC.2.2.1, hC.2.2.2.1, hC.2.2.2.2.1⟩ (hM H.size) ⟨va_cnB As.length hC.2.2.2.2.1 (gww kc) rfl rfl rfl (hC.kw.2 _ kl) (hC.w kn) hy.2 hR.1, hC.w ki, hC.w ks⟩ (yy_preV hC hcut hP hD As q0 hq hc) rfl rfl (hl.1.trans hC.n) rfl (lv_room hR.2.2) hdg hR.2.1) kk
/-- a static method of the class itself -/
theorem y_sI {w1 : va_W} {rv : Int32} (hC : yyC d G cc own R nL ret) (hM : yyI (gL G) y cy mL rt rm d As wc w1 rv) (kc : Cond.code y cy mL rt ∈ WW) (kl : Cond.methodLink own i y ∈ WW) (ki : Cond.static y ∈ WW) (kn : Cond.initialized y.cls ∈ WW)
    (hy : yyN y C As.length) (hR : yyR rm R mL k n st) (is rs pm : List Nat) (wr ws' : va_W) (hcut : yyCut ws wc wr is rs) (hput : yyPut wr w1 ws' pm) (hs0 : st0 = As.reverse ++ st)
    (hdg : decode cc pc = .ok (.invokestatic i, 3)) (kk : yyW d G (k + rm.cells) (n + rm.slots) Q ws' lv (pc + 3) (.int rv :: st)) : yyW d G k n Q ws lv pc st0 := by
  intro H locs ls hP hD hS hl
  subst hs0
  have hRR := hC.rm
  subst hRR
  refine yy_afterI hC hP hD hS hl hcut hput (va_runS (As := As) (rest := st) ⟨hC.1, hC.2.1, hC.2.2.1, hC.2.2.2.1, hC.2.2.2.2.1⟩ (hM H.size) (va_cwS As.length hC.2.2.2.2.1 (gwS kl ki kn (gww kc)) rfl rfl rfl hy.2 hR.1) (yy_pre hC hcut hP hD As) rfl rfl (hl.1.trans hC.n) rfl (lv_room hR.2.2) hdg hR.2.1) kk
theorem y_snI {w1 : va_W} {rv : Int32} (hC : yyC d G cc own R nL ret) (hM : yyI (gL G) y cy mL rt rm d As wc w1 rv) (kc : Cond.code y cy mL rt ∈ WW) (kl : Cond.methodLinkNest own i y host ∈ NL) (ki : Cond.static y ∈ WW) (kn : Cond.initialized y.cls ∈ WW)
    (hy : yyN y C As.length) (hR : yyR rm R mL k n st) (is rs pm : List Nat) (wr ws' : va_W) (hcut : yyCut ws wc wr is rs) (hput : yyPut wr w1 ws' pm) (hs0 : st0 = As.reverse ++ st)
    (hdg : decode cc pc = .ok (.invokestatic i, 3)) (kk : yyW d G (k + rm.cells) (n + rm.slots) Q ws' lv (pc + 3) (.int rv :: st)) : yyW d G k n Q ws lv pc st0 := by
  intro H locs ls hP hD hS hl
  subst hs0
  have hRR := hC.rm
  subst hRR
  refine yy_afterI hC hP hD hS hl hcut hput (va_runSN (As := As) (rest := st) ⟨hC.1, hC.2.1, hC.2.2.1, hC.2.2.2.1, hC.2.2.2.2.1⟩ (hM H.size) ⟨va_cnB As.length hC.2.2.2.2.1 (gww kc) rfl rfl rfl (hC.kw.2 _ kl) (hC.w kn) hy.2 hR.1, hC.w ki, trivial⟩ (yy_pre hC hcut hP hD As) rfl rfl (hl.1.trans hC.n) rfl (lv_room hR.2.2) hdg hR.2.1) kk
/-- a constructor -/
theorem y_iV {S : Type} {P : S → Prop} {w1 : S → va_W} (hC : yyC d G cc own R nL ret) (hM : yyV (gL G) y cy mL rm d (.ref b :: As) wc P w1) (kc : Cond.code y cy mL none ∈ WW) (kl : Cond.methodLink own i y ∈ WW) (ki : Cond.instanceMethod y ∈ WW) (kn : Cond.initialized y.cls ∈ WW) (hin : y.name = "<init>")
    (hy : yyN y C As.length) (hR : yyR rm R mL k n st) (is rs pm : List Nat) (wr : va_W) (ws' : S → va_W) (hcut : yyCut ws wc wr is rs) (hput : ∀ u, yyPut wr (w1 u) (ws' u) pm) (hs0 : st0 = As.reverse ++ .ref b :: st)
    (hdg : decode cc pc = .ok (.invokespecial i, 3)) (kk : ∀ u, P u → yyW d G (k + rm.cells) (n + rm.slots) Q (ws' u) lv (pc + 3) st) : yyW d G k n Q ws lv pc st0 := by
  intro H locs ls hP hD hS hl
  subst hs0
  have hRR := hC.rm
  subst hRR
  refine yy_afterV hC hP hD hS hl hcut hput (va_runI (As := As) (rest := st) ⟨hC.1, hC.2.1, hC.2.2.1, hC.2.2.2.1, hC.2.2.2.2.1⟩ (hM H.size) (cwI As.length hC.2.2.2.2.1 (gww kc) rfl rfl rfl (hC.w kn) (hC.w kl) (hC.w ki) hin hy.2 hR.1) (yy_pre hC hcut hP hD (.ref b :: As)) rfl rfl (hl.1.trans hC.n) rfl (lv_room hR.2.2) hdg hR.2.1) kk
theorem y_inV {S : Type} {P : S → Prop} {w1 : S → va_W} (hC : yyC d G cc own R nL ret) (hM : yyV (gL G) y cy mL rm d (.ref b :: As) wc P w1) (kc : Cond.code y cy mL none ∈ WW) (kl : Cond.methodLinkNest own i y host ∈ NL) (ki : Cond.instanceMethod y ∈ WW) (kn : Cond.initialized y.cls ∈ WW) (hin : y.name = "<init>")
    (hy : yyN y C As.length) (hR : yyR rm R mL k n st) (is rs pm : List Nat) (wr : va_W) (ws' : S → va_W) (hcut : yyCut ws wc wr is rs) (hput : ∀ u, yyPut wr (w1 u) (ws' u) pm) (hs0 : st0 = As.reverse ++ .ref b :: st)
    (hdg : decode cc pc = .ok (.invokespecial i, 3)) (kk : ∀ u, P u → yyW d G (k + rm.cells) (n + rm.slots) Q (ws' u) lv (pc + 3) st) : yyW d G k n Q ws lv pc st0 := by
  intro H locs ls hP hD hS hl
  subst hs0
  have hRR := hC.rm
  subst hRR
  refine yy_afterV hC hP hD hS hl hcut hput (va_runIN (As := As) (rest := st) ⟨hC.1, hC.2.1, hC.2.2.1, hC.2.2.2.1, hC.2.2.2.2.1⟩ (hM H.size) ⟨va_cnB As.length hC.2.2.2.2.1 (gww kc) rfl rfl rfl (hC.kw.2 _ kl) (hC.w kn) hy.2 hR.1, hin, hC.w ki⟩ (yy_pre hC hcut hP hD (.ref b :: As)) rfl rfl (hl.1.trans hC.n) rfl (lv_room hR.2.2) hdg hR.2.1) kk
-- ends
theorem y_iret {ty : FieldType} {w1 : va_W} {rv v : Int32} (hC : yyC d G cc own R nL (some ty)) (hQ : Q = yyQI d G R w1 rv) (hty : narrow ty (.int v) = .int v) (hw : ws = w1) (hv : v = rv) (hk : k ≤ R.cells) (hn : n ≤ R.slots) (hdg : decode cc pc = .ok (.ireturn, 1)) : yyW d G k n Q ws lv pc [.int v] := by
  subst hw; subst hv; subst hQ
  intro H locs ls hP hD hS h
  refine W.widen hk hn ?_
  exact W.zret hC.1 hC.2.1 hC.r hty (fun t ht hW => ⟨⟨v, (), rfl, rfl, by rw [ht]; exact hP, hD⟩, hS.F ht⟩) hS.2.2 hdg hC.lk
theorem y_lret {w1 : va_W} {rv v : Int64} (hC : yyC d G cc own R nL (some .long)) (hQ : Q = yyQL d G R w1 rv) (hw : ws = w1) (hv : v = rv) (hk : k ≤ R.cells) (hn : n ≤ R.slots) (hdg : decode cc pc = .ok (.lreturn, 1)) : yyW d G k n Q ws lv pc [.long v] := by
  subst hw; subst hv; subst hQ
  intro H locs ls hP hD hS h
  refine W.widen hk hn ?_
  exact W.lret hC.1 hC.2.1 hC.r (fun t ht hW => ⟨⟨v, (), rfl, rfl, by rw [ht]; exact hP, hD⟩, hS.F ht⟩) hS.2.2 hdg hC.lk
theorem y_vret {S : Type} {P : S → Prop} {w1 : S → va_W} (u : S) (hC : yyC d G cc own R nL none) (hQ : Q = yyQV d G R P w1) (hu : P u) (hw : ws = w1 u) (hk : k ≤ R.cells) (hn : n ≤ R.slots) (hdg : decode cc pc = .ok (.return_, 1)) : yyW d G k n Q ws lv pc [] := by
  subst hw; subst hQ
  intro H locs ls hP hD hS h
  refine W.widen hk hn ?_
  exact W.vret hC.1 hC.2.1 hC.r (fun t ht hW => ⟨⟨u, rfl, hu, by rw [ht]; exact hP, hD⟩, hS.F ht⟩) hS.2.2 hdg hC.lk
/-- Object's own constructor -/
theorem y_obj (hC : yyC d G cc own R nL ret) (kl : Cond.methodLink own i Lib.objectInit ∈ WW) (ki : Cond.instanceMethod Lib.objectInit ∈ WW) (kc : Cond.code Lib.objectInit ⟨#[0xb1]⟩ 1 none ∈ WW) (hR : 1 ≤ R.frames ∧ (st.map fun v => v.category).sum + 12 ≤ R.locals) (hdg : decode cc pc = .ok (.invokespecial i, 3)) (kk : yyW d G k n Q ws lv (pc + 3) st) : yyW d G k n Q ws lv pc (.ref b :: st) := by
  intro H locs ls hP hD hS hl
  refine W.objInit hC.1 hC.2.1 hC.2.2.2.1 (hC.w kl) (hC.w ki) (hC.w kc) rfl ((hl.1.trans hC.n).trans hC.2.2.1.symm) rfl hdg (by rw [hC.rm]; exact hR.1) (by rw [hC.rm]; show 2 * 0 + _ + 12 ≤ _; omega) ?_
  exact kk H locs ls hP hD hS hl
end YF
end
section
-- further rows: booleans, new rows, final fields, new objects, copies
theorem nb {a b : Nat} (h : Nat.ble a b = true) : a ≤ b := Nat.le_of_ble_eq_true h
theorem nI_inc (j : Nat) : nI j + Int32.ofInt 1 = nI (j + 1) := nI_1 j
theorem nar_bI (b : Bool) : narrow .boolean (.int (bI b)) = .int (bI b) := by cases b <;> rfl
theorem updB_s {f : Nat → Bool} {k : Nat} {x : Bool} : updB f k x k = x := if_pos rfl
theorem arrV_ext (c : ClassId) (n : Nat) {f g : Nat → Value} (h : ∀ j, j < n → f j = g j) : arrV c n f = arrV c n g := by
  have : (Array.ofFn (n := n) fun j => f j.val) = Array.ofFn (n := n) fun j => g j.val := by
    congr 1
    funext j
    exact h j.val j.isLt
  unfold arrV
  rw [this]
theorem yyP_swap {D : va_G} {cl : List vw_C} {ws : va_W} {H : Heap} {q : Nat} {x y : Nat × va_E} (h : va_P D cl (ws.set q x) H) (hxy : ∀ H, va_at D cl x H → va_at D cl y H) : va_P D cl (ws.set q y) H := by
  intro k z hz
  rw [List.getElem?_set] at hz
  by_cases e : q = k
  · rw [if_pos e] at hz
    by_cases e2 : q < ws.length
    · rw [if_pos e2] at hz
      cases hz
      refine hxy H (h k x ?_)
      rw [List.getElem?_set, if_pos e, if_pos e2]
    · rw [if_neg e2] at hz
      cases hz
  · rw [if_neg e] at hz
    refine h k z ?_
    rw [List.getElem?_set, if_neg e]
    exact hz
theorem yyD_swap {A : Nat → Prop} {ws : va_W} {q : Nat} {x y : Nat × va_E} (h : va_D A (ws.set q x)) (hxy : x.1 = y.1) : va_D A (ws.set q y) := by
  have key : ∀ (k : Nat) (z : Nat × va_E), (ws.set q y)[k]? = some z → ∃ z', (ws.set q x)[k]? = some z' ∧ z'.1 = z.1 := by
    intro k z hz
    rw [List.getElem?_set] at hz
    by_cases e : q = k
    · rw [if_pos e] at hz
      by_cases e2 : q < ws.length
      · rw [if_pos e2] at hz
        cases hz
        exact ⟨x, by rw [List.getElem?_set, if_pos e, if_pos e2], hxy⟩
      · rw [if_neg e2] at hz
        cases hz
    · rw [if_neg e] at hz
      exact ⟨z, by rw [List.getElem?_set, if_neg e]; exact hz, rfl⟩
  refine ⟨fun i j p r hi hj hpr => ?_, fun k z hz => ?_⟩
  · obtain ⟨p', h1, e1⟩ := key i p hi
    obtain ⟨r', h2, e2⟩ := key j r hj
    exact h.1 i j p' r' h1 h2 (by rw [e1, e2, hpr])
  · obtain ⟨z', h1, e1⟩ := key k z hz
    rw [← e1]
    exact h.2 k z' h1
section YG
variable {d : yyD} {G : yyG} {cc : ByteArray} {own : String} {R : Room} {nL : Nat} {ret : Option FieldType} {k n : Nat} {Q : State → Prop} {ws : va_W} {lv : List (Nat × Value)} {pc : Nat} {st : List Value}
theorem y_lve (lv' : List (Nat × Value)) (h : lv = lv') (kk : yyW d G k n Q ws lv' pc st) : yyW d G k n Q ws lv pc st := h ▸ kk
theorem bI_0 {b : Bool} (h : bI b = 0) : b = false := by cases b <;> first | rfl | exact absurd h (by decide)
theorem bI_1 {b : Bool} (h : ¬ bI b = 0) : b = true := by cases b <;> first | rfl | exact absurd rfl h
theorem y_beq (hC : yyC d G cc own R nL ret) {b : Bool} {off : Int} (hdg : decode cc pc = .ok (.ifCond .eq off, 3)) (tgt : Nat) (ht : (pc : Int) + off = (tgt : Int)) (kt : b = false → yyW d G k n Q ws lv tgt st) (kf : b = true → yyW d G k n Q ws lv (pc + 3) st) : yyW d G k n Q ws lv pc (.int (bI b) :: st) :=
  y_if_eq hC hdg tgt ht (fun c => kt (bI_0 c)) (fun c => kf (bI_1 c))
theorem y_bne (hC : yyC d G cc own R nL ret) {b : Bool} {off : Int} (hdg : decode cc pc = .ok (.ifCond .ne off, 3)) (tgt : Nat) (ht : (pc : Int) + off = (tgt : Int)) (kt : b = true → yyW d G k n Q ws lv tgt st) (kf : b = false → yyW d G k n Q ws lv (pc + 3) st) : yyW d G k n Q ws lv pc (.int (bI b) :: st) :=
  y_if_ne hC hdg tgt ht (fun c => kt (bI_1 c)) (fun c => kf (bI_0 c))
theorem y_if_ge_t (hC : yyC d G cc own R nL ret) {x : Int32} {off : Int} (hdg : decode cc pc = .ok (.ifCond .ge off, 3)) (tgt : Nat) (ht : (pc : Int) + off = (tgt : Int)) (h : 0 ≤ x) (kt : yyW d G k n Q ws lv tgt st) : yyW d G k n Q ws lv pc (.int x :: st) :=
  y_if_ge hC hdg tgt ht (fun _ => kt) (fun c => absurd h c)
theorem ra_eq {s : State} {c c' : ClassId} {t : FieldType} (ht : refKind t = false) (h : va_RA s c t) (h' : va_RA s c' t) : c = c' := by
  cases t with
  | object C => exact absurd ht (by simp [refKind])
  | _ =>
    have h1 : s.vm.findClass _ = some c := h
    have h2 : s.vm.findClass _ = some c' := h'
    exact Option.some.inj (h1.symm.trans h2)
theorem y_newaI (hC : yyC d G cc own R nL ret) {x : Int32} (hdg : decode cc pc = .ok (.newarray .int, 2)) (m : Nat) (ws' : Nat → va_W) (hx : x = nI m) (hm : Nat.blt m 1000 = true) (kw : Cond.arrayClass .int ∈ WW) (hR : k + 1 ≤ R.cells ∧ n + m ≤ R.slots) (hws : ∀ q, ws ++ [(q, aI d m (fun _ => 0))] = ws' q) (kk : ∀ q, yyW d G (k + 1) (n + m) Q (ws' q) lv (pc + 2) (.ref q :: st)) : yyW d G k n Q ws lv pc (.int x :: st) := by
  intro H locs ls hP hD hS hl
  subst hx
  have hm2 : m < 1000 := Nat.blt_eq.mp hm
  have hR2 := hR
  rw [← hC.rm] at hR2
  refine va_newa (atype := .int) (ty := .int) (N' := m) (a0 := (m, .inl (fun _ => 0))) hC.1 hC.2.1 (hC.w kw) rfl hC.K hP hD hS hC.A (fun _ => rfl) (nI_pos (by omega)) (nI_clamp (by omega)) (by show m * 4 ≤ 536870912; omega) hR2.1 hR2.2 hdg (fun q cA H1 a1 a2 a3 a4 => ?_)
  have e : cA = d.2.1 := ra_eq rfl (a1.2 3 (cA, .int) rfl).2 (hC.K.2 0 (d.2.1, .int) rfl).2
  subst e
  exact kk q H1 locs ls ((hws q) ▸ a2) ((hws q) ▸ a3) a4 hl
theorem y_newaZ (hC : yyC d G cc own R nL ret) {x : Int32} (hdg : decode cc pc = .ok (.newarray .boolean, 2)) (m : Nat) (ws' : Nat → va_W) (hx : x = nI m) (hm : Nat.blt m 1000 = true) (kw : Cond.arrayClass .boolean ∈ WW) (hR : k + 1 ≤ R.cells ∧ n + m ≤ R.slots) (hws : ∀ q, ws ++ [(q, aZ d m (fun _ => false))] = ws' q) (kk : ∀ q, yyW d G (k + 1) (n + m) Q (ws' q) lv (pc + 2) (.ref q :: st)) : yyW d G k n Q ws lv pc (.int x :: st) := by
  intro H locs ls hP hD hS hl
  subst hx
  have hm2 : m < 1000 := Nat.blt_eq.mp hm
  have hR2 := hR
  rw [← hC.rm] at hR2
  refine va_newa (atype := .boolean) (ty := .boolean) (N' := m) (a0 := (m, .inl (fun _ => bI false))) hC.1 hC.2.1 (hC.w kw) rfl hC.K hP hD hS hC.A (fun _ => rfl) (nI_pos (by omega)) (nI_clamp (by omega)) (by show m * 1 ≤ 536870912; omega) hR2.1 hR2.2 hdg (fun q cA H1 a1 a2 a3 a4 => ?_)
  have e : cA = d.2.2.1 := ra_eq rfl (a1.2 3 (cA, .boolean) rfl).2 (hC.K.2 1 (d.2.2.1, .boolean) rfl).2
  subst e
  exact kk q H1 locs ls ((hws q) ▸ a2) ((hws q) ▸ a3) a4 hl
theorem y_newaJ (hC : yyC d G cc own R nL ret) {x : Int32} (hdg : decode cc pc = .ok (.newarray .long, 2)) (m : Nat) (ws' : Nat → va_W) (hx : x = nI m) (hm : Nat.blt m 1000 = true) (kw : Cond.arrayClass .long ∈ WW) (hR : k + 1 ≤ R.cells ∧ n + m ≤ R.slots) (hws : ∀ q, ws ++ [(q, aJ d m (fun _ => 0))] = ws' q) (kk : ∀ q, yyW d G (k + 1) (n + m) Q (ws' q) lv (pc + 2) (.ref q :: st)) : yyW d G k n Q ws lv pc (.int x :: st) := by
  intro H locs ls hP hD hS hl
  subst hx
  have hm2 : m < 1000 := Nat.blt_eq.mp hm
  have hR2 := hR
  rw [← hC.rm] at hR2
  refine va_newa (atype := .long) (ty := .long) (N' := m) (a0 := (m, .inr (.inl (fun _ => 0)))) hC.1 hC.2.1 (hC.w kw) rfl hC.K hP hD hS hC.A (fun _ => rfl) (nI_pos (by omega)) (nI_clamp (by omega)) (by show m * 8 ≤ 536870912; omega) hR2.1 hR2.2 hdg (fun q cA H1 a1 a2 a3 a4 => ?_)
  have e : cA = d.2.2.2 := ra_eq rfl (a1.2 3 (cA, .long) rfl).2 (hC.K.2 2 (d.2.2.2, .long) rfl).2
  subst e
  exact kk q H1 locs ls ((hws q) ▸ a2) ((hws q) ▸ a3) a4 hl
theorem y_putF (hC : yyC d G cc own R nL ret) (hin : (gT G).name = "<init>") (q : Nat) (f : Nat) (ty : FieldType) {C ref : String} {T : u_T} {N ci i : Nat} {a : Nat} {fs : List Value} {v : Value} (hdg : decode cc pc = .ok (.putfield i, 3)) (ty0 : Nat → FieldType) (ws' : va_W) (hw : ws[q]? = some (a, .inr (ci, fs))) (hws : ws.set q (a, .inr (ci, fs.set f v)) = ws') (hc : vwCl[ci]? = some (C, T, N)) (hin2 : ∀ w ∈ u_ws C T N, w ∈ WW) (hty : ∀ k, k < N → parseFieldDescriptor (T k).2.2.1 = some (ty0 k)) (hnm : ∀ a, a < N → ∀ b, b < N → a ≠ b → (T a).2.1 ≠ (T b).2.1) (hf : f < N) (hk : Cond.fieldLink own i ref (T f).2.1 (T f).2.2.1 ∈ WW) (hr : (T f).1 = ref) (hfin : (T f).2.2.2 = true) (hde : (T f).1 = own) (hd : parseFieldDescriptor (T f).2.2.1 = some ty) (hn : narrow ty v = v) (hfit : fits ty v = true) (hl : f < fs.length) (kk : yyW d G k n Q ws' lv (pc + 3) st) : yyW d G k n Q ws lv pc (v :: .ref a :: st) :=
  fun H locs ls hP hD hS h => va_putF (T := T) (C := C) (N := N) (ref := ref) hC.1 hC.2.1 (fun w hw => hC.w hw) hin2 ty0 hty hnm hC.2.2.2.1 hC.K hP hD hS q hw hc f hf (hC.w hk) (fun _ h9 => hr ▸ h9) hfin hin hde hd hn hfit hl hdg (fun H1 locs1 a1 a2 a3 => kk H1 locs1 ls (hws ▸ a1) (hws ▸ a2) a3 h)
theorem y_new (hC : yyC d G cc own R nL ret) {C : String} {T : u_T} {N ci i : Nat} (hdg : decode cc pc = .ok (.new i, 3)) (fs : List Value) (ty : Nat → FieldType) (ws' : Nat → va_W) (hc : vwCl[ci]? = some (C, T, N)) (hin : ∀ w ∈ u_ws C T N, w ∈ WW) (hty : ∀ k, k < N → parseFieldDescriptor (T k).2.2.1 = some (ty k)) (k1 : Cond.classLink own i C ∈ WW) (k2 : Cond.instantiable C N ∈ WW) (k3 : Cond.initialized C ∈ WW) (hfs : ∀ j, j < N → defaultValue (ty j) = vp_V fs j) (hR : k + 1 ≤ R.cells ∧ n + N ≤ R.slots) (hws : ∀ q, ws ++ [(q, .inr (ci, fs))] = ws' q) (kk : ∀ q, yyW d G (k + 1) (n + N) Q (ws' q) lv (pc + 3) (.ref q :: st)) : yyW d G k n Q ws lv pc st := by
  intro H locs ls hP hD hS hl
  have hR2 := hR
  rw [← hC.rm] at hR2
  refine va_new (ci := ci) (fs := fs) (C := C) (T := T) (N := N) hC.1 hC.2.1 (fun w hw => hC.w hw) hin ty hty hC.2.2.2.1 (hC.w k1) (hC.w k2) (hC.w k3) hC.K hP hD hS hC.A hc hfs hR2.1 hR2.2 hdg (fun q H1 a2 a3 a4 => ?_)
  exact kk q H1 locs ls ((hws q) ▸ a2) ((hws q) ▸ a3) a4 hl
theorem cpy_le {α : Type} (f g : Nat → α) (m k : Nat) (h : k < m) : va_cpy f g 0 0 m k = f k := by
  rw [pk_cpy_in (Nat.zero_le _) (by omega)]
  congr 1
  omega
/-- a row written over another of the same length -/
theorem y_copyI (hC : yyC d G cc own R nL ret) {i : Nat} (hdg : decode cc pc = .ok (.invokestatic i, 3)) (q0 q1 : Nat) {a0 a1 m : Nat} {f g : Nat → Int32} {x y z : Int32} (ws' : va_W) (ha0 : ws[q0]? = some (a0, aI d m f)) (ha1 : ws[q1]? = some (a1, aI d m g)) (hx : x = nI 0) (hy : y = nI 0) (hz : z = nI m) (hm : Nat.blt m 1000 = true) (hws : ws.set q1 (a1, aI d m f) = ws')
    (k1 : Cond.methodLink own i arraycopyName ∈ WW) (k2 : Cond.native arraycopyName ∈ WW) (k3 : Cond.static arraycopyName ∈ WW) (k4 : Cond.initialized "java/lang/System" ∈ WW) (hR : 1 ≤ R.frames ∧ (st.map fun v => v.category).sum + 18 ≤ R.locals) (kk : yyW d G k n Q ws' lv (pc + 3) st) : yyW d G k n Q ws lv pc (.int z :: .int y :: .ref a1 :: .int x :: .ref a0 :: st) := by
  intro H locs ls hP hD hS hl
  subst hx; subst hy; subst hz
  have hm2 : m < 1000 := Nat.blt_eq.mp hm
  have hR2 := hR
  rw [← hC.rm] at hR2
  have e0 : (nI 0).toNatClampNeg = 0 := nI_clamp (by omega)
  have em : (nI m).toNatClampNeg = m := nI_clamp (by omega)
  refine va_copyi hC.1 hC.2.1 (by rw [hC.2.2.1, hl.1, hC.n]) hC.2.2.2.1 (hC.w k1) (hC.w k2) (hC.w k3) (hC.w k4) hC.K hP hD hS q0 q1 0 0 ha0 ha1 rfl rfl rfl (nI_pos (by omega)) (nI_pos (by omega)) (nI_pos (by omega)) (by rw [e0, em]; omega) (by rw [e0, em]; omega) (fun _ _ => rfl) hR2.1 (by show _ + 18 ≤ _; exact hR2.2) hdg (fun H1 locs1 b1 b2 b3 => ?_)
  rw [e0, em] at b1 b2
  have hat : ∀ H2, va_at d.1 vwCl (a1, (.inl (d.2.1, m, .inl (va_cpy f g 0 0 m)) : va_E)) H2 → va_at d.1 vwCl (a1, aI d m f) H2 := by
    intro H2 h
    have e : vp_cell d.2.1 (m, .inl (va_cpy f g 0 0 m)) = vp_cell d.2.1 (m, .inl f) := arrV_ext d.2.1 m (f := fun j => .int (va_cpy f g 0 0 m j)) (g := fun j => .int (f j)) (fun j hj => by show Value.int (va_cpy f g 0 0 m j) = _; rw [cpy_le f g m j hj])
    show H2[a1]? = some (vp_cell d.2.1 (m, .inl f))
    rw [← e]
    exact h
  exact kk H1 locs1 ls (hws ▸ yyP_swap b1 hat) (hws ▸ yyD_swap b2 rfl) b3 hl
theorem y_copyZ (hC : yyC d G cc own R nL ret) {i : Nat} (hdg : decode cc pc = .ok (.invokestatic i, 3)) (q0 q1 : Nat) {a0 a1 m : Nat} {f g : Nat → Bool} {x y z : Int32} (ws' : va_W) (ha0 : ws[q0]? = some (a0, aZ d m f)) (ha1 : ws[q1]? = some (a1, aZ d m g)) (hx : x = nI 0) (hy : y = nI 0) (hz : z = nI m) (hm : Nat.blt m 1000 = true) (hws : ws.set q1 (a1, aZ d m f) = ws')
    (k1 : Cond.methodLink own i arraycopyName ∈ WW) (k2 : Cond.native arraycopyName ∈ WW) (k3 : Cond.static arraycopyName ∈ WW) (k4 : Cond.initialized "java/lang/System" ∈ WW) (hR : 1 ≤ R.frames ∧ (st.map fun v => v.category).sum + 18 ≤ R.locals) (kk : yyW d G k n Q ws' lv (pc + 3) st) : yyW d G k n Q ws lv pc (.int z :: .int y :: .ref a1 :: .int x :: .ref a0 :: st) := by
  intro H locs ls hP hD hS hl
  subst hx; subst hy; subst hz
  have hm2 : m < 1000 := Nat.blt_eq.mp hm
  have hR2 := hR
  rw [← hC.rm] at hR2
  have e0 : (nI 0).toNatClampNeg = 0 := nI_clamp (by omega)
  have em : (nI m).toNatClampNeg = m := nI_clamp (by omega)
  refine va_copyi hC.1 hC.2.1 (by rw [hC.2.2.1, hl.1, hC.n]) hC.2.2.2.1 (hC.w k1) (hC.w k2) (hC.w k3) (hC.w k4) hC.K hP hD hS q0 q1 1 1 ha0 ha1 rfl rfl rfl (nI_pos (by omega)) (nI_pos (by omega)) (nI_pos (by omega)) (by rw [e0, em]; omega) (by rw [e0, em]; omega) (fun j _ => by cases f ((nI 0).toNatClampNeg + j) <;> rfl) hR2.1 (by show _ + 18 ≤ _; exact hR2.2) hdg (fun H1 locs1 b1 b2 b3 => ?_)
  rw [e0, em] at b1 b2
  have hat : ∀ H2, va_at d.1 vwCl (a1, (.inl (d.2.2.1, m, .inl (va_cpy (fun k => bI (f k)) (fun k => bI (g k)) 0 0 m)) : va_E)) H2 → va_at d.1 vwCl (a1, aZ d m f) H2 := by
    intro H2 h
    have e : vp_cell d.2.2.1 (m, .inl (va_cpy (fun k => bI (f k)) (fun k => bI (g k)) 0 0 m)) = vp_cell d.2.2.1 (m, .inl (fun k => bI (f k))) := arrV_ext d.2.2.1 m (f := fun j => .int (va_cpy (fun k => bI (f k)) (fun k => bI (g k)) 0 0 m j)) (g := fun j => .int (bI (f j))) (fun j hj => by show Value.int (va_cpy (fun k => bI (f k)) (fun k => bI (g k)) 0 0 m j) = _; rw [cpy_le _ _ m j hj])
    show H2[a1]? = some (vp_cell d.2.2.1 (m, .inl (fun k => bI (f k))))
    rw [← e]
    exact h
  exact kk H1 locs1 ls (hws ▸ yyP_swap b1 hat) (hws ▸ yyD_swap b2 rfl) b3 hl
end YG
end
section
abbrev fI : Type := Nat → Int32
abbrev fB : Type := Nat → Bool
-- Vineyards: what a method does to the rows
def hearS (pl : fI) (me : fB) (p : Int32) (j : Nat) (su : fI) : fI := cond (me j) su (if 2 < ab (pl j - p) then su else upd su j (su j + 1))
def hearF (pl : fI) (me : fB) (p : Int32) (n : Nat) (su : fI) : fI := yi n (hearS pl me p) su
def takeS (pl : fI) (hp hl : Int32) (j : Nat) (w : fI × fI × fI) : fI × fI × fI :=
  if pl j = hp then (upd w.1 j (w.1 j - mn (2 * hl) (w.1 j)), upd w.2.1 j (w.2.1 j + mn (2 * hl) (w.1 j)), upd w.2.2 j (w.2.2 j + mn (2 * hl) (w.1 j))) else w
def takeF (pl : fI) (hp hl : Int32) (n : Nat) (w : fI × fI × fI) : fI × fI × fI := yi n (takeS pl hp hl) w
def closeS (ins : fB) (j : Nat) (w : Int32 × fI × fI × fI) : Int32 × fI × fI × fI :=
  ((cond (ins j) (w.1 + (1 - w.2.2.1 j / 2)) w.1) - w.2.2.2 j, if w.2.1 j < 1 then w.2.1 else if 99 ≤ w.2.1 j then w.2.1 else upd w.2.1 j (w.2.1 j + 1), upd w.2.2.1 j 0, upd w.2.2.2 j 0)
def closeF (ins : fB) (n : Nat) (w : Int32 × fI × fI × fI) : Int32 × fI × fI × fI := yi n (closeS ins) w
def sumF (f : fI) (n : Nat) : Int32 := yi n (fun k a => a + f k) 0
def manyF (f : fB) (n : Nat) : Int32 := yi n (fun k a => cond (f k) (a + Int32.ofInt 1) a) 0
def vfact (pl vi : fI) (me ins : fB) (lt su la : fI) (j w : Nat) : Int32 :=
  if w = 0 then pl j else if w = 1 then vi j else if w = 2 then bI (me j) else if w = 3 then bI (ins j) else if w = 4 then lt j else if w = 5 then su j else la j
set_option maxHeartbeats 4000000 in
set_option maxRecDepth 100000 in
/-- each vineyard near the shot that is no member has a suit more -/
theorem c_X3_hearShot (l : Launch) (d : yyD) (a0 : Nat) (a1 : Nat) (a2 : Nat) (a3 : Nat) (a4 : Nat) (a5 : Nat) (a6 : Nat) (a7 : Nat) (pl : fI) (me : fB) (su : fI) (n : Nat) (p : Int32) (hn : n ≤ 10) : yyV (S := Unit) l yX3_hearShot cX3_hearShot 3 { frames := 1, cells := 0, slots := 0, locals := 13 } d [.ref a0, .int p] [(a0, .inr (3, [.ref a1, .ref a2, .ref a3, .ref a4, .ref a5, .ref a6, .ref a7, .int (nI n)])), (a1, aI d 10 pl), (a3, aZ d 10 me), (a6, aI d 10 su)] (fun _ => True) (fun _ => [(a0, .inr (3, [.ref a1, .ref a2, .ref a3, .ref a4, .ref a5, .ref a6, .ref a7, .int (nI n)])), (a1, aI d 10 pl), (a3, aZ d 10 me), (a6, aI d 10 (hearF pl me p n su))]) := by
  refine yyV_of (own := RX3) [(0, .ref a0), (1, .int p)] (by decide +kernel) rfl (Nat.le_of_ble_eq_true rfl) rfl ?_
  intro G Q hQ hGL hC hGA hin
  refine y_iconst (pc := 0) hC dX3_hearShot_0 0 (by decide) ?_
  refine y_istore_n (pc := 1) hC dX3_hearShot_1 [(2, .int 0), (0, .ref a0), (1, .int p)] rfl (by decide) ?_
  have lpj1 : ∀ r1 j1 : Nat, j1 + r1 = n → yyW d G 0 0 Q [(a0, .inr (3, [.ref a1, .ref a2, .ref a3, .ref a4, .ref a5, .ref a6, .ref a7, .int (nI n)])), (a1, aI d 10 pl), (a3, aZ d 10 me), (a6, aI d 10 (yi j1 (hearS pl me p) su))] [(2, .int (nI j1)), (0, .ref a0), (1, .int p)] 2 [] := by
    intro r1
    induction r1 with
    | zero =>
      intro j1 hj1
      have ej1 : j1 = n := by omega
      rw [ej1]
      refine y_iload_n (pc := 2) hC 0 dX3_hearShot_2 rfl ?_
      refine y_aload_n (pc := 3) hC 1 dX3_hearShot_3 rfl ?_
      refine y_get (pc := 4) hC 0 7 dX3_hearShot_4 rfl rfl inX3 (by decide) kw_1_44 rfl rfl ?_
      refine y_ge_t (pc := 7) (a := n) (b := n) hC dX3_hearShot_7 50 (by decide) (by omega) (by omega) ?_
      exact y_vret (()) hC hQ (trivial) rfl (nb rfl) (nb rfl) dX3_hearShot_50
    | succ r1 ihj1 =>
      intro j1 hj1
      have lj1 : j1 < n := by omega
      refine y_iload_n (pc := 2) hC 0 dX3_hearShot_2 rfl ?_
      refine y_aload_n (pc := 3) hC 1 dX3_hearShot_3 rfl ?_
      refine y_get (pc := 4) hC 0 7 dX3_hearShot_4 rfl rfl inX3 (by decide) kw_1_44 rfl rfl ?_
      refine y_ge_f (pc := 7) (a := j1) (b := n) hC dX3_hearShot_7 50 (by decide) (by omega) (by omega) ?_
      refine y_aload_n (pc := 10) hC 1 dX3_hearShot_10 rfl ?_
      refine y_get (pc := 11) hC 0 2 dX3_hearShot_11 rfl rfl inX3 (by decide) kw_1_38 rfl rfl ?_
      refine y_iload_n (pc := 14) hC 0 dX3_hearShot_14 rfl ?_
      refine y_zald (pc := 15) hC 2 (j := j1) dX3_hearShot_15 (bI (me j1)) rfl (by omega) rfl rfl ?_
      refine y_bne (pc := 16) hC dX3_hearShot_16 44 (by decide) (fun c_2 => ?_) (fun c_2 => ?_)
      · refine y_iinc (pc := 44) hC 0 dX3_hearShot_44 (nI (j1 + 1)) [(2, .int (nI (j1 + 1))), (0, .ref a0), (1, .int p)] rfl (nI_inc _) rfl (by decide) ?_
        refine y_goto (pc := 47) hC dX3_hearShot_47 2 (by decide) ?_
        refine y_ws [(a0, .inr (3, [.ref a1, .ref a2, .ref a3, .ref a4, .ref a5, .ref a6, .ref a7, .int (nI n)])), (a1, aI d 10 pl), (a3, aZ d 10 me), (a6, aI d 10 (yi (j1 + 1) (hearS pl me p) su))] (by simp only [yi, hearS, c_2, ↓reduceIte, cond_true, cond_false]) ?_
        exact ihj1 (j1 + 1) (by omega)
      · refine y_aload_n (pc := 19) hC 1 dX3_hearShot_19 rfl ?_
        refine y_get (pc := 20) hC 0 0 dX3_hearShot_20 rfl rfl inX3 (by decide) kw_1_36 rfl rfl ?_
        refine y_iload_n (pc := 23) hC 0 dX3_hearShot_23 rfl ?_
        refine y_iald (pc := 24) hC 1 (j := j1) dX3_hearShot_24 (pl j1) rfl (by omega) rfl rfl ?_
        refine y_iload_n (pc := 25) hC 2 dX3_hearShot_25 rfl ?_
        refine y_isub (pc := 26) hC dX3_hearShot_26 ((pl j1) - p) rfl ?_
        refine y_abs (pc := 27) hC dX3_hearShot_27 kw_2_229 kw_1_219 kw_1_14 kw_1_220 ⟨nb rfl, nb rfl, nb rfl, nb rfl⟩ ?_
        refine y_iconst (pc := 30) hC dX3_hearShot_30 2 (by decide) ?_
        refine y_cmp_gt (pc := 31) hC dX3_hearShot_31 44 (by decide) (fun c_3 => ?_) (fun c_3 => ?_)
        · refine y_iinc (pc := 44) hC 0 dX3_hearShot_44 (nI (j1 + 1)) [(2, .int (nI (j1 + 1))), (0, .ref a0), (1, .int p)] rfl (nI_inc _) rfl (by decide) ?_
          refine y_goto (pc := 47) hC dX3_hearShot_47 2 (by decide) ?_
          refine y_ws [(a0, .inr (3, [.ref a1, .ref a2, .ref a3, .ref a4, .ref a5, .ref a6, .ref a7, .int (nI n)])), (a1, aI d 10 pl), (a3, aZ d 10 me), (a6, aI d 10 (yi (j1 + 1) (hearS pl me p) su))] (by simp only [yi, hearS, c_2, c_3, ↓reduceIte, cond_true, cond_false]) ?_
          exact ihj1 (j1 + 1) (by omega)
        · refine y_aload_n (pc := 34) hC 1 dX3_hearShot_34 rfl ?_
          refine y_get (pc := 35) hC 0 5 dX3_hearShot_35 rfl rfl inX3 (by decide) kw_1_41 rfl rfl ?_
          refine y_iload_n (pc := 38) hC 0 dX3_hearShot_38 rfl ?_
          refine y_dup2 (pc := 39) hC dX3_hearShot_39 rfl rfl ?_
          refine y_iald (pc := 40) hC 3 (j := j1) dX3_hearShot_40 ((yi j1 (hearS pl me p) su) j1) rfl (by omega) rfl rfl ?_
          refine y_iconst (pc := 41) hC dX3_hearShot_41 1 (by decide) ?_
          refine y_iadd (pc := 42) hC dX3_hearShot_42 (((yi j1 (hearS pl me p) su) j1) + 1) rfl ?_
          refine y_iast (pc := 43) hC 3 (j := j1) dX3_hearShot_43 (upd (yi j1 (hearS pl me p) su) j1 (((yi j1 (hearS pl me p) su) j1) + 1)) [(a0, .inr (3, [.ref a1, .ref a2, .ref a3, .ref a4, .ref a5, .ref a6, .ref a7, .int (nI n)])), (a1, aI d 10 pl), (a3, aZ d 10 me), (a6, aI d 10 (upd (yi j1 (hearS pl me p) su) j1 (((yi j1 (hearS pl me p) su) j1) + 1)))] rfl (by omega) rfl rfl rfl ?_
          refine y_iinc (pc := 44) hC 0 dX3_hearShot_44 (nI (j1 + 1)) [(2, .int (nI (j1 + 1))), (0, .ref a0), (1, .int p)] rfl (nI_inc _) rfl (by decide) ?_
          refine y_goto (pc := 47) hC dX3_hearShot_47 2 (by decide) ?_
          refine y_ws [(a0, .inr (3, [.ref a1, .ref a2, .ref a3, .ref a4, .ref a5, .ref a6, .ref a7, .int (nI n)])), (a1, aI d 10 pl), (a3, aZ d 10 me), (a6, aI d 10 (yi (j1 + 1) (hearS pl me p) su))] (by simp only [yi, hearS, c_2, c_3, ↓reduceIte, cond_true, cond_false]) ?_
          exact ihj1 (j1 + 1) (by omega)
  refine y_lv [(2, .int 0), (0, .ref a0), (1, .int p)] [0, 1, 2] rfl ?_
  exact lpj1 n 0 (by omega)
theorem n_X3_hearShot : yyN yX3_hearShot RX3 1 := by refine ⟨rfl, ?_, ?_, ?_⟩ <;> decide +kernel
set_option maxHeartbeats 4000000 in
set_option maxRecDepth 100000 in
/-- hail falls on the vineyards at a place -/
theorem c_X3_takeHail (l : Launch) (d : yyD) (a0 : Nat) (a1 : Nat) (a2 : Nat) (a3 : Nat) (a4 : Nat) (a5 : Nat) (a6 : Nat) (a7 : Nat) (pl : fI) (vi : fI) (lt : fI) (la : fI) (n : Nat) (hp : Int32) (hl : Int32) (hn : n ≤ 10) : yyV (S := Unit) l yX3_takeHail cX3_takeHail 5 { frames := 1, cells := 0, slots := 0, locals := 13 } d [.ref a0, .int hp, .int hl] [(a0, .inr (3, [.ref a1, .ref a2, .ref a3, .ref a4, .ref a5, .ref a6, .ref a7, .int (nI n)])), (a1, aI d 10 pl), (a2, aI d 10 vi), (a5, aI d 10 lt), (a7, aI d 10 la)] (fun _ => True) (fun _ => [(a0, .inr (3, [.ref a1, .ref a2, .ref a3, .ref a4, .ref a5, .ref a6, .ref a7, .int (nI n)])), (a1, aI d 10 pl), (a2, aI d 10 ((takeF pl hp hl n (vi, lt, la)).1)), (a5, aI d 10 ((takeF pl hp hl n (vi, lt, la)).2.1)), (a7, aI d 10 ((takeF pl hp hl n (vi, lt, la)).2.2))]) := by
  refine yyV_of (own := RX3) [(0, .ref a0), (1, .int hp), (2, .int hl)] (by decide +kernel) rfl (Nat.le_of_ble_eq_true rfl) rfl ?_
  intro G Q hQ hGL hC hGA hin
  refine y_iconst (pc := 0) hC dX3_takeHail_0 0 (by decide) ?_
  refine y_istore_n (pc := 1) hC dX3_takeHail_1 [(3, .int 0), (0, .ref a0), (1, .int hp), (2, .int hl)] rfl (by decide) ?_
  have lpj1 : ∀ r1 j1 : Nat, j1 + r1 = n → yyW d G 0 0 Q [(a0, .inr (3, [.ref a1, .ref a2, .ref a3, .ref a4, .ref a5, .ref a6, .ref a7, .int (nI n)])), (a1, aI d 10 pl), (a2, aI d 10 ((yi j1 (takeS pl hp hl) (vi, lt, la)).1)), (a5, aI d 10 ((yi j1 (takeS pl hp hl) (vi, lt, la)).2.1)), (a7, aI d 10 ((yi j1 (takeS pl hp hl) (vi, lt, la)).2.2))] [(3, .int (nI j1)), (0, .ref a0), (1, .int hp), (2, .int hl)] 2 [] := by
    intro r1
    induction r1 with
    | zero =>
      intro j1 hj1
      have ej1 : j1 = n := by omega
      rw [ej1]
      refine y_iload_n (pc := 2) hC 0 dX3_takeHail_2 rfl ?_
      refine y_aload_n (pc := 3) hC 1 dX3_takeHail_3 rfl ?_
      refine y_get (pc := 4) hC 0 7 dX3_takeHail_4 rfl rfl inX3 (by decide) kw_1_44 rfl rfl ?_
      refine y_ge_t (pc := 7) (a := n) (b := n) hC dX3_takeHail_7 73 (by decide) (by omega) (by omega) ?_
      exact y_vret (()) hC hQ (trivial) rfl (nb rfl) (nb rfl) dX3_takeHail_73
    | succ r1 ihj1 =>
      intro j1 hj1
      have lj1 : j1 < n := by omega
      refine y_iload_n (pc := 2) hC 0 dX3_takeHail_2 rfl ?_
      refine y_aload_n (pc := 3) hC 1 dX3_takeHail_3 rfl ?_
      refine y_get (pc := 4) hC 0 7 dX3_takeHail_4 rfl rfl inX3 (by decide) kw_1_44 rfl rfl ?_
      refine y_ge_f (pc := 7) (a := j1) (b := n) hC dX3_takeHail_7 73 (by decide) (by omega) (by omega) ?_
      refine y_aload_n (pc := 10) hC 1 dX3_takeHail_10 rfl ?_
      refine y_get (pc := 11) hC 0 0 dX3_takeHail_11 rfl rfl inX3 (by decide) kw_1_36 rfl rfl ?_
      refine y_iload_n (pc := 14) hC 0 dX3_takeHail_14 rfl ?_
      refine y_iald (pc := 15) hC 1 (j := j1) dX3_takeHail_15 (pl j1) rfl (by omega) rfl rfl ?_
      refine y_iload_n (pc := 16) hC 2 dX3_takeHail_16 rfl ?_
      refine y_cmp_ne (pc := 17) hC dX3_takeHail_17 67 (by decide) (fun c_2 => ?_) (fun c_2 => ?_)
      · refine y_iinc (pc := 67) hC 0 dX3_takeHail_67 (nI (j1 + 1)) [(3, .int (nI (j1 + 1))), (0, .ref a0), (1, .int hp), (2, .int hl)] rfl (nI_inc _) rfl (by decide) ?_
        refine y_goto (pc := 70) hC dX3_takeHail_70 2 (by decide) ?_
        refine y_ws [(a0, .inr (3, [.ref a1, .ref a2, .ref a3, .ref a4, .ref a5, .ref a6, .ref a7, .int (nI n)])), (a1, aI d 10 pl), (a2, aI d 10 ((yi (j1 + 1) (takeS pl hp hl) (vi, lt, la)).1)), (a5, aI d 10 ((yi (j1 + 1) (takeS pl hp hl) (vi, lt, la)).2.1)), (a7, aI d 10 ((yi (j1 + 1) (takeS pl hp hl) (vi, lt, la)).2.2))] (by simp only [yi, takeS, c_2, ↓reduceIte, cond_true, cond_false]) ?_
        exact ihj1 (j1 + 1) (by omega)
      · refine y_iconst (pc := 20) hC dX3_takeHail_20 2 (by decide) ?_
        refine y_iload_n (pc := 21) hC 3 dX3_takeHail_21 rfl ?_
        refine y_imul (pc := 22) hC dX3_takeHail_22 (2 * hl) rfl ?_
        refine y_aload_n (pc := 23) hC 1 dX3_takeHail_23 rfl ?_
        refine y_get (pc := 24) hC 0 1 dX3_takeHail_24 rfl rfl inX3 (by decide) kw_1_37 rfl rfl ?_
        refine y_iload_n (pc := 27) hC 0 dX3_takeHail_27 rfl ?_
        refine y_iald (pc := 28) hC 2 (j := j1) dX3_takeHail_28 (((yi j1 (takeS pl hp hl) (vi, lt, la)).1) j1) rfl (by omega) rfl rfl ?_
        refine y_min (pc := 29) hC dX3_takeHail_29 kw_2_239 kw_2_142 kw_1_14 kw_2_143 ⟨nb rfl, nb rfl, nb rfl, nb rfl⟩ ?_
        refine y_istore (pc := 32) hC dX3_takeHail_32 [(4, .int (mn (2 * hl) (((yi j1 (takeS pl hp hl) (vi, lt, la)).1) j1))), (3, .int (nI j1)), (0, .ref a0), (1, .int hp), (2, .int hl)] rfl (by decide) ?_
        refine y_aload_n (pc := 34) hC 2 dX3_takeHail_34 rfl ?_
        refine y_get (pc := 35) hC 0 1 dX3_takeHail_35 rfl rfl inX3 (by decide) kw_1_37 rfl rfl ?_
        refine y_iload_n (pc := 38) hC 1 dX3_takeHail_38 rfl ?_
        refine y_dup2 (pc := 39) hC dX3_takeHail_39 rfl rfl ?_
        refine y_iald (pc := 40) hC 2 (j := j1) dX3_takeHail_40 (((yi j1 (takeS pl hp hl) (vi, lt, la)).1) j1) rfl (by omega) rfl rfl ?_
        refine y_iload (pc := 41) hC 0 dX3_takeHail_41 rfl ?_
        refine y_isub (pc := 43) hC dX3_takeHail_43 ((((yi j1 (takeS pl hp hl) (vi, lt, la)).1) j1) - (mn (2 * hl) (((yi j1 (takeS pl hp hl) (vi, lt, la)).1) j1))) rfl ?_
        refine y_iast (pc := 44) hC 2 (j := j1) dX3_takeHail_44 (upd ((yi j1 (takeS pl hp hl) (vi, lt, la)).1) j1 ((((yi j1 (takeS pl hp hl) (vi, lt, la)).1) j1) - (mn (2 * hl) (((yi j1 (takeS pl hp hl) (vi, lt, la)).1) j1)))) [(a0, .inr (3, [.ref a1, .ref a2, .ref a3, .ref a4, .ref a5, .ref a6, .ref a7, .int (nI n)])), (a1, aI d 10 pl), (a2, aI d 10 (upd ((yi j1 (takeS pl hp hl) (vi, lt, la)).1) j1 ((((yi j1 (takeS pl hp hl) (vi, lt, la)).1) j1) - (mn (2 * hl) (((yi j1 (takeS pl hp hl) (vi, lt, la)).1) j1))))), (a5, aI d 10 ((yi j1 (takeS pl hp hl) (vi, lt, la)).2.1)), (a7, aI d 10 ((yi j1 (takeS pl hp hl) (vi, lt, la)).2.2))] rfl (by omega) rfl rfl rfl ?_
        refine y_aload_n (pc := 45) hC 2 dX3_takeHail_45 rfl ?_
        refine y_get (pc := 46) hC 0 4 dX3_takeHail_46 rfl rfl inX3 (by decide) kw_1_40 rfl rfl ?_
        refine y_iload_n (pc := 49) hC 1 dX3_takeHail_49 rfl ?_
        refine y_dup2 (pc := 50) hC dX3_takeHail_50 rfl rfl ?_
        refine y_iald (pc := 51) hC 3 (j := j1) dX3_takeHail_51 (((yi j1 (takeS pl hp hl) (vi, lt, la)).2.1) j1) rfl (by omega) rfl rfl ?_
        refine y_iload (pc := 52) hC 0 dX3_takeHail_52 rfl ?_
        refine y_iadd (pc := 54) hC dX3_takeHail_54 ((((yi j1 (takeS pl hp hl) (vi, lt, la)).2.1) j1) + (mn (2 * hl) (((yi j1 (takeS pl hp hl) (vi, lt, la)).1) j1))) rfl ?_
        refine y_iast (pc := 55) hC 3 (j := j1) dX3_takeHail_55 (upd ((yi j1 (takeS pl hp hl) (vi, lt, la)).2.1) j1 ((((yi j1 (takeS pl hp hl) (vi, lt, la)).2.1) j1) + (mn (2 * hl) (((yi j1 (takeS pl hp hl) (vi, lt, la)).1) j1)))) [(a0, .inr (3, [.ref a1, .ref a2, .ref a3, .ref a4, .ref a5, .ref a6, .ref a7, .int (nI n)])), (a1, aI d 10 pl), (a2, aI d 10 (upd ((yi j1 (takeS pl hp hl) (vi, lt, la)).1) j1 ((((yi j1 (takeS pl hp hl) (vi, lt, la)).1) j1) - (mn (2 * hl) (((yi j1 (takeS pl hp hl) (vi, lt, la)).1) j1))))), (a5, aI d 10 (upd ((yi j1 (takeS pl hp hl) (vi, lt, la)).2.1) j1 ((((yi j1 (takeS pl hp hl) (vi, lt, la)).2.1) j1) + (mn (2 * hl) (((yi j1 (takeS pl hp hl) (vi, lt, la)).1) j1))))), (a7, aI d 10 ((yi j1 (takeS pl hp hl) (vi, lt, la)).2.2))] rfl (by omega) rfl rfl rfl ?_
        refine y_aload_n (pc := 56) hC 2 dX3_takeHail_56 rfl ?_
        refine y_get (pc := 57) hC 0 6 dX3_takeHail_57 rfl rfl inX3 (by decide) kw_1_42 rfl rfl ?_
        refine y_iload_n (pc := 60) hC 1 dX3_takeHail_60 rfl ?_
        refine y_dup2 (pc := 61) hC dX3_takeHail_61 rfl rfl ?_
        refine y_iald (pc := 62) hC 4 (j := j1) dX3_takeHail_62 (((yi j1 (takeS pl hp hl) (vi, lt, la)).2.2) j1) rfl (by omega) rfl rfl ?_
        refine y_iload (pc := 63) hC 0 dX3_takeHail_63 rfl ?_
        refine y_iadd (pc := 65) hC dX3_takeHail_65 ((((yi j1 (takeS pl hp hl) (vi, lt, la)).2.2) j1) + (mn (2 * hl) (((yi j1 (takeS pl hp hl) (vi, lt, la)).1) j1))) rfl ?_
        refine y_iast (pc := 66) hC 4 (j := j1) dX3_takeHail_66 (upd ((yi j1 (takeS pl hp hl) (vi, lt, la)).2.2) j1 ((((yi j1 (takeS pl hp hl) (vi, lt, la)).2.2) j1) + (mn (2 * hl) (((yi j1 (takeS pl hp hl) (vi, lt, la)).1) j1)))) [(a0, .inr (3, [.ref a1, .ref a2, .ref a3, .ref a4, .ref a5, .ref a6, .ref a7, .int (nI n)])), (a1, aI d 10 pl), (a2, aI d 10 (upd ((yi j1 (takeS pl hp hl) (vi, lt, la)).1) j1 ((((yi j1 (takeS pl hp hl) (vi, lt, la)).1) j1) - (mn (2 * hl) (((yi j1 (takeS pl hp hl) (vi, lt, la)).1) j1))))), (a5, aI d 10 (upd ((yi j1 (takeS pl hp hl) (vi, lt, la)).2.1) j1 ((((yi j1 (takeS pl hp hl) (vi, lt, la)).2.1) j1) + (mn (2 * hl) (((yi j1 (takeS pl hp hl) (vi, lt, la)).1) j1))))), (a7, aI d 10 (upd ((yi j1 (takeS pl hp hl) (vi, lt, la)).2.2) j1 ((((yi j1 (takeS pl hp hl) (vi, lt, la)).2.2) j1) + (mn (2 * hl) (((yi j1 (takeS pl hp hl) (vi, lt, la)).1) j1)))))] rfl (by omega) rfl rfl rfl ?_
        refine y_iinc (pc := 67) hC 1 dX3_takeHail_67 (nI (j1 + 1)) [(3, .int (nI (j1 + 1))), (4, .int (mn (2 * hl) (((yi j1 (takeS pl hp hl) (vi, lt, la)).1) j1))), (0, .ref a0), (1, .int hp), (2, .int hl)] rfl (nI_inc _) rfl (by decide) ?_
        refine y_goto (pc := 70) hC dX3_takeHail_70 2 (by decide) ?_
        refine y_lv [(3, .int (nI (j1 + 1))), (0, .ref a0), (1, .int hp), (2, .int hl)] [0, 2, 3, 4] rfl ?_
        refine y_ws [(a0, .inr (3, [.ref a1, .ref a2, .ref a3, .ref a4, .ref a5, .ref a6, .ref a7, .int (nI n)])), (a1, aI d 10 pl), (a2, aI d 10 ((yi (j1 + 1) (takeS pl hp hl) (vi, lt, la)).1)), (a5, aI d 10 ((yi (j1 + 1) (takeS pl hp hl) (vi, lt, la)).2.1)), (a7, aI d 10 ((yi (j1 + 1) (takeS pl hp hl) (vi, lt, la)).2.2))] (by simp only [yi, takeS, c_2, ↓reduceIte, cond_true, cond_false]) ?_
        exact ihj1 (j1 + 1) (by omega)
  refine y_lv [(3, .int 0), (0, .ref a0), (1, .int hp), (2, .int hl)] [0, 1, 2, 3] rfl ?_
  exact lpj1 n 0 (by omega)
theorem n_X3_takeHail : yyN yX3_takeHail RX3 2 := by refine ⟨rfl, ?_, ?_, ?_⟩ <;> decide +kernel
set_option maxHeartbeats 4000000 in
set_option maxRecDepth 100000 in
/-- the day ends -/
theorem c_X3_closeDay (l : Launch) (d : yyD) (a0 : Nat) (a1 : Nat) (a2 : Nat) (a3 : Nat) (a4 : Nat) (a5 : Nat) (a6 : Nat) (a7 : Nat) (vi : fI) (ins : fB) (lt : fI) (su : fI) (n : Nat) (hn : n ≤ 10) : yyI l yX3_closeDay cX3_closeDay 3 (some .int) { frames := 0, cells := 0, slots := 0, locals := 0 } d [.ref a0] [(a0, .inr (3, [.ref a1, .ref a2, .ref a3, .ref a4, .ref a5, .ref a6, .ref a7, .int (nI n)])), (a2, aI d 10 vi), (a4, aZ d 10 ins), (a5, aI d 10 lt), (a6, aI d 10 su)] [(a0, .inr (3, [.ref a1, .ref a2, .ref a3, .ref a4, .ref a5, .ref a6, .ref a7, .int (nI n)])), (a2, aI d 10 ((closeF ins n (0, vi, lt, su)).2.1)), (a4, aZ d 10 ins), (a5, aI d 10 ((closeF ins n (0, vi, lt, su)).2.2.1)), (a6, aI d 10 ((closeF ins n (0, vi, lt, su)).2.2.2))] ((closeF ins n (0, vi, lt, su)).1) := by
  refine yyI_of (own := RX3) [(0, .ref a0)] (by decide +kernel) rfl (Nat.le_of_ble_eq_true rfl) rfl ?_
  intro G Q hQ hGL hC hGA
  refine y_iconst (pc := 0) hC dX3_closeDay_0 0 (by decide) ?_
  refine y_istore_n (pc := 1) hC dX3_closeDay_1 [(1, .int 0), (0, .ref a0)] rfl (by decide) ?_
  refine y_iconst (pc := 2) hC dX3_closeDay_2 0 (by decide) ?_
  refine y_istore_n (pc := 3) hC dX3_closeDay_3 [(2, .int 0), (1, .int 0), (0, .ref a0)] rfl (by decide) ?_
  have lpj1 : ∀ r1 j1 : Nat, j1 + r1 = n → yyW d G 0 0 Q [(a0, .inr (3, [.ref a1, .ref a2, .ref a3, .ref a4, .ref a5, .ref a6, .ref a7, .int (nI n)])), (a2, aI d 10 ((yi j1 (closeS ins) (0, vi, lt, su)).2.1)), (a4, aZ d 10 ins), (a5, aI d 10 ((yi j1 (closeS ins) (0, vi, lt, su)).2.2.1)), (a6, aI d 10 ((yi j1 (closeS ins) (0, vi, lt, su)).2.2.2))] [(2, .int (nI j1)), (1, .int ((yi j1 (closeS ins) (0, vi, lt, su)).1)), (0, .ref a0)] 4 [] := by
    intro r1
    induction r1 with
    | zero =>
      intro j1 hj1
      have ej1 : j1 = n := by omega
      rw [ej1]
      refine y_iload_n (pc := 4) hC 0 dX3_closeDay_4 rfl ?_
      refine y_aload_n (pc := 5) hC 2 dX3_closeDay_5 rfl ?_
      refine y_get (pc := 6) hC 0 7 dX3_closeDay_6 rfl rfl inX3 (by decide) kw_1_44 rfl rfl ?_
      refine y_ge_t (pc := 9) (a := n) (b := n) hC dX3_closeDay_9 94 (by decide) (by omega) (by omega) ?_
      refine y_iload_n (pc := 94) hC 1 dX3_closeDay_94 rfl ?_
      exact y_iret hC hQ rfl rfl rfl (nb rfl) (nb rfl) dX3_closeDay_95
    | succ r1 ihj1 =>
      intro j1 hj1
      have lj1 : j1 < n := by omega
      refine y_iload_n (pc := 4) hC 0 dX3_closeDay_4 rfl ?_
      refine y_aload_n (pc := 5) hC 2 dX3_closeDay_5 rfl ?_
      refine y_get (pc := 6) hC 0 7 dX3_closeDay_6 rfl rfl inX3 (by decide) kw_1_44 rfl rfl ?_
      refine y_ge_f (pc := 9) (a := j1) (b := n) hC dX3_closeDay_9 94 (by decide) (by omega) (by omega) ?_
      refine y_aload_n (pc := 12) hC 2 dX3_closeDay_12 rfl ?_
      refine y_get (pc := 13) hC 0 3 dX3_closeDay_13 rfl rfl inX3 (by decide) kw_1_39 rfl rfl ?_
      refine y_iload_n (pc := 16) hC 0 dX3_closeDay_16 rfl ?_
      refine y_zald (pc := 17) hC 2 (j := j1) dX3_closeDay_17 (bI (ins j1)) rfl (by omega) rfl rfl ?_
      refine y_beq (pc := 18) hC dX3_closeDay_18 34 (by decide) (fun c_2 => ?_) (fun c_2 => ?_)
      · refine y_iload_n (pc := 34) hC 1 dX3_closeDay_34 rfl ?_
        refine y_aload_n (pc := 35) hC 2 dX3_closeDay_35 rfl ?_
        refine y_get (pc := 36) hC 0 5 dX3_closeDay_36 rfl rfl inX3 (by decide) kw_1_41 rfl rfl ?_
        refine y_iload_n (pc := 39) hC 0 dX3_closeDay_39 rfl ?_
        refine y_iald (pc := 40) hC 4 (j := j1) dX3_closeDay_40 (((yi j1 (closeS ins) (0, vi, lt, su)).2.2.2) j1) rfl (by omega) rfl rfl ?_
        refine y_isub (pc := 41) hC dX3_closeDay_41 (((yi j1 (closeS ins) (0, vi, lt, su)).1) - (((yi j1 (closeS ins) (0, vi, lt, su)).2.2.2) j1)) rfl ?_
        refine y_istore_n (pc := 42) hC dX3_closeDay_42 [(1, .int (((yi j1 (closeS ins) (0, vi, lt, su)).1) - (((yi j1 (closeS ins) (0, vi, lt, su)).2.2.2) j1))), (2, .int (nI j1)), (0, .ref a0)] rfl (by decide) ?_
        refine y_aload_n (pc := 43) hC 2 dX3_closeDay_43 rfl ?_
        refine y_get (pc := 44) hC 0 4 dX3_closeDay_44 rfl rfl inX3 (by decide) kw_1_40 rfl rfl ?_
        refine y_iload_n (pc := 47) hC 1 dX3_closeDay_47 rfl ?_
        refine y_iconst (pc := 48) hC dX3_closeDay_48 0 (by decide) ?_
        refine y_iast (pc := 49) hC 3 (j := j1) dX3_closeDay_49 (upd ((yi j1 (closeS ins) (0, vi, lt, su)).2.2.1) j1 0) [(a0, .inr (3, [.ref a1, .ref a2, .ref a3, .ref a4, .ref a5, .ref a6, .ref a7, .int (nI n)])), (a2, aI d 10 ((yi j1 (closeS ins) (0, vi, lt, su)).2.1)), (a4, aZ d 10 ins), (a5, aI d 10 (upd ((yi j1 (closeS ins) (0, vi, lt, su)).2.2.1) j1 0)), (a6, aI d 10 ((yi j1 (closeS ins) (0, vi, lt, su)).2.2.2))] rfl (by omega) rfl rfl rfl ?_
        refine y_aload_n (pc := 50) hC 2 dX3_closeDay_50 rfl ?_
        refine y_get (pc := 51) hC 0 5 dX3_closeDay_51 rfl rfl inX3 (by decide) kw_1_41 rfl rfl ?_
        refine y_iload_n (pc := 54) hC 1 dX3_closeDay_54 rfl ?_
        refine y_iconst (pc := 55) hC dX3_closeDay_55 0 (by decide) ?_
        refine y_iast (pc := 56) hC 4 (j := j1) dX3_closeDay_56 (upd ((yi j1 (closeS ins) (0, vi, lt, su)).2.2.2) j1 0) [(a0, .inr (3, [.ref a1, .ref a2, .ref a3, .ref a4, .ref a5, .ref a6, .ref a7, .int (nI n)])), (a2, aI d 10 ((yi j1 (closeS ins) (0, vi, lt, su)).2.1)), (a4, aZ d 10 ins), (a5, aI d 10 (upd ((yi j1 (closeS ins) (0, vi, lt, su)).2.2.1) j1 0)), (a6, aI d 10 (upd ((yi j1 (closeS ins) (0, vi, lt, su)).2.2.2) j1 0))] rfl (by omega) rfl rfl rfl ?_
        refine y_aload_n (pc := 57) hC 2 dX3_closeDay_57 rfl ?_
        refine y_get (pc := 58) hC 0 1 dX3_closeDay_58 rfl rfl inX3 (by decide) kw_1_37 rfl rfl ?_
        refine y_iload_n (pc := 61) hC 1 dX3_closeDay_61 rfl ?_
        refine y_iald (pc := 62) hC 1 (j := j1) dX3_closeDay_62 (((yi j1 (closeS ins) (0, vi, lt, su)).2.1) j1) rfl (by omega) rfl rfl ?_
        refine y_iconst (pc := 63) hC dX3_closeDay_63 1 (by decide) ?_
        refine y_cmp_lt (pc := 64) hC dX3_closeDay_64 88 (by decide) (fun c_3 => ?_) (fun c_3 => ?_)
        · refine y_iinc (pc := 88) hC 1 dX3_closeDay_88 (nI (j1 + 1)) [(2, .int (nI (j1 + 1))), (1, .int (((yi j1 (closeS ins) (0, vi, lt, su)).1) - (((yi j1 (closeS ins) (0, vi, lt, su)).2.2.2) j1))), (0, .ref a0)] rfl (nI_inc _) rfl (by decide) ?_
          refine y_goto (pc := 91) hC dX3_closeDay_91 4 (by decide) ?_
          refine y_ws [(a0, .inr (3, [.ref a1, .ref a2, .ref a3, .ref a4, .ref a5, .ref a6, .ref a7, .int (nI n)])), (a2, aI d 10 ((yi (j1 + 1) (closeS ins) (0, vi, lt, su)).2.1)), (a4, aZ d 10 ins), (a5, aI d 10 ((yi (j1 + 1) (closeS ins) (0, vi, lt, su)).2.2.1)), (a6, aI d 10 ((yi (j1 + 1) (closeS ins) (0, vi, lt, su)).2.2.2))] (by simp only [yi, closeS, c_2, c_3, ↓reduceIte, cond_true, cond_false]) ?_
          refine y_lve [(2, .int (nI (j1 + 1))), (1, .int ((yi (j1 + 1) (closeS ins) (0, vi, lt, su)).1)), (0, .ref a0)] (by simp only [yi, closeS, c_2, c_3, ↓reduceIte, cond_true, cond_false]) ?_
          exact ihj1 (j1 + 1) (by omega)
        · refine y_aload_n (pc := 67) hC 2 dX3_closeDay_67 rfl ?_
          refine y_get (pc := 68) hC 0 1 dX3_closeDay_68 rfl rfl inX3 (by decide) kw_1_37 rfl rfl ?_
          refine y_iload_n (pc := 71) hC 1 dX3_closeDay_71 rfl ?_
          refine y_iald (pc := 72) hC 1 (j := j1) dX3_closeDay_72 (((yi j1 (closeS ins) (0, vi, lt, su)).2.1) j1) rfl (by omega) rfl rfl ?_
          refine y_bipush (pc := 73) hC dX3_closeDay_73 99 (by decide) ?_
          refine y_cmp_ge (pc := 75) hC dX3_closeDay_75 88 (by decide) (fun c_4 => ?_) (fun c_4 => ?_)
          · refine y_iinc (pc := 88) hC 1 dX3_closeDay_88 (nI (j1 + 1)) [(2, .int (nI (j1 + 1))), (1, .int (((yi j1 (closeS ins) (0, vi, lt, su)).1) - (((yi j1 (closeS ins) (0, vi, lt, su)).2.2.2) j1))), (0, .ref a0)] rfl (nI_inc _) rfl (by decide) ?_
            refine y_goto (pc := 91) hC dX3_closeDay_91 4 (by decide) ?_
            refine y_ws [(a0, .inr (3, [.ref a1, .ref a2, .ref a3, .ref a4, .ref a5, .ref a6, .ref a7, .int (nI n)])), (a2, aI d 10 ((yi (j1 + 1) (closeS ins) (0, vi, lt, su)).2.1)), (a4, aZ d 10 ins), (a5, aI d 10 ((yi (j1 + 1) (closeS ins) (0, vi, lt, su)).2.2.1)), (a6, aI d 10 ((yi (j1 + 1) (closeS ins) (0, vi, lt, su)).2.2.2))] (by simp only [yi, closeS, c_2, c_3, c_4, ↓reduceIte, cond_true, cond_false]) ?_
            refine y_lve [(2, .int (nI (j1 + 1))), (1, .int ((yi (j1 + 1) (closeS ins) (0, vi, lt, su)).1)), (0, .ref a0)] (by simp only [yi, closeS, c_2, c_3, c_4, ↓reduceIte, cond_true, cond_false]) ?_
            exact ihj1 (j1 + 1) (by omega)
          · refine y_aload_n (pc := 78) hC 2 dX3_closeDay_78 rfl ?_
            refine y_get (pc := 79) hC 0 1 dX3_closeDay_79 rfl rfl inX3 (by decide) kw_1_37 rfl rfl ?_
            refine y_iload_n (pc := 82) hC 1 dX3_closeDay_82 rfl ?_
            refine y_dup2 (pc := 83) hC dX3_closeDay_83 rfl rfl ?_
            refine y_iald (pc := 84) hC 1 (j := j1) dX3_closeDay_84 (((yi j1 (closeS ins) (0, vi, lt, su)).2.1) j1) rfl (by omega) rfl rfl ?_
            refine y_iconst (pc := 85) hC dX3_closeDay_85 1 (by decide) ?_
            refine y_iadd (pc := 86) hC dX3_closeDay_86 ((((yi j1 (closeS ins) (0, vi, lt, su)).2.1) j1) + 1) rfl ?_
            refine y_iast (pc := 87) hC 1 (j := j1) dX3_closeDay_87 (upd ((yi j1 (closeS ins) (0, vi, lt, su)).2.1) j1 ((((yi j1 (closeS ins) (0, vi, lt, su)).2.1) j1) + 1)) [(a0, .inr (3, [.ref a1, .ref a2, .ref a3, .ref a4, .ref a5, .ref a6, .ref a7, .int (nI n)])), (a2, aI d 10 (upd ((yi j1 (closeS ins) (0, vi, lt, su)).2.1) j1 ((((yi j1 (closeS ins) (0, vi, lt, su)).2.1) j1) + 1))), (a4, aZ d 10 ins), (a5, aI d 10 (upd ((yi j1 (closeS ins) (0, vi, lt, su)).2.2.1) j1 0)), (a6, aI d 10 (upd ((yi j1 (closeS ins) (0, vi, lt, su)).2.2.2) j1 0))] rfl (by omega) rfl rfl rfl ?_
            refine y_iinc (pc := 88) hC 1 dX3_closeDay_88 (nI (j1 + 1)) [(2, .int (nI (j1 + 1))), (1, .int (((yi j1 (closeS ins) (0, vi, lt, su)).1) - (((yi j1 (closeS ins) (0, vi, lt, su)).2.2.2) j1))), (0, .ref a0)] rfl (nI_inc _) rfl (by decide) ?_
            refine y_goto (pc := 91) hC dX3_closeDay_91 4 (by decide) ?_
            refine y_ws [(a0, .inr (3, [.ref a1, .ref a2, .ref a3, .ref a4, .ref a5, .ref a6, .ref a7, .int (nI n)])), (a2, aI d 10 ((yi (j1 + 1) (closeS ins) (0, vi, lt, su)).2.1)), (a4, aZ d 10 ins), (a5, aI d 10 ((yi (j1 + 1) (closeS ins) (0, vi, lt, su)).2.2.1)), (a6, aI d 10 ((yi (j1 + 1) (closeS ins) (0, vi, lt, su)).2.2.2))] (by simp only [yi, closeS, c_2, c_3, c_4, ↓reduceIte, cond_true, cond_false]) ?_
            refine y_lve [(2, .int (nI (j1 + 1))), (1, .int ((yi (j1 + 1) (closeS ins) (0, vi, lt, su)).1)), (0, .ref a0)] (by simp only [yi, closeS, c_2, c_3, c_4, ↓reduceIte, cond_true, cond_false]) ?_
            exact ihj1 (j1 + 1) (by omega)
      · refine y_iload_n (pc := 21) hC 1 dX3_closeDay_21 rfl ?_
        refine y_iconst (pc := 22) hC dX3_closeDay_22 1 (by decide) ?_
        refine y_aload_n (pc := 23) hC 2 dX3_closeDay_23 rfl ?_
        refine y_get (pc := 24) hC 0 4 dX3_closeDay_24 rfl rfl inX3 (by decide) kw_1_40 rfl rfl ?_
        refine y_iload_n (pc := 27) hC 0 dX3_closeDay_27 rfl ?_
        refine y_iald (pc := 28) hC 3 (j := j1) dX3_closeDay_28 (((yi j1 (closeS ins) (0, vi, lt, su)).2.2.1) j1) rfl (by omega) rfl rfl ?_
        refine y_iconst (pc := 29) hC dX3_closeDay_29 2 (by decide) ?_
        refine y_idiv (pc := 30) hC dX3_closeDay_30 ((((yi j1 (closeS ins) (0, vi, lt, su)).2.2.1) j1) / 2) rfl (by decide) ?_
        refine y_isub (pc := 31) hC dX3_closeDay_31 (1 - ((((yi j1 (closeS ins) (0, vi, lt, su)).2.2.1) j1) / 2)) rfl ?_
        refine y_iadd (pc := 32) hC dX3_closeDay_32 (((yi j1 (closeS ins) (0, vi, lt, su)).1) + (1 - ((((yi j1 (closeS ins) (0, vi, lt, su)).2.2.1) j1) / 2))) rfl ?_
        refine y_istore_n (pc := 33) hC dX3_closeDay_33 [(1, .int (((yi j1 (closeS ins) (0, vi, lt, su)).1) + (1 - ((((yi j1 (closeS ins) (0, vi, lt, su)).2.2.1) j1) / 2)))), (2, .int (nI j1)), (0, .ref a0)] rfl (by decide) ?_
        refine y_iload_n (pc := 34) hC 0 dX3_closeDay_34 rfl ?_
        refine y_aload_n (pc := 35) hC 2 dX3_closeDay_35 rfl ?_
        refine y_get (pc := 36) hC 0 5 dX3_closeDay_36 rfl rfl inX3 (by decide) kw_1_41 rfl rfl ?_
        refine y_iload_n (pc := 39) hC 1 dX3_closeDay_39 rfl ?_
        refine y_iald (pc := 40) hC 4 (j := j1) dX3_closeDay_40 (((yi j1 (closeS ins) (0, vi, lt, su)).2.2.2) j1) rfl (by omega) rfl rfl ?_
        refine y_isub (pc := 41) hC dX3_closeDay_41 ((((yi j1 (closeS ins) (0, vi, lt, su)).1) + (1 - ((((yi j1 (closeS ins) (0, vi, lt, su)).2.2.1) j1) / 2))) - (((yi j1 (closeS ins) (0, vi, lt, su)).2.2.2) j1)) rfl ?_
        refine y_istore_n (pc := 42) hC dX3_closeDay_42 [(1, .int ((((yi j1 (closeS ins) (0, vi, lt, su)).1) + (1 - ((((yi j1 (closeS ins) (0, vi, lt, su)).2.2.1) j1) / 2))) - (((yi j1 (closeS ins) (0, vi, lt, su)).2.2.2) j1))), (2, .int (nI j1)), (0, .ref a0)] rfl (by decide) ?_
        refine y_aload_n (pc := 43) hC 2 dX3_closeDay_43 rfl ?_
        refine y_get (pc := 44) hC 0 4 dX3_closeDay_44 rfl rfl inX3 (by decide) kw_1_40 rfl rfl ?_
        refine y_iload_n (pc := 47) hC 1 dX3_closeDay_47 rfl ?_
        refine y_iconst (pc := 48) hC dX3_closeDay_48 0 (by decide) ?_
        refine y_iast (pc := 49) hC 3 (j := j1) dX3_closeDay_49 (upd ((yi j1 (closeS ins) (0, vi, lt, su)).2.2.1) j1 0) [(a0, .inr (3, [.ref a1, .ref a2, .ref a3, .ref a4, .ref a5, .ref a6, .ref a7, .int (nI n)])), (a2, aI d 10 ((yi j1 (closeS ins) (0, vi, lt, su)).2.1)), (a4, aZ d 10 ins), (a5, aI d 10 (upd ((yi j1 (closeS ins) (0, vi, lt, su)).2.2.1) j1 0)), (a6, aI d 10 ((yi j1 (closeS ins) (0, vi, lt, su)).2.2.2))] rfl (by omega) rfl rfl rfl ?_
        refine y_aload_n (pc := 50) hC 2 dX3_closeDay_50 rfl ?_
        refine y_get (pc := 51) hC 0 5 dX3_closeDay_51 rfl rfl inX3 (by decide) kw_1_41 rfl rfl ?_
        refine y_iload_n (pc := 54) hC 1 dX3_closeDay_54 rfl ?_
        refine y_iconst (pc := 55) hC dX3_closeDay_55 0 (by decide) ?_
        refine y_iast (pc := 56) hC 4 (j := j1) dX3_closeDay_56 (upd ((yi j1 (closeS ins) (0, vi, lt, su)).2.2.2) j1 0) [(a0, .inr (3, [.ref a1, .ref a2, .ref a3, .ref a4, .ref a5, .ref a6, .ref a7, .int (nI n)])), (a2, aI d 10 ((yi j1 (closeS ins) (0, vi, lt, su)).2.1)), (a4, aZ d 10 ins), (a5, aI d 10 (upd ((yi j1 (closeS ins) (0, vi, lt, su)).2.2.1) j1 0)), (a6, aI d 10 (upd ((yi j1 (closeS ins) (0, vi, lt, su)).2.2.2) j1 0))] rfl (by omega) rfl rfl rfl ?_
        refine y_aload_n (pc := 57) hC 2 dX3_closeDay_57 rfl ?_
        refine y_get (pc := 58) hC 0 1 dX3_closeDay_58 rfl rfl inX3 (by decide) kw_1_37 rfl rfl ?_
        refine y_iload_n (pc := 61) hC 1 dX3_closeDay_61 rfl ?_
        refine y_iald (pc := 62) hC 1 (j := j1) dX3_closeDay_62 (((yi j1 (closeS ins) (0, vi, lt, su)).2.1) j1) rfl (by omega) rfl rfl ?_
        refine y_iconst (pc := 63) hC dX3_closeDay_63 1 (by decide) ?_
        refine y_cmp_lt (pc := 64) hC dX3_closeDay_64 88 (by decide) (fun c_5 => ?_) (fun c_5 => ?_)
        · refine y_iinc (pc := 88) hC 1 dX3_closeDay_88 (nI (j1 + 1)) [(2, .int (nI (j1 + 1))), (1, .int ((((yi j1 (closeS ins) (0, vi, lt, su)).1) + (1 - ((((yi j1 (closeS ins) (0, vi, lt, su)).2.2.1) j1) / 2))) - (((yi j1 (closeS ins) (0, vi, lt, su)).2.2.2) j1))), (0, .ref a0)] rfl (nI_inc _) rfl (by decide) ?_
          refine y_goto (pc := 91) hC dX3_closeDay_91 4 (by decide) ?_
          refine y_ws [(a0, .inr (3, [.ref a1, .ref a2, .ref a3, .ref a4, .ref a5, .ref a6, .ref a7, .int (nI n)])), (a2, aI d 10 ((yi (j1 + 1) (closeS ins) (0, vi, lt, su)).2.1)), (a4, aZ d 10 ins), (a5, aI d 10 ((yi (j1 + 1) (closeS ins) (0, vi, lt, su)).2.2.1)), (a6, aI d 10 ((yi (j1 + 1) (closeS ins) (0, vi, lt, su)).2.2.2))] (by simp only [yi, closeS, c_2, c_5, ↓reduceIte, cond_true, cond_false]) ?_
          refine y_lve [(2, .int (nI (j1 + 1))), (1, .int ((yi (j1 + 1) (closeS ins) (0, vi, lt, su)).1)), (0, .ref a0)] (by simp only [yi, closeS, c_2, c_5, ↓reduceIte, cond_true, cond_false]) ?_
          exact ihj1 (j1 + 1) (by omega)
        · refine y_aload_n (pc := 67) hC 2 dX3_closeDay_67 rfl ?_
          refine y_get (pc := 68) hC 0 1 dX3_closeDay_68 rfl rfl inX3 (by decide) kw_1_37 rfl rfl ?_
          refine y_iload_n (pc := 71) hC 1 dX3_closeDay_71 rfl ?_
          refine y_iald (pc := 72) hC 1 (j := j1) dX3_closeDay_72 (((yi j1 (closeS ins) (0, vi, lt, su)).2.1) j1) rfl (by omega) rfl rfl ?_
          refine y_bipush (pc := 73) hC dX3_closeDay_73 99 (by decide) ?_
          refine y_cmp_ge (pc := 75) hC dX3_closeDay_75 88 (by decide) (fun c_6 => ?_) (fun c_6 => ?_)
          · refine y_iinc (pc := 88) hC 1 dX3_closeDay_88 (nI (j1 + 1)) [(2, .int (nI (j1 + 1))), (1, .int ((((yi j1 (closeS ins) (0, vi, lt, su)).1) + (1 - ((((yi j1 (closeS ins) (0, vi, lt, su)).2.2.1) j1) / 2))) - (((yi j1 (closeS ins) (0, vi, lt, su)).2.2.2) j1))), (0, .ref a0)] rfl (nI_inc _) rfl (by decide) ?_
            refine y_goto (pc := 91) hC dX3_closeDay_91 4 (by decide) ?_
            refine y_ws [(a0, .inr (3, [.ref a1, .ref a2, .ref a3, .ref a4, .ref a5, .ref a6, .ref a7, .int (nI n)])), (a2, aI d 10 ((yi (j1 + 1) (closeS ins) (0, vi, lt, su)).2.1)), (a4, aZ d 10 ins), (a5, aI d 10 ((yi (j1 + 1) (closeS ins) (0, vi, lt, su)).2.2.1)), (a6, aI d 10 ((yi (j1 + 1) (closeS ins) (0, vi, lt, su)).2.2.2))] (by simp only [yi, closeS, c_2, c_5, c_6, ↓reduceIte, cond_true, cond_false]) ?_
            refine y_lve [(2, .int (nI (j1 + 1))), (1, .int ((yi (j1 + 1) (closeS ins) (0, vi, lt, su)).1)), (0, .ref a0)] (by simp only [yi, closeS, c_2, c_5, c_6, ↓reduceIte, cond_true, cond_false]) ?_
            exact ihj1 (j1 + 1) (by omega)
          · refine y_aload_n (pc := 78) hC 2 dX3_closeDay_78 rfl ?_
            refine y_get (pc := 79) hC 0 1 dX3_closeDay_79 rfl rfl inX3 (by decide) kw_1_37 rfl rfl ?_
            refine y_iload_n (pc := 82) hC 1 dX3_closeDay_82 rfl ?_
            refine y_dup2 (pc := 83) hC dX3_closeDay_83 rfl rfl ?_
            refine y_iald (pc := 84) hC 1 (j := j1) dX3_closeDay_84 (((yi j1 (closeS ins) (0, vi, lt, su)).2.1) j1) rfl (by omega) rfl rfl ?_
            refine y_iconst (pc := 85) hC dX3_closeDay_85 1 (by decide) ?_
            refine y_iadd (pc := 86) hC dX3_closeDay_86 ((((yi j1 (closeS ins) (0, vi, lt, su)).2.1) j1) + 1) rfl ?_
            refine y_iast (pc := 87) hC 1 (j := j1) dX3_closeDay_87 (upd ((yi j1 (closeS ins) (0, vi, lt, su)).2.1) j1 ((((yi j1 (closeS ins) (0, vi, lt, su)).2.1) j1) + 1)) [(a0, .inr (3, [.ref a1, .ref a2, .ref a3, .ref a4, .ref a5, .ref a6, .ref a7, .int (nI n)])), (a2, aI d 10 (upd ((yi j1 (closeS ins) (0, vi, lt, su)).2.1) j1 ((((yi j1 (closeS ins) (0, vi, lt, su)).2.1) j1) + 1))), (a4, aZ d 10 ins), (a5, aI d 10 (upd ((yi j1 (closeS ins) (0, vi, lt, su)).2.2.1) j1 0)), (a6, aI d 10 (upd ((yi j1 (closeS ins) (0, vi, lt, su)).2.2.2) j1 0))] rfl (by omega) rfl rfl rfl ?_
            refine y_iinc (pc := 88) hC 1 dX3_closeDay_88 (nI (j1 + 1)) [(2, .int (nI (j1 + 1))), (1, .int ((((yi j1 (closeS ins) (0, vi, lt, su)).1) + (1 - ((((yi j1 (closeS ins) (0, vi, lt, su)).2.2.1) j1) / 2))) - (((yi j1 (closeS ins) (0, vi, lt, su)).2.2.2) j1))), (0, .ref a0)] rfl (nI_inc _) rfl (by decide) ?_
            refine y_goto (pc := 91) hC dX3_closeDay_91 4 (by decide) ?_
            refine y_ws [(a0, .inr (3, [.ref a1, .ref a2, .ref a3, .ref a4, .ref a5, .ref a6, .ref a7, .int (nI n)])), (a2, aI d 10 ((yi (j1 + 1) (closeS ins) (0, vi, lt, su)).2.1)), (a4, aZ d 10 ins), (a5, aI d 10 ((yi (j1 + 1) (closeS ins) (0, vi, lt, su)).2.2.1)), (a6, aI d 10 ((yi (j1 + 1) (closeS ins) (0, vi, lt, su)).2.2.2))] (by simp only [yi, closeS, c_2, c_5, c_6, ↓reduceIte, cond_true, cond_false]) ?_
            refine y_lve [(2, .int (nI (j1 + 1))), (1, .int ((yi (j1 + 1) (closeS ins) (0, vi, lt, su)).1)), (0, .ref a0)] (by simp only [yi, closeS, c_2, c_5, c_6, ↓reduceIte, cond_true, cond_false]) ?_
            exact ihj1 (j1 + 1) (by omega)
  refine y_lv [(2, .int 0), (1, .int 0), (0, .ref a0)] [0, 1, 2] rfl ?_
  exact lpj1 n 0 (by omega)
theorem n_X3_closeDay : yyN yX3_closeDay RX3 0 := by refine ⟨rfl, ?_, ?_, ?_⟩ <;> decide +kernel
set_option maxHeartbeats 4000000 in
set_option maxRecDepth 100000 in
theorem c_X3_sum (l : Launch) (d : yyD) (a0 : Nat) (a1 : Nat) (a2 : Nat) (a3 : Nat) (a4 : Nat) (a5 : Nat) (a6 : Nat) (a7 : Nat) (b : Nat) (f : fI) (n : Nat) (hn : n ≤ 10) : yyI l yX3_sum cX3_sum 4 (some .int) { frames := 0, cells := 0, slots := 0, locals := 0 } d [.ref a0, .ref b] [(a0, .inr (3, [.ref a1, .ref a2, .ref a3, .ref a4, .ref a5, .ref a6, .ref a7, .int (nI n)])), (b, aI d 10 f)] [(a0, .inr (3, [.ref a1, .ref a2, .ref a3, .ref a4, .ref a5, .ref a6, .ref a7, .int (nI n)])), (b, aI d 10 f)] (sumF f n) := by
  refine yyI_of (own := RX3) [(0, .ref a0), (1, .ref b)] (by decide +kernel) rfl (Nat.le_of_ble_eq_true rfl) rfl ?_
  intro G Q hQ hGL hC hGA
  refine y_iconst (pc := 0) hC dX3_sum_0 0 (by decide) ?_
  refine y_istore_n (pc := 1) hC dX3_sum_1 [(2, .int 0), (0, .ref a0), (1, .ref b)] rfl (by decide) ?_
  refine y_iconst (pc := 2) hC dX3_sum_2 0 (by decide) ?_
  refine y_istore_n (pc := 3) hC dX3_sum_3 [(3, .int 0), (2, .int 0), (0, .ref a0), (1, .ref b)] rfl (by decide) ?_
  have lpj1 : ∀ r1 j1 : Nat, j1 + r1 = n → yyW d G 0 0 Q [(a0, .inr (3, [.ref a1, .ref a2, .ref a3, .ref a4, .ref a5, .ref a6, .ref a7, .int (nI n)])), (b, aI d 10 f)] [(3, .int (nI j1)), (2, .int (yi j1 (fun k a => a + f k) 0)), (0, .ref a0), (1, .ref b)] 4 [] := by
    intro r1
    induction r1 with
    | zero =>
      intro j1 hj1
      have ej1 : j1 = n := by omega
      rw [ej1]
      refine y_iload_n (pc := 4) hC 0 dX3_sum_4 rfl ?_
      refine y_aload_n (pc := 5) hC 2 dX3_sum_5 rfl ?_
      refine y_get (pc := 6) hC 0 7 dX3_sum_6 rfl rfl inX3 (by decide) kw_1_44 rfl rfl ?_
      refine y_ge_t (pc := 9) (a := n) (b := n) hC dX3_sum_9 24 (by decide) (by omega) (by omega) ?_
      refine y_iload_n (pc := 24) hC 1 dX3_sum_24 rfl ?_
      exact y_iret hC hQ rfl rfl rfl (nb rfl) (nb rfl) dX3_sum_25
    | succ r1 ihj1 =>
      intro j1 hj1
      have lj1 : j1 < n := by omega
      refine y_iload_n (pc := 4) hC 0 dX3_sum_4 rfl ?_
      refine y_aload_n (pc := 5) hC 2 dX3_sum_5 rfl ?_
      refine y_get (pc := 6) hC 0 7 dX3_sum_6 rfl rfl inX3 (by decide) kw_1_44 rfl rfl ?_
      refine y_ge_f (pc := 9) (a := j1) (b := n) hC dX3_sum_9 24 (by decide) (by omega) (by omega) ?_
      refine y_iload_n (pc := 12) hC 1 dX3_sum_12 rfl ?_
      refine y_aload_n (pc := 13) hC 3 dX3_sum_13 rfl ?_
      refine y_iload_n (pc := 14) hC 0 dX3_sum_14 rfl ?_
      refine y_iald (pc := 15) hC 1 (j := j1) dX3_sum_15 (f j1) rfl (by omega) rfl rfl ?_
      refine y_iadd (pc := 16) hC dX3_sum_16 ((yi j1 (fun k a => a + f k) 0) + (f j1)) rfl ?_
      refine y_istore_n (pc := 17) hC dX3_sum_17 [(2, .int ((yi j1 (fun k a => a + f k) 0) + (f j1))), (3, .int (nI j1)), (0, .ref a0), (1, .ref b)] rfl (by decide) ?_
      refine y_iinc (pc := 18) hC 1 dX3_sum_18 (nI (j1 + 1)) [(3, .int (nI (j1 + 1))), (2, .int ((yi j1 (fun k a => a + f k) 0) + (f j1))), (0, .ref a0), (1, .ref b)] rfl (nI_inc _) rfl (by decide) ?_
      refine y_goto (pc := 21) hC dX3_sum_21 4 (by decide) ?_
      refine y_ws [(a0, .inr (3, [.ref a1, .ref a2, .ref a3, .ref a4, .ref a5, .ref a6, .ref a7, .int (nI n)])), (b, aI d 10 f)] rfl ?_
      refine y_lve [(3, .int (nI (j1 + 1))), (2, .int (yi (j1 + 1) (fun k a => a + f k) 0)), (0, .ref a0), (1, .ref b)] (by simp only [yi, ↓reduceIte, cond_true, cond_false]) ?_
      exact ihj1 (j1 + 1) (by omega)
  refine y_lv [(3, .int 0), (2, .int 0), (0, .ref a0), (1, .ref b)] [0, 1, 2, 3] rfl ?_
  exact lpj1 n 0 (by omega)
theorem n_X3_sum : yyN yX3_sum RX3 1 := by refine ⟨rfl, ?_, ?_, ?_⟩ <;> decide +kernel
set_option maxHeartbeats 4000000 in
set_option maxRecDepth 100000 in
theorem c_X3_howManyAre (l : Launch) (d : yyD) (a0 : Nat) (a1 : Nat) (a2 : Nat) (a3 : Nat) (a4 : Nat) (a5 : Nat) (a6 : Nat) (a7 : Nat) (b : Nat) (f : fB) (n : Nat) (hn : n ≤ 10) : yyI l yX3_howManyAre cX3_howManyAre 4 (some .int) { frames := 0, cells := 0, slots := 0, locals := 0 } d [.ref a0, .ref b] [(a0, .inr (3, [.ref a1, .ref a2, .ref a3, .ref a4, .ref a5, .ref a6, .ref a7, .int (nI n)])), (b, aZ d 10 f)] [(a0, .inr (3, [.ref a1, .ref a2, .ref a3, .ref a4, .ref a5, .ref a6, .ref a7, .int (nI n)])), (b, aZ d 10 f)] (manyF f n) := by
  refine yyI_of (own := RX3) [(0, .ref a0), (1, .ref b)] (by decide +kernel) rfl (Nat.le_of_ble_eq_true rfl) rfl ?_
  intro G Q hQ hGL hC hGA
  refine y_iconst (pc := 0) hC dX3_howManyAre_0 0 (by decide) ?_
  refine y_istore_n (pc := 1) hC dX3_howManyAre_1 [(2, .int 0), (0, .ref a0), (1, .ref b)] rfl (by decide) ?_
  refine y_iconst (pc := 2) hC dX3_howManyAre_2 0 (by decide) ?_
  refine y_istore_n (pc := 3) hC dX3_howManyAre_3 [(3, .int 0), (2, .int 0), (0, .ref a0), (1, .ref b)] rfl (by decide) ?_
  have lpj1 : ∀ r1 j1 : Nat, j1 + r1 = n → yyW d G 0 0 Q [(a0, .inr (3, [.ref a1, .ref a2, .ref a3, .ref a4, .ref a5, .ref a6, .ref a7, .int (nI n)])), (b, aZ d 10 f)] [(3, .int (nI j1)), (2, .int (yi j1 (fun k a => cond (f k) (a + Int32.ofInt 1) a) 0)), (0, .ref a0), (1, .ref b)] 4 [] := by
    intro r1
    induction r1 with
    | zero =>
      intro j1 hj1
      have ej1 : j1 = n := by omega
      rw [ej1]
      refine y_iload_n (pc := 4) hC 0 dX3_howManyAre_4 rfl ?_
      refine y_aload_n (pc := 5) hC 2 dX3_howManyAre_5 rfl ?_
      refine y_get (pc := 6) hC 0 7 dX3_howManyAre_6 rfl rfl inX3 (by decide) kw_1_44 rfl rfl ?_
      refine y_ge_t (pc := 9) (a := n) (b := n) hC dX3_howManyAre_9 27 (by decide) (by omega) (by omega) ?_
      refine y_iload_n (pc := 27) hC 1 dX3_howManyAre_27 rfl ?_
      exact y_iret hC hQ rfl rfl rfl (nb rfl) (nb rfl) dX3_howManyAre_28
    | succ r1 ihj1 =>
      intro j1 hj1
      have lj1 : j1 < n := by omega
      refine y_iload_n (pc := 4) hC 0 dX3_howManyAre_4 rfl ?_
      refine y_aload_n (pc := 5) hC 2 dX3_howManyAre_5 rfl ?_
      refine y_get (pc := 6) hC 0 7 dX3_howManyAre_6 rfl rfl inX3 (by decide) kw_1_44 rfl rfl ?_
      refine y_ge_f (pc := 9) (a := j1) (b := n) hC dX3_howManyAre_9 27 (by decide) (by omega) (by omega) ?_
      refine y_aload_n (pc := 12) hC 3 dX3_howManyAre_12 rfl ?_
      refine y_iload_n (pc := 13) hC 0 dX3_howManyAre_13 rfl ?_
      refine y_zald (pc := 14) hC 1 (j := j1) dX3_howManyAre_14 (bI (f j1)) rfl (by omega) rfl rfl ?_
      refine y_beq (pc := 15) hC dX3_howManyAre_15 21 (by decide) (fun c_2 => ?_) (fun c_2 => ?_)
      · refine y_iinc (pc := 21) hC 0 dX3_howManyAre_21 (nI (j1 + 1)) [(3, .int (nI (j1 + 1))), (2, .int (yi j1 (fun k a => cond (f k) (a + Int32.ofInt 1) a) 0)), (0, .ref a0), (1, .ref b)] rfl (nI_inc _) rfl (by decide) ?_
        refine y_goto (pc := 24) hC dX3_howManyAre_24 4 (by decide) ?_
        refine y_ws [(a0, .inr (3, [.ref a1, .ref a2, .ref a3, .ref a4, .ref a5, .ref a6, .ref a7, .int (nI n)])), (b, aZ d 10 f)] rfl ?_
        refine y_lve [(3, .int (nI (j1 + 1))), (2, .int (yi (j1 + 1) (fun k a => cond (f k) (a + Int32.ofInt 1) a) 0)), (0, .ref a0), (1, .ref b)] (by simp only [yi, c_2, ↓reduceIte, cond_true, cond_false]) ?_
        exact ihj1 (j1 + 1) (by omega)
      · refine y_iinc (pc := 18) hC 1 dX3_howManyAre_18 (yi j1 (fun k a => cond (f k) (a + Int32.ofInt 1) a) 0 + Int32.ofInt 1) [(2, .int (yi j1 (fun k a => cond (f k) (a + Int32.ofInt 1) a) 0 + Int32.ofInt 1)), (3, .int (nI j1)), (0, .ref a0), (1, .ref b)] rfl rfl rfl (by decide) ?_
        refine y_iinc (pc := 21) hC 1 dX3_howManyAre_21 (nI (j1 + 1)) [(3, .int (nI (j1 + 1))), (2, .int (yi j1 (fun k a => cond (f k) (a + Int32.ofInt 1) a) 0 + Int32.ofInt 1)), (0, .ref a0), (1, .ref b)] rfl (nI_inc _) rfl (by decide) ?_
        refine y_goto (pc := 24) hC dX3_howManyAre_24 4 (by decide) ?_
        refine y_ws [(a0, .inr (3, [.ref a1, .ref a2, .ref a3, .ref a4, .ref a5, .ref a6, .ref a7, .int (nI n)])), (b, aZ d 10 f)] rfl ?_
        refine y_lve [(3, .int (nI (j1 + 1))), (2, .int (yi (j1 + 1) (fun k a => cond (f k) (a + Int32.ofInt 1) a) 0)), (0, .ref a0), (1, .ref b)] (by simp only [yi, c_2, ↓reduceIte, cond_true, cond_false]) ?_
        exact ihj1 (j1 + 1) (by omega)
  refine y_lv [(3, .int 0), (2, .int 0), (0, .ref a0), (1, .ref b)] [0, 1, 2, 3] rfl ?_
  exact lpj1 n 0 (by omega)
theorem n_X3_howManyAre : yyN yX3_howManyAre RX3 1 := by refine ⟨rfl, ?_, ?_, ?_⟩ <;> decide +kernel
set_option maxHeartbeats 4000000 in
set_option maxRecDepth 100000 in
theorem c_X3_sumOfVines (l : Launch) (d : yyD) (a0 : Nat) (a1 : Nat) (a2 : Nat) (a3 : Nat) (a4 : Nat) (a5 : Nat) (a6 : Nat) (a7 : Nat) (vi : fI) (n : Nat) (hn : n ≤ 10) : yyI l yX3_sumOfVines cX3_sumOfVines 1 (some .int) { frames := 1, cells := 0, slots := 0, locals := 23 } d [.ref a0] [(a0, .inr (3, [.ref a1, .ref a2, .ref a3, .ref a4, .ref a5, .ref a6, .ref a7, .int (nI n)])), (a2, aI d 10 vi)] [(a0, .inr (3, [.ref a1, .ref a2, .ref a3, .ref a4, .ref a5, .ref a6, .ref a7, .int (nI n)])), (a2, aI d 10 vi)] (sumF vi n) := by
  refine yyI_of (own := RX3) [(0, .ref a0)] (by decide +kernel) rfl (Nat.le_of_ble_eq_true rfl) rfl ?_
  intro G Q hQ hGL hC hGA
  refine y_aload_n (pc := 0) hC 0 dX3_sumOfVines_0 rfl ?_
  refine y_aload_n (pc := 1) hC 0 dX3_sumOfVines_1 rfl ?_
  refine y_get (pc := 2) hC 0 1 dX3_sumOfVines_2 rfl rfl inX3 (by decide) kw_1_37 rfl rfl ?_
  refine y_cI (pc := 5) (As := [.ref a2]) (st := []) hC (c_X3_sum (gL G) d a0 a1 a2 a3 a4 a5 a6 a7 a2 vi n (by omega)) kw_1_154 kw_1_151 kw_1_153 kw_s0 kw_1_3 n_X3_sum ⟨⟨nb rfl, nb rfl⟩, ⟨nb rfl, nb rfl⟩, nb rfl⟩ [0, 1] [] [0, 1] 0 [] [(a0, .inr (3, [.ref a1, .ref a2, .ref a3, .ref a4, .ref a5, .ref a6, .ref a7, .int (nI n)])), (a2, aI d 10 vi)] rfl rfl ⟨rfl, by decide, rfl, by decide, by decide⟩ ⟨rfl, by decide⟩ rfl dX3_sumOfVines_5 ?_
  exact y_iret hC hQ rfl rfl rfl (nb rfl) (nb rfl) dX3_sumOfVines_8
theorem n_X3_sumOfVines : yyN yX3_sumOfVines RX3 0 := by refine ⟨rfl, ?_, ?_, ?_⟩ <;> decide +kernel
set_option maxHeartbeats 4000000 in
set_option maxRecDepth 100000 in
theorem c_X3_sumOfLostInAll (l : Launch) (d : yyD) (a0 : Nat) (a1 : Nat) (a2 : Nat) (a3 : Nat) (a4 : Nat) (a5 : Nat) (a6 : Nat) (a7 : Nat) (la : fI) (n : Nat) (hn : n ≤ 10) : yyI l yX3_sumOfLostInAll cX3_sumOfLostInAll 1 (some .int) { frames := 1, cells := 0, slots := 0, locals := 23 } d [.ref a0] [(a0, .inr (3, [.ref a1, .ref a2, .ref a3, .ref a4, .ref a5, .ref a6, .ref a7, .int (nI n)])), (a7, aI d 10 la)] [(a0, .inr (3, [.ref a1, .ref a2, .ref a3, .ref a4, .ref a5, .ref a6, .ref a7, .int (nI n)])), (a7, aI d 10 la)] (sumF la n) := by
  refine yyI_of (own := RX3) [(0, .ref a0)] (by decide +kernel) rfl (Nat.le_of_ble_eq_true rfl) rfl ?_
  intro G Q hQ hGL hC hGA
  refine y_aload_n (pc := 0) hC 0 dX3_sumOfLostInAll_0 rfl ?_
  refine y_aload_n (pc := 1) hC 0 dX3_sumOfLostInAll_1 rfl ?_
  refine y_get (pc := 2) hC 0 6 dX3_sumOfLostInAll_2 rfl rfl inX3 (by decide) kw_1_42 rfl rfl ?_
  refine y_cI (pc := 5) (As := [.ref a7]) (st := []) hC (c_X3_sum (gL G) d a0 a1 a2 a3 a4 a5 a6 a7 a7 la n (by omega)) kw_1_154 kw_1_151 kw_1_153 kw_s0 kw_1_3 n_X3_sum ⟨⟨nb rfl, nb rfl⟩, ⟨nb rfl, nb rfl⟩, nb rfl⟩ [0, 1] [] [0, 1] 0 [] [(a0, .inr (3, [.ref a1, .ref a2, .ref a3, .ref a4, .ref a5, .ref a6, .ref a7, .int (nI n)])), (a7, aI d 10 la)] rfl rfl ⟨rfl, by decide, rfl, by decide, by decide⟩ ⟨rfl, by decide⟩ rfl dX3_sumOfLostInAll_5 ?_
  exact y_iret hC hQ rfl rfl rfl (nb rfl) (nb rfl) dX3_sumOfLostInAll_8
theorem n_X3_sumOfLostInAll : yyN yX3_sumOfLostInAll RX3 0 := by refine ⟨rfl, ?_, ?_, ?_⟩ <;> decide +kernel
set_option maxHeartbeats 4000000 in
set_option maxRecDepth 100000 in
theorem c_X3_sumOfSuits (l : Launch) (d : yyD) (a0 : Nat) (a1 : Nat) (a2 : Nat) (a3 : Nat) (a4 : Nat) (a5 : Nat) (a6 : Nat) (a7 : Nat) (su : fI) (n : Nat) (hn : n ≤ 10) : yyI l yX3_sumOfSuits cX3_sumOfSuits 1 (some .int) { frames := 1, cells := 0, slots := 0, locals := 23 } d [.ref a0] [(a0, .inr (3, [.ref a1, .ref a2, .ref a3, .ref a4, .ref a5, .ref a6, .ref a7, .int (nI n)])), (a6, aI d 10 su)] [(a0, .inr (3, [.ref a1, .ref a2, .ref a3, .ref a4, .ref a5, .ref a6, .ref a7, .int (nI n)])), (a6, aI d 10 su)] (sumF su n) := by
  refine yyI_of (own := RX3) [(0, .ref a0)] (by decide +kernel) rfl (Nat.le_of_ble_eq_true rfl) rfl ?_
  intro G Q hQ hGL hC hGA
  refine y_aload_n (pc := 0) hC 0 dX3_sumOfSuits_0 rfl ?_
  refine y_aload_n (pc := 1) hC 0 dX3_sumOfSuits_1 rfl ?_
  refine y_get (pc := 2) hC 0 5 dX3_sumOfSuits_2 rfl rfl inX3 (by decide) kw_1_41 rfl rfl ?_
  refine y_cI (pc := 5) (As := [.ref a6]) (st := []) hC (c_X3_sum (gL G) d a0 a1 a2 a3 a4 a5 a6 a7 a6 su n (by omega)) kw_1_154 kw_1_151 kw_1_153 kw_s0 kw_1_3 n_X3_sum ⟨⟨nb rfl, nb rfl⟩, ⟨nb rfl, nb rfl⟩, nb rfl⟩ [0, 1] [] [0, 1] 0 [] [(a0, .inr (3, [.ref a1, .ref a2, .ref a3, .ref a4, .ref a5, .ref a6, .ref a7, .int (nI n)])), (a6, aI d 10 su)] rfl rfl ⟨rfl, by decide, rfl, by decide, by decide⟩ ⟨rfl, by decide⟩ rfl dX3_sumOfSuits_5 ?_
  exact y_iret hC hQ rfl rfl rfl (nb rfl) (nb rfl) dX3_sumOfSuits_8
theorem n_X3_sumOfSuits : yyN yX3_sumOfSuits RX3 0 := by refine ⟨rfl, ?_, ?_, ?_⟩ <;> decide +kernel
set_option maxHeartbeats 4000000 in
set_option maxRecDepth 100000 in
theorem c_X3_members (l : Launch) (d : yyD) (a0 : Nat) (a1 : Nat) (a2 : Nat) (a3 : Nat) (a4 : Nat) (a5 : Nat) (a6 : Nat) (a7 : Nat) (me : fB) (n : Nat) (hn : n ≤ 10) : yyI l yX3_members cX3_members 1 (some .int) { frames := 1, cells := 0, slots := 0, locals := 23 } d [.ref a0] [(a0, .inr (3, [.ref a1, .ref a2, .ref a3, .ref a4, .ref a5, .ref a6, .ref a7, .int (nI n)])), (a3, aZ d 10 me)] [(a0, .inr (3, [.ref a1, .ref a2, .ref a3, .ref a4, .ref a5, .ref a6, .ref a7, .int (nI n)])), (a3, aZ d 10 me)] (manyF me n) := by
  refine yyI_of (own := RX3) [(0, .ref a0)] (by decide +kernel) rfl (Nat.le_of_ble_eq_true rfl) rfl ?_
  intro G Q hQ hGL hC hGA
  refine y_aload_n (pc := 0) hC 0 dX3_members_0 rfl ?_
  refine y_aload_n (pc := 1) hC 0 dX3_members_1 rfl ?_
  refine y_get (pc := 2) hC 0 2 dX3_members_2 rfl rfl inX3 (by decide) kw_1_38 rfl rfl ?_
  refine y_cI (pc := 5) (As := [.ref a3]) (st := []) hC (c_X3_howManyAre (gL G) d a0 a1 a2 a3 a4 a5 a6 a7 a3 me n (by omega)) kw_1_181 kw_1_178 kw_1_180 kw_s1 kw_1_3 n_X3_howManyAre ⟨⟨nb rfl, nb rfl⟩, ⟨nb rfl, nb rfl⟩, nb rfl⟩ [0, 1] [] [0, 1] 0 [] [(a0, .inr (3, [.ref a1, .ref a2, .ref a3, .ref a4, .ref a5, .ref a6, .ref a7, .int (nI n)])), (a3, aZ d 10 me)] rfl rfl ⟨rfl, by decide, rfl, by decide, by decide⟩ ⟨rfl, by decide⟩ rfl dX3_members_5 ?_
  exact y_iret hC hQ rfl rfl rfl (nb rfl) (nb rfl) dX3_members_8
theorem n_X3_members : yyN yX3_members RX3 0 := by refine ⟨rfl, ?_, ?_, ?_⟩ <;> decide +kernel
set_option maxHeartbeats 4000000 in
set_option maxRecDepth 100000 in
theorem c_X3_insuredOnes (l : Launch) (d : yyD) (a0 : Nat) (a1 : Nat) (a2 : Nat) (a3 : Nat) (a4 : Nat) (a5 : Nat) (a6 : Nat) (a7 : Nat) (ins : fB) (n : Nat) (hn : n ≤ 10) : yyI l yX3_insuredOnes cX3_insuredOnes 1 (some .int) { frames := 1, cells := 0, slots := 0, locals := 23 } d [.ref a0] [(a0, .inr (3, [.ref a1, .ref a2, .ref a3, .ref a4, .ref a5, .ref a6, .ref a7, .int (nI n)])), (a4, aZ d 10 ins)] [(a0, .inr (3, [.ref a1, .ref a2, .ref a3, .ref a4, .ref a5, .ref a6, .ref a7, .int (nI n)])), (a4, aZ d 10 ins)] (manyF ins n) := by
  refine yyI_of (own := RX3) [(0, .ref a0)] (by decide +kernel) rfl (Nat.le_of_ble_eq_true rfl) rfl ?_
  intro G Q hQ hGL hC hGA
  refine y_aload_n (pc := 0) hC 0 dX3_insuredOnes_0 rfl ?_
  refine y_aload_n (pc := 1) hC 0 dX3_insuredOnes_1 rfl ?_
  refine y_get (pc := 2) hC 0 3 dX3_insuredOnes_2 rfl rfl inX3 (by decide) kw_1_39 rfl rfl ?_
  refine y_cI (pc := 5) (As := [.ref a4]) (st := []) hC (c_X3_howManyAre (gL G) d a0 a1 a2 a3 a4 a5 a6 a7 a4 ins n (by omega)) kw_1_181 kw_1_178 kw_1_180 kw_s1 kw_1_3 n_X3_howManyAre ⟨⟨nb rfl, nb rfl⟩, ⟨nb rfl, nb rfl⟩, nb rfl⟩ [0, 1] [] [0, 1] 0 [] [(a0, .inr (3, [.ref a1, .ref a2, .ref a3, .ref a4, .ref a5, .ref a6, .ref a7, .int (nI n)])), (a4, aZ d 10 ins)] rfl rfl ⟨rfl, by decide, rfl, by decide, by decide⟩ ⟨rfl, by decide⟩ rfl dX3_insuredOnes_5 ?_
  exact y_iret hC hQ rfl rfl rfl (nb rfl) (nb rfl) dX3_insuredOnes_8
theorem n_X3_insuredOnes : yyN yX3_insuredOnes RX3 0 := by refine ⟨rfl, ?_, ?_, ?_⟩ <;> decide +kernel
set_option maxHeartbeats 4000000 in
set_option maxRecDepth 100000 in
theorem c_X3_fact (l : Launch) (d : yyD) (a0 : Nat) (a1 : Nat) (a2 : Nat) (a3 : Nat) (a4 : Nat) (a5 : Nat) (a6 : Nat) (a7 : Nat) (pl : fI) (vi : fI) (me : fB) (ins : fB) (lt : fI) (su : fI) (la : fI) (n : Nat) (j : Nat) (w : Nat) (hn : n ≤ 10) (hj : j < 10) (hw : w ≤ 6) : yyI l yX3_fact cX3_fact 3 (some .int) { frames := 0, cells := 0, slots := 0, locals := 0 } d [.ref a0, .int (nI j), .int (nI w)] [(a0, .inr (3, [.ref a1, .ref a2, .ref a3, .ref a4, .ref a5, .ref a6, .ref a7, .int (nI n)])), (a1, aI d 10 pl), (a2, aI d 10 vi), (a3, aZ d 10 me), (a4, aZ d 10 ins), (a5, aI d 10 lt), (a6, aI d 10 su), (a7, aI d 10 la)] [(a0, .inr (3, [.ref a1, .ref a2, .ref a3, .ref a4, .ref a5, .ref a6, .ref a7, .int (nI n)])), (a1, aI d 10 pl), (a2, aI d 10 vi), (a3, aZ d 10 me), (a4, aZ d 10 ins), (a5, aI d 10 lt), (a6, aI d 10 su), (a7, aI d 10 la)] (vfact pl vi me ins lt su la j w) := by
  refine yyI_of (own := RX3) [(0, .ref a0), (1, .int (nI j)), (2, .int (nI w))] (by decide +kernel) rfl (Nat.le_of_ble_eq_true rfl) rfl ?_
  intro G Q hQ hGL hC hGA
  refine y_iload_n (pc := 0) hC 2 dX3_fact_0 rfl ?_
  have hs1 : w = 0 ∨ w = 1 ∨ w = 2 ∨ w = 3 ∨ w = 4 ∨ w = 5 ∨ w = 6 := by omega
  rcases hs1 with rfl | rfl | rfl | rfl | rfl | rfl | rfl
  · refine y_tsw (pc := 1) (off := 39) hC dX3_fact_1 40 (by decide +kernel) (by decide +kernel) (by decide +kernel) (by decide) ?_
    refine y_aload_n (pc := 40) hC 0 dX3_fact_40 rfl ?_
    refine y_get (pc := 41) hC 0 0 dX3_fact_41 rfl rfl inX3 (by decide) kw_1_36 rfl rfl ?_
    refine y_iload_n (pc := 44) hC 1 dX3_fact_44 rfl ?_
    refine y_iald (pc := 45) hC 1 (j := j) dX3_fact_45 (pl j) rfl (by omega) rfl rfl ?_
    exact y_iret hC hQ rfl rfl rfl (nb rfl) (nb rfl) dX3_fact_46
  · refine y_tsw (pc := 1) (off := 46) hC dX3_fact_1 47 (by decide +kernel) (by decide +kernel) (by decide +kernel) (by decide) ?_
    refine y_aload_n (pc := 47) hC 0 dX3_fact_47 rfl ?_
    refine y_get (pc := 48) hC 0 1 dX3_fact_48 rfl rfl inX3 (by decide) kw_1_37 rfl rfl ?_
    refine y_iload_n (pc := 51) hC 1 dX3_fact_51 rfl ?_
    refine y_iald (pc := 52) hC 2 (j := j) dX3_fact_52 (vi j) rfl (by omega) rfl rfl ?_
    exact y_iret hC hQ rfl rfl rfl (nb rfl) (nb rfl) dX3_fact_53
  · refine y_tsw (pc := 1) (off := 53) hC dX3_fact_1 54 (by decide +kernel) (by decide +kernel) (by decide +kernel) (by decide) ?_
    refine y_aload_n (pc := 54) hC 0 dX3_fact_54 rfl ?_
    refine y_get (pc := 55) hC 0 2 dX3_fact_55 rfl rfl inX3 (by decide) kw_1_38 rfl rfl ?_
    refine y_iload_n (pc := 58) hC 1 dX3_fact_58 rfl ?_
    refine y_zald (pc := 59) hC 3 (j := j) dX3_fact_59 (bI (me j)) rfl (by omega) rfl rfl ?_
    refine y_beq (pc := 60) hC dX3_fact_60 67 (by decide) (fun c_2 => ?_) (fun c_2 => ?_)
    · refine y_iconst (pc := 67) hC dX3_fact_67 0 (by decide) ?_
      exact y_iret hC hQ rfl rfl (by simp [vfact, bI, c_2]) (nb rfl) (nb rfl) dX3_fact_68
    · refine y_iconst (pc := 63) hC dX3_fact_63 1 (by decide) ?_
      refine y_goto (pc := 64) hC dX3_fact_64 68 (by decide) ?_
      exact y_iret hC hQ rfl rfl (by simp [vfact, bI, c_2]) (nb rfl) (nb rfl) dX3_fact_68
  · refine y_tsw (pc := 1) (off := 68) hC dX3_fact_1 69 (by decide +kernel) (by decide +kernel) (by decide +kernel) (by decide) ?_
    refine y_aload_n (pc := 69) hC 0 dX3_fact_69 rfl ?_
    refine y_get (pc := 70) hC 0 3 dX3_fact_70 rfl rfl inX3 (by decide) kw_1_39 rfl rfl ?_
    refine y_iload_n (pc := 73) hC 1 dX3_fact_73 rfl ?_
    refine y_zald (pc := 74) hC 4 (j := j) dX3_fact_74 (bI (ins j)) rfl (by omega) rfl rfl ?_
    refine y_beq (pc := 75) hC dX3_fact_75 82 (by decide) (fun c_3 => ?_) (fun c_3 => ?_)
    · refine y_iconst (pc := 82) hC dX3_fact_82 0 (by decide) ?_
      exact y_iret hC hQ rfl rfl (by simp [vfact, bI, c_3]) (nb rfl) (nb rfl) dX3_fact_83
    · refine y_iconst (pc := 78) hC dX3_fact_78 1 (by decide) ?_
      refine y_goto (pc := 79) hC dX3_fact_79 83 (by decide) ?_
      exact y_iret hC hQ rfl rfl (by simp [vfact, bI, c_3]) (nb rfl) (nb rfl) dX3_fact_83
  · refine y_tsw (pc := 1) (off := 83) hC dX3_fact_1 84 (by decide +kernel) (by decide +kernel) (by decide +kernel) (by decide) ?_
    refine y_aload_n (pc := 84) hC 0 dX3_fact_84 rfl ?_
    refine y_get (pc := 85) hC 0 4 dX3_fact_85 rfl rfl inX3 (by decide) kw_1_40 rfl rfl ?_
    refine y_iload_n (pc := 88) hC 1 dX3_fact_88 rfl ?_
    refine y_iald (pc := 89) hC 5 (j := j) dX3_fact_89 (lt j) rfl (by omega) rfl rfl ?_
    exact y_iret hC hQ rfl rfl rfl (nb rfl) (nb rfl) dX3_fact_90
  · refine y_tsw (pc := 1) (off := 90) hC dX3_fact_1 91 (by decide +kernel) (by decide +kernel) (by decide +kernel) (by decide) ?_
    refine y_aload_n (pc := 91) hC 0 dX3_fact_91 rfl ?_
    refine y_get (pc := 92) hC 0 5 dX3_fact_92 rfl rfl inX3 (by decide) kw_1_41 rfl rfl ?_
    refine y_iload_n (pc := 95) hC 1 dX3_fact_95 rfl ?_
    refine y_iald (pc := 96) hC 6 (j := j) dX3_fact_96 (su j) rfl (by omega) rfl rfl ?_
    exact y_iret hC hQ rfl rfl rfl (nb rfl) (nb rfl) dX3_fact_97
  · refine y_tsd (pc := 1) hC dX3_fact_1 98 (by decide +kernel) (by decide) ?_
    refine y_aload_n (pc := 98) hC 0 dX3_fact_98 rfl ?_
    refine y_get (pc := 99) hC 0 6 dX3_fact_99 rfl rfl inX3 (by decide) kw_1_42 rfl rfl ?_
    refine y_iload_n (pc := 102) hC 1 dX3_fact_102 rfl ?_
    refine y_iald (pc := 103) hC 7 (j := j) dX3_fact_103 (la j) rfl (by omega) rfl rfl ?_
    exact y_iret hC hQ rfl rfl rfl (nb rfl) (nb rfl) dX3_fact_104
theorem n_X3_fact : yyN yX3_fact RX3 2 := by refine ⟨rfl, ?_, ?_, ?_⟩ <;> decide +kernel
set_option maxHeartbeats 4000000 in
set_option maxRecDepth 100000 in
theorem c_X3_enrol (l : Launch) (d : yyD) (a0 : Nat) (a1 : Nat) (a2 : Nat) (a3 : Nat) (a4 : Nat) (a5 : Nat) (a6 : Nat) (a7 : Nat) (me : fB) (ins : fB) (n : Nat) (j : Nat) (p : Bool) (q : Bool) (hn : n ≤ 10) (hj : j < 10) : yyI l yX3_enrol cX3_enrol 5 (some .int) { frames := 0, cells := 0, slots := 0, locals := 0 } d [.ref a0, .int (nI j), .int (bI p), .int (bI q)] [(a0, .inr (3, [.ref a1, .ref a2, .ref a3, .ref a4, .ref a5, .ref a6, .ref a7, .int (nI n)])), (a3, aZ d 10 me), (a4, aZ d 10 ins)] [(a0, .inr (3, [.ref a1, .ref a2, .ref a3, .ref a4, .ref a5, .ref a6, .ref a7, .int (nI n)])), (a3, aZ d 10 (updB me j p)), (a4, aZ d 10 (updB ins j q))] (cond (me j) 1 0 + cond (ins j) 2 0) := by
  refine yyI_of (own := RX3) [(0, .ref a0), (1, .int (nI j)), (2, .int (bI p)), (3, .int (bI q))] (by decide +kernel) rfl (Nat.le_of_ble_eq_true rfl) rfl ?_
  intro G Q hQ hGL hC hGA
  refine y_aload_n (pc := 0) hC 0 dX3_enrol_0 rfl ?_
  refine y_get (pc := 1) hC 0 2 dX3_enrol_1 rfl rfl inX3 (by decide) kw_1_38 rfl rfl ?_
  refine y_iload_n (pc := 4) hC 1 dX3_enrol_4 rfl ?_
  refine y_zald (pc := 5) hC 1 (j := j) dX3_enrol_5 (bI (me j)) rfl (by omega) rfl rfl ?_
  refine y_beq (pc := 6) hC dX3_enrol_6 13 (by decide) (fun c_1 => ?_) (fun c_1 => ?_)
  · refine y_iconst (pc := 13) hC dX3_enrol_13 0 (by decide) ?_
    refine y_aload_n (pc := 14) hC 0 dX3_enrol_14 rfl ?_
    refine y_get (pc := 15) hC 0 3 dX3_enrol_15 rfl rfl inX3 (by decide) kw_1_39 rfl rfl ?_
    refine y_iload_n (pc := 18) hC 1 dX3_enrol_18 rfl ?_
    refine y_zald (pc := 19) hC 2 (j := j) dX3_enrol_19 (bI (ins j)) rfl (by omega) rfl rfl ?_
    refine y_beq (pc := 20) hC dX3_enrol_20 27 (by decide) (fun c_2 => ?_) (fun c_2 => ?_)
    · refine y_iconst (pc := 27) hC dX3_enrol_27 0 (by decide) ?_
      refine y_iadd (pc := 28) hC dX3_enrol_28 (0 + 0) rfl ?_
      refine y_istore (pc := 29) hC dX3_enrol_29 [(4, .int (0 + 0)), (0, .ref a0), (1, .int (nI j)), (2, .int (bI p)), (3, .int (bI q))] rfl (by decide) ?_
      refine y_aload_n (pc := 31) hC 1 dX3_enrol_31 rfl ?_
      refine y_get (pc := 32) hC 0 2 dX3_enrol_32 rfl rfl inX3 (by decide) kw_1_38 rfl rfl ?_
      refine y_iload_n (pc := 35) hC 2 dX3_enrol_35 rfl ?_
      refine y_iload_n (pc := 36) hC 3 dX3_enrol_36 rfl ?_
      refine y_zast (pc := 37) hC 1 (j := j) dX3_enrol_37 p (updB me j p) [(a0, .inr (3, [.ref a1, .ref a2, .ref a3, .ref a4, .ref a5, .ref a6, .ref a7, .int (nI n)])), (a3, aZ d 10 (updB me j p)), (a4, aZ d 10 ins)] rfl (by omega) rfl rfl rfl ?_
      refine y_aload_n (pc := 38) hC 1 dX3_enrol_38 rfl ?_
      refine y_get (pc := 39) hC 0 3 dX3_enrol_39 rfl rfl inX3 (by decide) kw_1_39 rfl rfl ?_
      refine y_iload_n (pc := 42) hC 2 dX3_enrol_42 rfl ?_
      refine y_iload_n (pc := 43) hC 4 dX3_enrol_43 rfl ?_
      refine y_zast (pc := 44) hC 2 (j := j) dX3_enrol_44 q (updB ins j q) [(a0, .inr (3, [.ref a1, .ref a2, .ref a3, .ref a4, .ref a5, .ref a6, .ref a7, .int (nI n)])), (a3, aZ d 10 (updB me j p)), (a4, aZ d 10 (updB ins j q))] rfl (by omega) rfl rfl rfl ?_
      refine y_iload (pc := 45) hC 0 dX3_enrol_45 rfl ?_
      exact y_iret hC hQ rfl rfl (by simp only [c_1, c_2, ↓reduceIte, cond_true, cond_false]) (nb rfl) (nb rfl) dX3_enrol_47
    · refine y_iconst (pc := 23) hC dX3_enrol_23 2 (by decide) ?_
      refine y_goto (pc := 24) hC dX3_enrol_24 28 (by decide) ?_
      refine y_iadd (pc := 28) hC dX3_enrol_28 (0 + 2) rfl ?_
      refine y_istore (pc := 29) hC dX3_enrol_29 [(4, .int (0 + 2)), (0, .ref a0), (1, .int (nI j)), (2, .int (bI p)), (3, .int (bI q))] rfl (by decide) ?_
      refine y_aload_n (pc := 31) hC 1 dX3_enrol_31 rfl ?_
      refine y_get (pc := 32) hC 0 2 dX3_enrol_32 rfl rfl inX3 (by decide) kw_1_38 rfl rfl ?_
      refine y_iload_n (pc := 35) hC 2 dX3_enrol_35 rfl ?_
      refine y_iload_n (pc := 36) hC 3 dX3_enrol_36 rfl ?_
      refine y_zast (pc := 37) hC 1 (j := j) dX3_enrol_37 p (updB me j p) [(a0, .inr (3, [.ref a1, .ref a2, .ref a3, .ref a4, .ref a5, .ref a6, .ref a7, .int (nI n)])), (a3, aZ d 10 (updB me j p)), (a4, aZ d 10 ins)] rfl (by omega) rfl rfl rfl ?_
      refine y_aload_n (pc := 38) hC 1 dX3_enrol_38 rfl ?_
      refine y_get (pc := 39) hC 0 3 dX3_enrol_39 rfl rfl inX3 (by decide) kw_1_39 rfl rfl ?_
      refine y_iload_n (pc := 42) hC 2 dX3_enrol_42 rfl ?_
      refine y_iload_n (pc := 43) hC 4 dX3_enrol_43 rfl ?_
      refine y_zast (pc := 44) hC 2 (j := j) dX3_enrol_44 q (updB ins j q) [(a0, .inr (3, [.ref a1, .ref a2, .ref a3, .ref a4, .ref a5, .ref a6, .ref a7, .int (nI n)])), (a3, aZ d 10 (updB me j p)), (a4, aZ d 10 (updB ins j q))] rfl (by omega) rfl rfl rfl ?_
      refine y_iload (pc := 45) hC 0 dX3_enrol_45 rfl ?_
      exact y_iret hC hQ rfl rfl (by simp only [c_1, c_2, ↓reduceIte, cond_true, cond_false]) (nb rfl) (nb rfl) dX3_enrol_47
  · refine y_iconst (pc := 9) hC dX3_enrol_9 1 (by decide) ?_
    refine y_goto (pc := 10) hC dX3_enrol_10 14 (by decide) ?_
    refine y_aload_n (pc := 14) hC 0 dX3_enrol_14 rfl ?_
    refine y_get (pc := 15) hC 0 3 dX3_enrol_15 rfl rfl inX3 (by decide) kw_1_39 rfl rfl ?_
    refine y_iload_n (pc := 18) hC 1 dX3_enrol_18 rfl ?_
    refine y_zald (pc := 19) hC 2 (j := j) dX3_enrol_19 (bI (ins j)) rfl (by omega) rfl rfl ?_
    refine y_beq (pc := 20) hC dX3_enrol_20 27 (by decide) (fun c_3 => ?_) (fun c_3 => ?_)
    · refine y_iconst (pc := 27) hC dX3_enrol_27 0 (by decide) ?_
      refine y_iadd (pc := 28) hC dX3_enrol_28 (1 + 0) rfl ?_
      refine y_istore (pc := 29) hC dX3_enrol_29 [(4, .int (1 + 0)), (0, .ref a0), (1, .int (nI j)), (2, .int (bI p)), (3, .int (bI q))] rfl (by decide) ?_
      refine y_aload_n (pc := 31) hC 1 dX3_enrol_31 rfl ?_
      refine y_get (pc := 32) hC 0 2 dX3_enrol_32 rfl rfl inX3 (by decide) kw_1_38 rfl rfl ?_
      refine y_iload_n (pc := 35) hC 2 dX3_enrol_35 rfl ?_
      refine y_iload_n (pc := 36) hC 3 dX3_enrol_36 rfl ?_
      refine y_zast (pc := 37) hC 1 (j := j) dX3_enrol_37 p (updB me j p) [(a0, .inr (3, [.ref a1, .ref a2, .ref a3, .ref a4, .ref a5, .ref a6, .ref a7, .int (nI n)])), (a3, aZ d 10 (updB me j p)), (a4, aZ d 10 ins)] rfl (by omega) rfl rfl rfl ?_
      refine y_aload_n (pc := 38) hC 1 dX3_enrol_38 rfl ?_
      refine y_get (pc := 39) hC 0 3 dX3_enrol_39 rfl rfl inX3 (by decide) kw_1_39 rfl rfl ?_
      refine y_iload_n (pc := 42) hC 2 dX3_enrol_42 rfl ?_
      refine y_iload_n (pc := 43) hC 4 dX3_enrol_43 rfl ?_
      refine y_zast (pc := 44) hC 2 (j := j) dX3_enrol_44 q (updB ins j q) [(a0, .inr (3, [.ref a1, .ref a2, .ref a3, .ref a4, .ref a5, .ref a6, .ref a7, .int (nI n)])), (a3, aZ d 10 (updB me j p)), (a4, aZ d 10 (updB ins j q))] rfl (by omega) rfl rfl rfl ?_
      refine y_iload (pc := 45) hC 0 dX3_enrol_45 rfl ?_
      exact y_iret hC hQ rfl rfl (by simp only [c_1, c_3, ↓reduceIte, cond_true, cond_false]) (nb rfl) (nb rfl) dX3_enrol_47
    · refine y_iconst (pc := 23) hC dX3_enrol_23 2 (by decide) ?_
      refine y_goto (pc := 24) hC dX3_enrol_24 28 (by decide) ?_
      refine y_iadd (pc := 28) hC dX3_enrol_28 (1 + 2) rfl ?_
      refine y_istore (pc := 29) hC dX3_enrol_29 [(4, .int (1 + 2)), (0, .ref a0), (1, .int (nI j)), (2, .int (bI p)), (3, .int (bI q))] rfl (by decide) ?_
      refine y_aload_n (pc := 31) hC 1 dX3_enrol_31 rfl ?_
      refine y_get (pc := 32) hC 0 2 dX3_enrol_32 rfl rfl inX3 (by decide) kw_1_38 rfl rfl ?_
      refine y_iload_n (pc := 35) hC 2 dX3_enrol_35 rfl ?_
      refine y_iload_n (pc := 36) hC 3 dX3_enrol_36 rfl ?_
      refine y_zast (pc := 37) hC 1 (j := j) dX3_enrol_37 p (updB me j p) [(a0, .inr (3, [.ref a1, .ref a2, .ref a3, .ref a4, .ref a5, .ref a6, .ref a7, .int (nI n)])), (a3, aZ d 10 (updB me j p)), (a4, aZ d 10 ins)] rfl (by omega) rfl rfl rfl ?_
      refine y_aload_n (pc := 38) hC 1 dX3_enrol_38 rfl ?_
      refine y_get (pc := 39) hC 0 3 dX3_enrol_39 rfl rfl inX3 (by decide) kw_1_39 rfl rfl ?_
      refine y_iload_n (pc := 42) hC 2 dX3_enrol_42 rfl ?_
      refine y_iload_n (pc := 43) hC 4 dX3_enrol_43 rfl ?_
      refine y_zast (pc := 44) hC 2 (j := j) dX3_enrol_44 q (updB ins j q) [(a0, .inr (3, [.ref a1, .ref a2, .ref a3, .ref a4, .ref a5, .ref a6, .ref a7, .int (nI n)])), (a3, aZ d 10 (updB me j p)), (a4, aZ d 10 (updB ins j q))] rfl (by omega) rfl rfl rfl ?_
      refine y_iload (pc := 45) hC 0 dX3_enrol_45 rfl ?_
      exact y_iret hC hQ rfl rfl (by simp only [c_1, c_3, ↓reduceIte, cond_true, cond_false]) (nb rfl) (nb rfl) dX3_enrol_47
theorem n_X3_enrol : yyN yX3_enrol RX3 3 := by refine ⟨rfl, ?_, ?_, ?_⟩ <;> decide +kernel
set_option maxHeartbeats 4000000 in
set_option maxRecDepth 100000 in
theorem c_X3_add (l : Launch) (d : yyD) (a0 : Nat) (a1 : Nat) (a2 : Nat) (a3 : Nat) (a4 : Nat) (a5 : Nat) (a6 : Nat) (a7 : Nat) (pl : fI) (vi : fI) (me : fB) (ins : fB) (n : Nat) (x : Int32) (y : Int32) (p : Bool) (q : Bool) (hn : n < 10) : yyI l yX3_add cX3_add 6 (some .int) { frames := 0, cells := 0, slots := 0, locals := 0 } d [.ref a0, .int x, .int y, .int (bI p), .int (bI q)] [(a0, .inr (3, [.ref a1, .ref a2, .ref a3, .ref a4, .ref a5, .ref a6, .ref a7, .int (nI n)])), (a1, aI d 10 pl), (a2, aI d 10 vi), (a3, aZ d 10 me), (a4, aZ d 10 ins)] [(a0, .inr (3, [.ref a1, .ref a2, .ref a3, .ref a4, .ref a5, .ref a6, .ref a7, .int (nI (n + 1))])), (a1, aI d 10 (upd pl n x)), (a2, aI d 10 (upd vi n y)), (a3, aZ d 10 (updB me n p)), (a4, aZ d 10 (updB ins n q))] (nI n) := by
  refine yyI_of (own := RX3) [(0, .ref a0), (1, .int x), (2, .int y), (3, .int (bI p)), (4, .int (bI q))] (by decide +kernel) rfl (Nat.le_of_ble_eq_true rfl) rfl ?_
  intro G Q hQ hGL hC hGA
  refine y_aload_n (pc := 0) hC 0 dX3_add_0 rfl ?_
  refine y_get (pc := 1) hC 0 7 dX3_add_1 rfl rfl inX3 (by decide) kw_1_44 rfl rfl ?_
  refine y_istore (pc := 4) hC dX3_add_4 [(5, .int (nI n)), (0, .ref a0), (1, .int x), (2, .int y), (3, .int (bI p)), (4, .int (bI q))] rfl (by decide) ?_
  refine y_aload_n (pc := 6) hC 1 dX3_add_6 rfl ?_
  refine y_get (pc := 7) hC 0 0 dX3_add_7 rfl rfl inX3 (by decide) kw_1_36 rfl rfl ?_
  refine y_iload (pc := 10) hC 0 dX3_add_10 rfl ?_
  refine y_iload_n (pc := 12) hC 2 dX3_add_12 rfl ?_
  refine y_iast (pc := 13) hC 1 (j := n) dX3_add_13 (upd pl n x) [(a0, .inr (3, [.ref a1, .ref a2, .ref a3, .ref a4, .ref a5, .ref a6, .ref a7, .int (nI n)])), (a1, aI d 10 (upd pl n x)), (a2, aI d 10 vi), (a3, aZ d 10 me), (a4, aZ d 10 ins)] rfl (by omega) rfl rfl rfl ?_
  refine y_aload_n (pc := 14) hC 1 dX3_add_14 rfl ?_
  refine y_get (pc := 15) hC 0 1 dX3_add_15 rfl rfl inX3 (by decide) kw_1_37 rfl rfl ?_
  refine y_iload (pc := 18) hC 0 dX3_add_18 rfl ?_
  refine y_iload_n (pc := 20) hC 3 dX3_add_20 rfl ?_
  refine y_iast (pc := 21) hC 2 (j := n) dX3_add_21 (upd vi n y) [(a0, .inr (3, [.ref a1, .ref a2, .ref a3, .ref a4, .ref a5, .ref a6, .ref a7, .int (nI n)])), (a1, aI d 10 (upd pl n x)), (a2, aI d 10 (upd vi n y)), (a3, aZ d 10 me), (a4, aZ d 10 ins)] rfl (by omega) rfl rfl rfl ?_
  refine y_aload_n (pc := 22) hC 1 dX3_add_22 rfl ?_
  refine y_get (pc := 23) hC 0 2 dX3_add_23 rfl rfl inX3 (by decide) kw_1_38 rfl rfl ?_
  refine y_iload (pc := 26) hC 0 dX3_add_26 rfl ?_
  refine y_iload_n (pc := 28) hC 4 dX3_add_28 rfl ?_
  refine y_zast (pc := 29) hC 3 (j := n) dX3_add_29 p (updB me n p) [(a0, .inr (3, [.ref a1, .ref a2, .ref a3, .ref a4, .ref a5, .ref a6, .ref a7, .int (nI n)])), (a1, aI d 10 (upd pl n x)), (a2, aI d 10 (upd vi n y)), (a3, aZ d 10 (updB me n p)), (a4, aZ d 10 ins)] rfl (by omega) rfl rfl rfl ?_
  refine y_aload_n (pc := 30) hC 1 dX3_add_30 rfl ?_
  refine y_get (pc := 31) hC 0 3 dX3_add_31 rfl rfl inX3 (by decide) kw_1_39 rfl rfl ?_
  refine y_iload (pc := 34) hC 0 dX3_add_34 rfl ?_
  refine y_iload (pc := 36) hC 5 dX3_add_36 rfl ?_
  refine y_zast (pc := 38) hC 4 (j := n) dX3_add_38 q (updB ins n q) [(a0, .inr (3, [.ref a1, .ref a2, .ref a3, .ref a4, .ref a5, .ref a6, .ref a7, .int (nI n)])), (a1, aI d 10 (upd pl n x)), (a2, aI d 10 (upd vi n y)), (a3, aZ d 10 (updB me n p)), (a4, aZ d 10 (updB ins n q))] rfl (by omega) rfl rfl rfl ?_
  refine y_aload_n (pc := 39) hC 1 dX3_add_39 rfl ?_
  refine y_dup (pc := 40) hC dX3_add_40 rfl ?_
  refine y_get (pc := 41) hC 0 7 dX3_add_41 rfl rfl inX3 (by decide) kw_1_44 rfl rfl ?_
  refine y_iconst (pc := 44) hC dX3_add_44 1 (by decide) ?_
  refine y_iadd (pc := 45) hC dX3_add_45 (nI (n + 1)) (nI_1 _) ?_
  refine y_put (pc := 46) hC 0 7 .int dX3_add_46 tyX3 [(a0, .inr (3, [.ref a1, .ref a2, .ref a3, .ref a4, .ref a5, .ref a6, .ref a7, .int (nI (n + 1))])), (a1, aI d 10 (upd pl n x)), (a2, aI d 10 (upd vi n y)), (a3, aZ d 10 (updB me n p)), (a4, aZ d 10 (updB ins n q))] rfl rfl rfl inX3 tyX3_ok nmX3 (by decide) kw_1_44 rfl rfl (by decide +kernel) rfl rfl (Nat.le_of_ble_eq_true rfl) ?_
  refine y_iload (pc := 49) hC 0 dX3_add_49 rfl ?_
  exact y_iret hC hQ rfl rfl rfl (nb rfl) (nb rfl) dX3_add_51
theorem n_X3_add : yyN yX3_add RX3 4 := by refine ⟨rfl, ?_, ?_, ?_⟩ <;> decide +kernel
set_option maxHeartbeats 4000000 in
set_option maxRecDepth 100000 in
theorem c_X3_copyFrom (l : Launch) (d : yyD) (a0 : Nat) (a1 : Nat) (a2 : Nat) (a3 : Nat) (a4 : Nat) (a5 : Nat) (a6 : Nat) (a7 : Nat) (b0 : Nat) (b1 : Nat) (b2 : Nat) (b3 : Nat) (b4 : Nat) (b5 : Nat) (b6 : Nat) (b7 : Nat) (pl : fI) (vi : fI) (me : fB) (ins : fB) (lt : fI) (su : fI) (la : fI) (pl2 : fI) (vi2 : fI) (me2 : fB) (ins2 : fB) (lt2 : fI) (su2 : fI) (la2 : fI) (n : Nat) (n2 : Nat)  : yyV (S := Unit) l yX3_copyFrom cX3_copyFrom 2 { frames := 1, cells := 0, slots := 0, locals := 18 } d [.ref a0, .ref b0] [(a0, .inr (3, [.ref a1, .ref a2, .ref a3, .ref a4, .ref a5, .ref a6, .ref a7, .int (nI n)])), (a1, aI d 10 pl), (a2, aI d 10 vi), (a3, aZ d 10 me), (a4, aZ d 10 ins), (a5, aI d 10 lt), (a6, aI d 10 su), (a7, aI d 10 la), (b0, .inr (3, [.ref b1, .ref b2, .ref b3, .ref b4, .ref b5, .ref b6, .ref b7, .int (nI n2)])), (b1, aI d 10 pl2), (b2, aI d 10 vi2), (b3, aZ d 10 me2), (b4, aZ d 10 ins2), (b5, aI d 10 lt2), (b6, aI d 10 su2), (b7, aI d 10 la2)] (fun _ => True) (fun _ => [(a0, .inr (3, [.ref a1, .ref a2, .ref a3, .ref a4, .ref a5, .ref a6, .ref a7, .int (nI n2)])), (a1, aI d 10 pl2), (a2, aI d 10 vi2), (a3, aZ d 10 me2), (a4, aZ d 10 ins2), (a5, aI d 10 lt2), (a6, aI d 10 su2), (a7, aI d 10 la2), (b0, .inr (3, [.ref b1, .ref b2, .ref b3, .ref b4, .ref b5, .ref b6, .ref b7, .int (nI n2)])), (b1, aI d 10 pl2), (b2, aI d 10 vi2), (b3, aZ d 10 me2), (b4, aZ d 10 ins2), (b5, aI d 10 lt2), (b6, aI d 10 su2), (b7, aI d 10 la2)]) := by
  refine yyV_of (own := RX3) [(0, .ref a0), (1, .ref b0)] (by decide +kernel) rfl (Nat.le_of_ble_eq_true rfl) rfl ?_
  intro G Q hQ hGL hC hGA hin
  refine y_aload_n (pc := 0) hC 1 dX3_copyFrom_0 rfl ?_
  refine y_get (pc := 1) hC 8 0 dX3_copyFrom_1 rfl rfl inX3 (by decide) kw_1_36 rfl rfl ?_
  refine y_iconst (pc := 4) hC dX3_copyFrom_4 0 (by decide) ?_
  refine y_aload_n (pc := 5) hC 0 dX3_copyFrom_5 rfl ?_
  refine y_get (pc := 6) hC 0 0 dX3_copyFrom_6 rfl rfl inX3 (by decide) kw_1_36 rfl rfl ?_
  refine y_iconst (pc := 9) hC dX3_copyFrom_9 0 (by decide) ?_
  refine y_bipush (pc := 10) hC dX3_copyFrom_10 10 (by decide) ?_
  refine y_copyI (pc := 12) hC dX3_copyFrom_12 9 1 [(a0, .inr (3, [.ref a1, .ref a2, .ref a3, .ref a4, .ref a5, .ref a6, .ref a7, .int (nI n)])), (a1, aI d 10 pl2), (a2, aI d 10 vi), (a3, aZ d 10 me), (a4, aZ d 10 ins), (a5, aI d 10 lt), (a6, aI d 10 su), (a7, aI d 10 la), (b0, .inr (3, [.ref b1, .ref b2, .ref b3, .ref b4, .ref b5, .ref b6, .ref b7, .int (nI n2)])), (b1, aI d 10 pl2), (b2, aI d 10 vi2), (b3, aZ d 10 me2), (b4, aZ d 10 ins2), (b5, aI d 10 lt2), (b6, aI d 10 su2), (b7, aI d 10 la2)] rfl rfl rfl rfl rfl rfl rfl kw_3_19 kw_3_21 kw_3_20 kw_1_15 ⟨nb rfl, nb rfl⟩ ?_
  refine y_aload_n (pc := 15) hC 1 dX3_copyFrom_15 rfl ?_
  refine y_get (pc := 16) hC 8 1 dX3_copyFrom_16 rfl rfl inX3 (by decide) kw_1_37 rfl rfl ?_
  refine y_iconst (pc := 19) hC dX3_copyFrom_19 0 (by decide) ?_
  refine y_aload_n (pc := 20) hC 0 dX3_copyFrom_20 rfl ?_
  refine y_get (pc := 21) hC 0 1 dX3_copyFrom_21 rfl rfl inX3 (by decide) kw_1_37 rfl rfl ?_
  refine y_iconst (pc := 24) hC dX3_copyFrom_24 0 (by decide) ?_
  refine y_bipush (pc := 25) hC dX3_copyFrom_25 10 (by decide) ?_
  refine y_copyI (pc := 27) hC dX3_copyFrom_27 10 2 [(a0, .inr (3, [.ref a1, .ref a2, .ref a3, .ref a4, .ref a5, .ref a6, .ref a7, .int (nI n)])), (a1, aI d 10 pl2), (a2, aI d 10 vi2), (a3, aZ d 10 me), (a4, aZ d 10 ins), (a5, aI d 10 lt), (a6, aI d 10 su), (a7, aI d 10 la), (b0, .inr (3, [.ref b1, .ref b2, .ref b3, .ref b4, .ref b5, .ref b6, .ref b7, .int (nI n2)])), (b1, aI d 10 pl2), (b2, aI d 10 vi2), (b3, aZ d 10 me2), (b4, aZ d 10 ins2), (b5, aI d 10 lt2), (b6, aI d 10 su2), (b7, aI d 10 la2)] rfl rfl rfl rfl rfl rfl rfl kw_3_19 kw_3_21 kw_3_20 kw_1_15 ⟨nb rfl, nb rfl⟩ ?_
  refine y_aload_n (pc := 30) hC 1 dX3_copyFrom_30 rfl ?_
  refine y_get (pc := 31) hC 8 2 dX3_copyFrom_31 rfl rfl inX3 (by decide) kw_1_38 rfl rfl ?_
  refine y_iconst (pc := 34) hC dX3_copyFrom_34 0 (by decide) ?_
  refine y_aload_n (pc := 35) hC 0 dX3_copyFrom_35 rfl ?_
  refine y_get (pc := 36) hC 0 2 dX3_copyFrom_36 rfl rfl inX3 (by decide) kw_1_38 rfl rfl ?_
  refine y_iconst (pc := 39) hC dX3_copyFrom_39 0 (by decide) ?_
  refine y_bipush (pc := 40) hC dX3_copyFrom_40 10 (by decide) ?_
  refine y_copyZ (pc := 42) hC dX3_copyFrom_42 11 3 [(a0, .inr (3, [.ref a1, .ref a2, .ref a3, .ref a4, .ref a5, .ref a6, .ref a7, .int (nI n)])), (a1, aI d 10 pl2), (a2, aI d 10 vi2), (a3, aZ d 10 me2), (a4, aZ d 10 ins), (a5, aI d 10 lt), (a6, aI d 10 su), (a7, aI d 10 la), (b0, .inr (3, [.ref b1, .ref b2, .ref b3, .ref b4, .ref b5, .ref b6, .ref b7, .int (nI n2)])), (b1, aI d 10 pl2), (b2, aI d 10 vi2), (b3, aZ d 10 me2), (b4, aZ d 10 ins2), (b5, aI d 10 lt2), (b6, aI d 10 su2), (b7, aI d 10 la2)] rfl rfl rfl rfl rfl rfl rfl kw_3_19 kw_3_21 kw_3_20 kw_1_15 ⟨nb rfl, nb rfl⟩ ?_
  refine y_aload_n (pc := 45) hC 1 dX3_copyFrom_45 rfl ?_
  refine y_get (pc := 46) hC 8 3 dX3_copyFrom_46 rfl rfl inX3 (by decide) kw_1_39 rfl rfl ?_
  refine y_iconst (pc := 49) hC dX3_copyFrom_49 0 (by decide) ?_
  refine y_aload_n (pc := 50) hC 0 dX3_copyFrom_50 rfl ?_
  refine y_get (pc := 51) hC 0 3 dX3_copyFrom_51 rfl rfl inX3 (by decide) kw_1_39 rfl rfl ?_
  refine y_iconst (pc := 54) hC dX3_copyFrom_54 0 (by decide) ?_
  refine y_bipush (pc := 55) hC dX3_copyFrom_55 10 (by decide) ?_
  refine y_copyZ (pc := 57) hC dX3_copyFrom_57 12 4 [(a0, .inr (3, [.ref a1, .ref a2, .ref a3, .ref a4, .ref a5, .ref a6, .ref a7, .int (nI n)])), (a1, aI d 10 pl2), (a2, aI d 10 vi2), (a3, aZ d 10 me2), (a4, aZ d 10 ins2), (a5, aI d 10 lt), (a6, aI d 10 su), (a7, aI d 10 la), (b0, .inr (3, [.ref b1, .ref b2, .ref b3, .ref b4, .ref b5, .ref b6, .ref b7, .int (nI n2)])), (b1, aI d 10 pl2), (b2, aI d 10 vi2), (b3, aZ d 10 me2), (b4, aZ d 10 ins2), (b5, aI d 10 lt2), (b6, aI d 10 su2), (b7, aI d 10 la2)] rfl rfl rfl rfl rfl rfl rfl kw_3_19 kw_3_21 kw_3_20 kw_1_15 ⟨nb rfl, nb rfl⟩ ?_
  refine y_aload_n (pc := 60) hC 1 dX3_copyFrom_60 rfl ?_
  refine y_get (pc := 61) hC 8 4 dX3_copyFrom_61 rfl rfl inX3 (by decide) kw_1_40 rfl rfl ?_
  refine y_iconst (pc := 64) hC dX3_copyFrom_64 0 (by decide) ?_
  refine y_aload_n (pc := 65) hC 0 dX3_copyFrom_65 rfl ?_
  refine y_get (pc := 66) hC 0 4 dX3_copyFrom_66 rfl rfl inX3 (by decide) kw_1_40 rfl rfl ?_
  refine y_iconst (pc := 69) hC dX3_copyFrom_69 0 (by decide) ?_
  refine y_bipush (pc := 70) hC dX3_copyFrom_70 10 (by decide) ?_
  refine y_copyI (pc := 72) hC dX3_copyFrom_72 13 5 [(a0, .inr (3, [.ref a1, .ref a2, .ref a3, .ref a4, .ref a5, .ref a6, .ref a7, .int (nI n)])), (a1, aI d 10 pl2), (a2, aI d 10 vi2), (a3, aZ d 10 me2), (a4, aZ d 10 ins2), (a5, aI d 10 lt2), (a6, aI d 10 su), (a7, aI d 10 la), (b0, .inr (3, [.ref b1, .ref b2, .ref b3, .ref b4, .ref b5, .ref b6, .ref b7, .int (nI n2)])), (b1, aI d 10 pl2), (b2, aI d 10 vi2), (b3, aZ d 10 me2), (b4, aZ d 10 ins2), (b5, aI d 10 lt2), (b6, aI d 10 su2), (b7, aI d 10 la2)] rfl rfl rfl rfl rfl rfl rfl kw_3_19 kw_3_21 kw_3_20 kw_1_15 ⟨nb rfl, nb rfl⟩ ?_
  refine y_aload_n (pc := 75) hC 1 dX3_copyFrom_75 rfl ?_
  refine y_get (pc := 76) hC 8 5 dX3_copyFrom_76 rfl rfl inX3 (by decide) kw_1_41 rfl rfl ?_
  refine y_iconst (pc := 79) hC dX3_copyFrom_79 0 (by decide) ?_
  refine y_aload_n (pc := 80) hC 0 dX3_copyFrom_80 rfl ?_
  refine y_get (pc := 81) hC 0 5 dX3_copyFrom_81 rfl rfl inX3 (by decide) kw_1_41 rfl rfl ?_
  refine y_iconst (pc := 84) hC dX3_copyFrom_84 0 (by decide) ?_
  refine y_bipush (pc := 85) hC dX3_copyFrom_85 10 (by decide) ?_
  refine y_copyI (pc := 87) hC dX3_copyFrom_87 14 6 [(a0, .inr (3, [.ref a1, .ref a2, .ref a3, .ref a4, .ref a5, .ref a6, .ref a7, .int (nI n)])), (a1, aI d 10 pl2), (a2, aI d 10 vi2), (a3, aZ d 10 me2), (a4, aZ d 10 ins2), (a5, aI d 10 lt2), (a6, aI d 10 su2), (a7, aI d 10 la), (b0, .inr (3, [.ref b1, .ref b2, .ref b3, .ref b4, .ref b5, .ref b6, .ref b7, .int (nI n2)])), (b1, aI d 10 pl2), (b2, aI d 10 vi2), (b3, aZ d 10 me2), (b4, aZ d 10 ins2), (b5, aI d 10 lt2), (b6, aI d 10 su2), (b7, aI d 10 la2)] rfl rfl rfl rfl rfl rfl rfl kw_3_19 kw_3_21 kw_3_20 kw_1_15 ⟨nb rfl, nb rfl⟩ ?_
  refine y_aload_n (pc := 90) hC 1 dX3_copyFrom_90 rfl ?_
  refine y_get (pc := 91) hC 8 6 dX3_copyFrom_91 rfl rfl inX3 (by decide) kw_1_42 rfl rfl ?_
  refine y_iconst (pc := 94) hC dX3_copyFrom_94 0 (by decide) ?_
  refine y_aload_n (pc := 95) hC 0 dX3_copyFrom_95 rfl ?_
  refine y_get (pc := 96) hC 0 6 dX3_copyFrom_96 rfl rfl inX3 (by decide) kw_1_42 rfl rfl ?_
  refine y_iconst (pc := 99) hC dX3_copyFrom_99 0 (by decide) ?_
  refine y_bipush (pc := 100) hC dX3_copyFrom_100 10 (by decide) ?_
  refine y_copyI (pc := 102) hC dX3_copyFrom_102 15 7 [(a0, .inr (3, [.ref a1, .ref a2, .ref a3, .ref a4, .ref a5, .ref a6, .ref a7, .int (nI n)])), (a1, aI d 10 pl2), (a2, aI d 10 vi2), (a3, aZ d 10 me2), (a4, aZ d 10 ins2), (a5, aI d 10 lt2), (a6, aI d 10 su2), (a7, aI d 10 la2), (b0, .inr (3, [.ref b1, .ref b2, .ref b3, .ref b4, .ref b5, .ref b6, .ref b7, .int (nI n2)])), (b1, aI d 10 pl2), (b2, aI d 10 vi2), (b3, aZ d 10 me2), (b4, aZ d 10 ins2), (b5, aI d 10 lt2), (b6, aI d 10 su2), (b7, aI d 10 la2)] rfl rfl rfl rfl rfl rfl rfl kw_3_19 kw_3_21 kw_3_20 kw_1_15 ⟨nb rfl, nb rfl⟩ ?_
  refine y_aload_n (pc := 105) hC 0 dX3_copyFrom_105 rfl ?_
  refine y_aload_n (pc := 106) hC 1 dX3_copyFrom_106 rfl ?_
  refine y_get (pc := 107) hC 8 7 dX3_copyFrom_107 rfl rfl inX3 (by decide) kw_1_44 rfl rfl ?_
  refine y_put (pc := 110) hC 0 7 .int dX3_copyFrom_110 tyX3 [(a0, .inr (3, [.ref a1, .ref a2, .ref a3, .ref a4, .ref a5, .ref a6, .ref a7, .int (nI n2)])), (a1, aI d 10 pl2), (a2, aI d 10 vi2), (a3, aZ d 10 me2), (a4, aZ d 10 ins2), (a5, aI d 10 lt2), (a6, aI d 10 su2), (a7, aI d 10 la2), (b0, .inr (3, [.ref b1, .ref b2, .ref b3, .ref b4, .ref b5, .ref b6, .ref b7, .int (nI n2)])), (b1, aI d 10 pl2), (b2, aI d 10 vi2), (b3, aZ d 10 me2), (b4, aZ d 10 ins2), (b5, aI d 10 lt2), (b6, aI d 10 su2), (b7, aI d 10 la2)] rfl rfl rfl inX3 tyX3_ok nmX3 (by decide) kw_1_44 rfl rfl (by decide +kernel) rfl rfl (Nat.le_of_ble_eq_true rfl) ?_
  exact y_vret (()) hC hQ (trivial) rfl (nb rfl) (nb rfl) dX3_copyFrom_113
theorem n_X3_copyFrom : yyN yX3_copyFrom RX3 1 := by refine ⟨rfl, ?_, ?_, ?_⟩ <;> decide +kernel
set_option maxHeartbeats 4000000 in
set_option maxRecDepth 100000 in
theorem c_X3_init (l : Launch) (d : yyD) (a0 : Nat)  : yyV (S := Nat → Nat) l yX3_init cX3_init 1 { frames := 1, cells := 7, slots := 70, locals := 12 } d [.ref a0] [(a0, .inr (3, [.null, .null, .null, .null, .null, .null, .null, .int 0]))] (fun _ => True) (fun u => [(a0, .inr (3, [.ref (u 1), .ref (u 2), .ref (u 3), .ref (u 4), .ref (u 5), .ref (u 6), .ref (u 7), .int (nI 0)])), (u 1, aI d 10 (fun _ => 0)), (u 2, aI d 10 (fun _ => 0)), (u 3, aZ d 10 (fun _ => false)), (u 4, aZ d 10 (fun _ => false)), (u 5, aI d 10 (fun _ => 0)), (u 6, aI d 10 (fun _ => 0)), (u 7, aI d 10 (fun _ => 0))]) := by
  refine yyV_of (own := RX3) [(0, .ref a0)] (by decide +kernel) rfl (Nat.le_of_ble_eq_true rfl) rfl ?_
  intro G Q hQ hGL hC hGA hin
  refine y_aload_n (pc := 0) hC 0 dX3_init_0 rfl ?_
  refine y_obj (pc := 1) hC kw_1_35 kw_1_22 kw_1_23 ⟨nb rfl, nb rfl⟩ dX3_init_1 ?_
  refine y_aload_n (pc := 4) hC 0 dX3_init_4 rfl ?_
  refine y_bipush (pc := 5) hC dX3_init_5 10 (by decide) ?_
  refine y_newaI (pc := 7) hC dX3_init_7 10 (fun q1 => [(a0, .inr (3, [.null, .null, .null, .null, .null, .null, .null, .int 0])), (q1, aI d 10 (fun _ => 0))]) rfl rfl kw_1_63 ⟨nb rfl, nb rfl⟩ (fun _ => rfl) (fun q1 => ?_)
  refine y_putF (pc := 9) hC hin 0 0 (.array .int) dX3_init_9 tyX3 [(a0, .inr (3, [.ref q1, .null, .null, .null, .null, .null, .null, .int 0])), (q1, aI d 10 (fun _ => 0))] rfl rfl rfl inX3 tyX3_ok nmX3 (by decide) kw_1_36 rfl rfl rfl (by decide +kernel) rfl rfl (Nat.le_of_ble_eq_true rfl) ?_
  refine y_aload_n (pc := 12) hC 0 dX3_init_12 rfl ?_
  refine y_bipush (pc := 13) hC dX3_init_13 10 (by decide) ?_
  refine y_newaI (pc := 15) hC dX3_init_15 10 (fun q2 => [(a0, .inr (3, [.ref q1, .null, .null, .null, .null, .null, .null, .int 0])), (q1, aI d 10 (fun _ => 0)), (q2, aI d 10 (fun _ => 0))]) rfl rfl kw_1_63 ⟨nb rfl, nb rfl⟩ (fun _ => rfl) (fun q2 => ?_)
  refine y_putF (pc := 17) hC hin 0 1 (.array .int) dX3_init_17 tyX3 [(a0, .inr (3, [.ref q1, .ref q2, .null, .null, .null, .null, .null, .int 0])), (q1, aI d 10 (fun _ => 0)), (q2, aI d 10 (fun _ => 0))] rfl rfl rfl inX3 tyX3_ok nmX3 (by decide) kw_1_37 rfl rfl rfl (by decide +kernel) rfl rfl (Nat.le_of_ble_eq_true rfl) ?_
  refine y_aload_n (pc := 20) hC 0 dX3_init_20 rfl ?_
  refine y_bipush (pc := 21) hC dX3_init_21 10 (by decide) ?_
  refine y_newaZ (pc := 23) hC dX3_init_23 10 (fun q3 => [(a0, .inr (3, [.ref q1, .ref q2, .null, .null, .null, .null, .null, .int 0])), (q1, aI d 10 (fun _ => 0)), (q2, aI d 10 (fun _ => 0)), (q3, aZ d 10 (fun _ => false))]) rfl rfl kw_1_64 ⟨nb rfl, nb rfl⟩ (fun _ => rfl) (fun q3 => ?_)
  refine y_putF (pc := 25) hC hin 0 2 (.array .boolean) dX3_init_25 tyX3 [(a0, .inr (3, [.ref q1, .ref q2, .ref q3, .null, .null, .null, .null, .int 0])), (q1, aI d 10 (fun _ => 0)), (q2, aI d 10 (fun _ => 0)), (q3, aZ d 10 (fun _ => false))] rfl rfl rfl inX3 tyX3_ok nmX3 (by decide) kw_1_38 rfl rfl rfl (by decide +kernel) rfl rfl (Nat.le_of_ble_eq_true rfl) ?_
  refine y_aload_n (pc := 28) hC 0 dX3_init_28 rfl ?_
  refine y_bipush (pc := 29) hC dX3_init_29 10 (by decide) ?_
  refine y_newaZ (pc := 31) hC dX3_init_31 10 (fun q4 => [(a0, .inr (3, [.ref q1, .ref q2, .ref q3, .null, .null, .null, .null, .int 0])), (q1, aI d 10 (fun _ => 0)), (q2, aI d 10 (fun _ => 0)), (q3, aZ d 10 (fun _ => false)), (q4, aZ d 10 (fun _ => false))]) rfl rfl kw_1_64 ⟨nb rfl, nb rfl⟩ (fun _ => rfl) (fun q4 => ?_)
  refine y_putF (pc := 33) hC hin 0 3 (.array .boolean) dX3_init_33 tyX3 [(a0, .inr (3, [.ref q1, .ref q2, .ref q3, .ref q4, .null, .null, .null, .int 0])), (q1, aI d 10 (fun _ => 0)), (q2, aI d 10 (fun _ => 0)), (q3, aZ d 10 (fun _ => false)), (q4, aZ d 10 (fun _ => false))] rfl rfl rfl inX3 tyX3_ok nmX3 (by decide) kw_1_39 rfl rfl rfl (by decide +kernel) rfl rfl (Nat.le_of_ble_eq_true rfl) ?_
  refine y_aload_n (pc := 36) hC 0 dX3_init_36 rfl ?_
  refine y_bipush (pc := 37) hC dX3_init_37 10 (by decide) ?_
  refine y_newaI (pc := 39) hC dX3_init_39 10 (fun q5 => [(a0, .inr (3, [.ref q1, .ref q2, .ref q3, .ref q4, .null, .null, .null, .int 0])), (q1, aI d 10 (fun _ => 0)), (q2, aI d 10 (fun _ => 0)), (q3, aZ d 10 (fun _ => false)), (q4, aZ d 10 (fun _ => false)), (q5, aI d 10 (fun _ => 0))]) rfl rfl kw_1_63 ⟨nb rfl, nb rfl⟩ (fun _ => rfl) (fun q5 => ?_)
  refine y_putF (pc := 41) hC hin 0 4 (.array .int) dX3_init_41 tyX3 [(a0, .inr (3, [.ref q1, .ref q2, .ref q3, .ref q4, .ref q5, .null, .null, .int 0])), (q1, aI d 10 (fun _ => 0)), (q2, aI d 10 (fun _ => 0)), (q3, aZ d 10 (fun _ => false)), (q4, aZ d 10 (fun _ => false)), (q5, aI d 10 (fun _ => 0))] rfl rfl rfl inX3 tyX3_ok nmX3 (by decide) kw_1_40 rfl rfl rfl (by decide +kernel) rfl rfl (Nat.le_of_ble_eq_true rfl) ?_
  refine y_aload_n (pc := 44) hC 0 dX3_init_44 rfl ?_
  refine y_bipush (pc := 45) hC dX3_init_45 10 (by decide) ?_
  refine y_newaI (pc := 47) hC dX3_init_47 10 (fun q6 => [(a0, .inr (3, [.ref q1, .ref q2, .ref q3, .ref q4, .ref q5, .null, .null, .int 0])), (q1, aI d 10 (fun _ => 0)), (q2, aI d 10 (fun _ => 0)), (q3, aZ d 10 (fun _ => false)), (q4, aZ d 10 (fun _ => false)), (q5, aI d 10 (fun _ => 0)), (q6, aI d 10 (fun _ => 0))]) rfl rfl kw_1_63 ⟨nb rfl, nb rfl⟩ (fun _ => rfl) (fun q6 => ?_)
  refine y_putF (pc := 49) hC hin 0 5 (.array .int) dX3_init_49 tyX3 [(a0, .inr (3, [.ref q1, .ref q2, .ref q3, .ref q4, .ref q5, .ref q6, .null, .int 0])), (q1, aI d 10 (fun _ => 0)), (q2, aI d 10 (fun _ => 0)), (q3, aZ d 10 (fun _ => false)), (q4, aZ d 10 (fun _ => false)), (q5, aI d 10 (fun _ => 0)), (q6, aI d 10 (fun _ => 0))] rfl rfl rfl inX3 tyX3_ok nmX3 (by decide) kw_1_41 rfl rfl rfl (by decide +kernel) rfl rfl (Nat.le_of_ble_eq_true rfl) ?_
  refine y_aload_n (pc := 52) hC 0 dX3_init_52 rfl ?_
  refine y_bipush (pc := 53) hC dX3_init_53 10 (by decide) ?_
  refine y_newaI (pc := 55) hC dX3_init_55 10 (fun q7 => [(a0, .inr (3, [.ref q1, .ref q2, .ref q3, .ref q4, .ref q5, .ref q6, .null, .int 0])), (q1, aI d 10 (fun _ => 0)), (q2, aI d 10 (fun _ => 0)), (q3, aZ d 10 (fun _ => false)), (q4, aZ d 10 (fun _ => false)), (q5, aI d 10 (fun _ => 0)), (q6, aI d 10 (fun _ => 0)), (q7, aI d 10 (fun _ => 0))]) rfl rfl kw_1_63 ⟨nb rfl, nb rfl⟩ (fun _ => rfl) (fun q7 => ?_)
  refine y_putF (pc := 57) hC hin 0 6 (.array .int) dX3_init_57 tyX3 [(a0, .inr (3, [.ref q1, .ref q2, .ref q3, .ref q4, .ref q5, .ref q6, .ref q7, .int 0])), (q1, aI d 10 (fun _ => 0)), (q2, aI d 10 (fun _ => 0)), (q3, aZ d 10 (fun _ => false)), (q4, aZ d 10 (fun _ => false)), (q5, aI d 10 (fun _ => 0)), (q6, aI d 10 (fun _ => 0)), (q7, aI d 10 (fun _ => 0))] rfl rfl rfl inX3 tyX3_ok nmX3 (by decide) kw_1_42 rfl rfl rfl (by decide +kernel) rfl rfl (Nat.le_of_ble_eq_true rfl) ?_
  refine y_aload_n (pc := 60) hC 0 dX3_init_60 rfl ?_
  refine y_iconst (pc := 61) hC dX3_init_61 0 (by decide) ?_
  refine y_put (pc := 62) hC 0 7 .int dX3_init_62 tyX3 [(a0, .inr (3, [.ref q1, .ref q2, .ref q3, .ref q4, .ref q5, .ref q6, .ref q7, .int 0])), (q1, aI d 10 (fun _ => 0)), (q2, aI d 10 (fun _ => 0)), (q3, aZ d 10 (fun _ => false)), (q4, aZ d 10 (fun _ => false)), (q5, aI d 10 (fun _ => 0)), (q6, aI d 10 (fun _ => 0)), (q7, aI d 10 (fun _ => 0))] rfl rfl rfl inX3 tyX3_ok nmX3 (by decide) kw_1_44 rfl rfl (by decide +kernel) rfl rfl (Nat.le_of_ble_eq_true rfl) ?_
  exact y_vret (fun i => match i with | 1 => q1 | 2 => q2 | 3 => q3 | 4 => q4 | 5 => q5 | 6 => q6 | 7 => q7 | _ => a0) hC hQ (trivial) rfl (nb rfl) (nb rfl) dX3_init_65
theorem n_X3_init : yyN yX3_init RX3 0 := by refine ⟨rfl, ?_, ?_, ?_⟩ <;> decide +kernel
end
section
-- Clouds: gone is told by the place
def isPl (x : Int32) : Bool := if x < 0 then false else if 30 ≤ x then false else true
def gn (x : Int32) : Bool := !isPl x
def gnF (cp : fI) : fB := fun k => gn (cp k)
theorem gnF_upd (cp : fI) (j : Nat) (x : Int32) : gnF (upd cp j x) = updB (gnF cp) j (gn x) := by
  funext k
  unfold gnF updB upd
  by_cases h : k = j
  · rw [if_pos h, if_pos h]
  · rw [if_neg h, if_neg h]
theorem gnF_same (cp : fI) (j : Nat) (x : Int32) (h0 : gn (cp j) = false) (hx : gn x = false) : gnF cp = gnF (upd cp j x) := by
  funext k
  unfold gnF upd
  by_cases h : k = j
  · rw [if_pos h, h, h0, hx]
  · rw [if_neg h]
def driveS (dr : fI) (w : Int32) (j : Nat) (cp : fI) : fI := cond (gnF cp j) cp (upd cp j (cp j + (dr j + w)))
def driveF (dr : fI) (w : Int32) (n : Nat) (cp : fI) : fI := yi n (driveS dr w) cp
def nearS (cp ha : fI) (p : Int32) (j : Nat) (w : Int32 × Int32) : Int32 × Int32 :=
  cond (gnF cp j) w (if ha j ≤ 0 then w else if w.2 ≤ ab (cp j - p) then w else (nI j, ab (cp j - p)))
def nearF (cp ha : fI) (p r : Int32) (n : Nat) : Int32 := (yi n (nearS cp ha p) (-1, r + 1)).1
def shotF (cp : fI) (p r : Int32) (k : Nat) (ha : fI) : fI := upd ha k (mx (ha k - (r + 1 - ab (cp k - p))) 0)
def dropS (cp pl : fI) (ny : Nat) (j : Nat) (w : fI × fI × fI × fI) : fI × fI × fI × fI :=
  cond (gnF cp j) w (if w.1 j ≤ 0 then w else (upd w.1 j (w.1 j - mn (w.1 j) 4), (takeF pl (cp j) (mn (w.1 j) 4) ny (w.2.1, w.2.2.1, w.2.2.2)).1, (takeF pl (cp j) (mn (w.1 j) 4) ny (w.2.1, w.2.2.1, w.2.2.2)).2.1, (takeF pl (cp j) (mn (w.1 j) 4) ny (w.2.1, w.2.2.1, w.2.2.2)).2.2))
def dropF (cp pl : fI) (ny n : Nat) (w : fI × fI × fI × fI) : fI × fI × fI × fI := yi n (dropS cp pl ny) w
def hvP (cp ha : fI) (k : Nat) : Bool := cond (gnF cp k) false (if ha k ≤ 0 then false else true)
def haveF (cp ha : fI) (n : Nat) : Bool := yi n (fun k b => b || hvP cp ha k) false
theorem have_hit {cp ha : fI} {n j : Nat} (hj : j < n) (h : hvP cp ha j = true) : haveF cp ha n = true := by
  induction n with
  | zero => omega
  | succ n ih =>
    show (haveF cp ha n || hvP cp ha n) = true
    by_cases e : j = n
    · rw [← e, h, Bool.or_true]
    · rw [ih (by omega), Bool.true_or]
def thereF (cp : fI) (n : Nat) : Int32 := yi n (fun k a => cond (gnF cp k) a (a + Int32.ofInt 1)) 0
def cfact (cp dr ha : fI) (j w : Nat) : Int32 := if w = 0 then cp j else if w = 1 then dr j else if w = 2 then ha j else bI (gnF cp j)
set_option maxHeartbeats 4000000 in
set_option maxRecDepth 100000 in
theorem c_X4_isPlace (l : Launch) (d : yyD) (x : Int32)  : yyI l yX4_isPlace cX4_isPlace 1 (some .boolean) { frames := 0, cells := 0, slots := 0, locals := 0 } d [.int x] [] [] (bI (isPl x)) := by
  refine yyI_of (own := RX4) [(0, .int x)] (by decide +kernel) rfl (Nat.le_of_ble_eq_true rfl) rfl ?_
  intro G Q hQ hGL hC hGA
  refine y_iload_n (pc := 0) hC 0 dX4_isPlace_0 rfl ?_
  refine y_if_lt (pc := 1) hC dX4_isPlace_1 14 (by decide) (fun c_1 => ?_) (fun c_1 => ?_)
  · refine y_iconst (pc := 14) hC dX4_isPlace_14 0 (by decide) ?_
    exact y_iret hC hQ rfl rfl (by simp [bI, isPl, c_1]) (nb rfl) (nb rfl) dX4_isPlace_15
  · refine y_iload_n (pc := 4) hC 0 dX4_isPlace_4 rfl ?_
    refine y_bipush (pc := 5) hC dX4_isPlace_5 30 (by decide) ?_
    refine y_cmp_ge (pc := 7) hC dX4_isPlace_7 14 (by decide) (fun c_2 => ?_) (fun c_2 => ?_)
    · refine y_iconst (pc := 14) hC dX4_isPlace_14 0 (by decide) ?_
      exact y_iret hC hQ rfl rfl (by simp [bI, isPl, c_1, c_2]) (nb rfl) (nb rfl) dX4_isPlace_15
    · refine y_iconst (pc := 10) hC dX4_isPlace_10 1 (by decide) ?_
      refine y_goto (pc := 11) hC dX4_isPlace_11 15 (by decide) ?_
      exact y_iret hC hQ rfl rfl (by simp [bI, isPl, c_1, c_2]) (nb rfl) (nb rfl) dX4_isPlace_15
theorem n_X4_isPlace : yyN yX4_isPlace RX4 1 := by refine ⟨rfl, ?_, ?_, ?_⟩ <;> decide +kernel
set_option maxHeartbeats 4000000 in
set_option maxRecDepth 100000 in
theorem c_X1_drive (l : Launch) (d : yyD) (e0 : Nat) (e1 : Nat) (e2 : Nat) (e3 : Nat) (e4 : Nat) (cp : fI) (dr : fI) (nc : Nat) (w : Int32) (hc : nc ≤ 20) : yyV (S := Unit) l yX1_drive cX1_drive 3 { frames := 1, cells := 0, slots := 0, locals := 20 } d [.ref e0, .int w] [(e0, .inr (1, [.ref e1, .ref e2, .ref e3, .ref e4, .int (nI nc)])), (e1, aI d 20 cp), (e2, aI d 20 dr), (e4, aZ d 20 (gnF cp))] (fun _ => True) (fun _ => [(e0, .inr (1, [.ref e1, .ref e2, .ref e3, .ref e4, .int (nI nc)])), (e1, aI d 20 (driveF dr w nc cp)), (e2, aI d 20 dr), (e4, aZ d 20 (gnF (driveF dr w nc cp)))]) := by
  refine yyV_of (own := RX1) [(0, .ref e0), (1, .int w)] (by decide +kernel) rfl (Nat.le_of_ble_eq_true rfl) rfl ?_
  intro G Q hQ hGL hC hGA hin
  refine y_iconst (pc := 0) hC dX1_drive_0 0 (by decide) ?_
  refine y_istore_n (pc := 1) hC dX1_drive_1 [(2, .int 0), (0, .ref e0), (1, .int w)] rfl (by decide) ?_
  have lpj1 : ∀ r1 j1 : Nat, j1 + r1 = nc → yyW d G 0 0 Q [(e0, .inr (1, [.ref e1, .ref e2, .ref e3, .ref e4, .int (nI nc)])), (e1, aI d 20 (yi j1 (driveS dr w) cp)), (e2, aI d 20 dr), (e4, aZ d 20 (gnF (yi j1 (driveS dr w) cp)))] [(2, .int (nI j1)), (0, .ref e0), (1, .int w)] 2 [] := by
    intro r1
    induction r1 with
    | zero =>
      intro j1 hj1
      have ej1 : j1 = nc := by omega
      rw [ej1]
      refine y_iload_n (pc := 2) hC 0 dX1_drive_2 rfl ?_
      refine y_aload_n (pc := 3) hC 1 dX1_drive_3 rfl ?_
      refine y_get (pc := 4) hC 0 4 dX1_drive_4 rfl rfl inX1 (by decide) kw_1_99 rfl rfl ?_
      refine y_ge_t (pc := 7) (a := nc) (b := nc) hC dX1_drive_7 65 (by decide) (by omega) (by omega) ?_
      exact y_vret (()) hC hQ (trivial) rfl (nb rfl) (nb rfl) dX1_drive_65
    | succ r1 ihj1 =>
      intro j1 hj1
      have lj1 : j1 < nc := by omega
      refine y_iload_n (pc := 2) hC 0 dX1_drive_2 rfl ?_
      refine y_aload_n (pc := 3) hC 1 dX1_drive_3 rfl ?_
      refine y_get (pc := 4) hC 0 4 dX1_drive_4 rfl rfl inX1 (by decide) kw_1_99 rfl rfl ?_
      refine y_ge_f (pc := 7) (a := j1) (b := nc) hC dX1_drive_7 65 (by decide) (by omega) (by omega) ?_
      refine y_aload_n (pc := 10) hC 1 dX1_drive_10 rfl ?_
      refine y_get (pc := 11) hC 0 3 dX1_drive_11 rfl rfl inX1 (by decide) kw_1_98 rfl rfl ?_
      refine y_iload_n (pc := 14) hC 0 dX1_drive_14 rfl ?_
      refine y_zald (pc := 15) hC 3 (j := j1) dX1_drive_15 (bI ((gnF (yi j1 (driveS dr w) cp)) j1)) rfl (by omega) rfl rfl ?_
      refine y_bne (pc := 16) hC dX1_drive_16 59 (by decide) (fun c_2 => ?_) (fun c_2 => ?_)
      · refine y_iinc (pc := 59) hC 0 dX1_drive_59 (nI (j1 + 1)) [(2, .int (nI (j1 + 1))), (0, .ref e0), (1, .int w)] rfl (nI_inc _) rfl (by decide) ?_
        refine y_goto (pc := 62) hC dX1_drive_62 2 (by decide) ?_
        refine y_ws [(e0, .inr (1, [.ref e1, .ref e2, .ref e3, .ref e4, .int (nI nc)])), (e1, aI d 20 (yi (j1 + 1) (driveS dr w) cp)), (e2, aI d 20 dr), (e4, aZ d 20 (gnF (yi (j1 + 1) (driveS dr w) cp)))] (by simp only [yi, driveS, c_2, gnF_upd, gn, ↓reduceIte, cond_true, cond_false, Bool.not_true, Bool.not_false]) ?_
        exact ihj1 (j1 + 1) (by omega)
      · refine y_aload_n (pc := 19) hC 1 dX1_drive_19 rfl ?_
        refine y_get (pc := 20) hC 0 0 dX1_drive_20 rfl rfl inX1 (by decide) kw_1_95 rfl rfl ?_
        refine y_iload_n (pc := 23) hC 0 dX1_drive_23 rfl ?_
        refine y_dup2 (pc := 24) hC dX1_drive_24 rfl rfl ?_
        refine y_iald (pc := 25) hC 1 (j := j1) dX1_drive_25 ((yi j1 (driveS dr w) cp) j1) rfl (by omega) rfl rfl ?_
        refine y_aload_n (pc := 26) hC 1 dX1_drive_26 rfl ?_
        refine y_get (pc := 27) hC 0 1 dX1_drive_27 rfl rfl inX1 (by decide) kw_1_96 rfl rfl ?_
        refine y_iload_n (pc := 30) hC 0 dX1_drive_30 rfl ?_
        refine y_iald (pc := 31) hC 2 (j := j1) dX1_drive_31 (dr j1) rfl (by omega) rfl rfl ?_
        refine y_iload_n (pc := 32) hC 2 dX1_drive_32 rfl ?_
        refine y_iadd (pc := 33) hC dX1_drive_33 ((dr j1) + w) rfl ?_
        refine y_iadd (pc := 34) hC dX1_drive_34 (((yi j1 (driveS dr w) cp) j1) + ((dr j1) + w)) rfl ?_
        refine y_iast (pc := 35) hC 1 (j := j1) dX1_drive_35 (upd (yi j1 (driveS dr w) cp) j1 (((yi j1 (driveS dr w) cp) j1) + ((dr j1) + w))) [(e0, .inr (1, [.ref e1, .ref e2, .ref e3, .ref e4, .int (nI nc)])), (e1, aI d 20 (upd (yi j1 (driveS dr w) cp) j1 (((yi j1 (driveS dr w) cp) j1) + ((dr j1) + w)))), (e2, aI d 20 dr), (e4, aZ d 20 (gnF (yi j1 (driveS dr w) cp)))] rfl (by omega) rfl rfl rfl ?_
        refine y_aload_n (pc := 36) hC 1 dX1_drive_36 rfl ?_
        refine y_get (pc := 37) hC 0 3 dX1_drive_37 rfl rfl inX1 (by decide) kw_1_98 rfl rfl ?_
        refine y_iload_n (pc := 40) hC 0 dX1_drive_40 rfl ?_
        refine y_aload_n (pc := 41) hC 1 dX1_drive_41 rfl ?_
        refine y_get (pc := 42) hC 0 0 dX1_drive_42 rfl rfl inX1 (by decide) kw_1_95 rfl rfl ?_
        refine y_iload_n (pc := 45) hC 0 dX1_drive_45 rfl ?_
        refine y_iald (pc := 46) hC 1 (j := j1) dX1_drive_46 (((yi j1 (driveS dr w) cp) j1) + ((dr j1) + w)) rfl (by omega) rfl pk_us ?_
        refine y_snI (pc := 47) (As := [.int (((yi j1 (driveS dr w) cp) j1) + ((dr j1) + w))]) (st := [.int (nI j1), .ref e4]) hC (c_X4_isPlace (gL G) d (((yi j1 (driveS dr w) cp) j1) + ((dr j1) + w))) kw_2_0 kn_0 kw_1_239 kw_1_1 n_X4_isPlace ⟨⟨nb rfl, nb rfl⟩, ⟨nb rfl, nb rfl⟩, nb rfl⟩ [] [0, 1, 2, 3] [0, 1, 2, 3] [(e0, .inr (1, [.ref e1, .ref e2, .ref e3, .ref e4, .int (nI nc)])), (e1, aI d 20 (upd (yi j1 (driveS dr w) cp) j1 (((yi j1 (driveS dr w) cp) j1) + ((dr j1) + w)))), (e2, aI d 20 dr), (e4, aZ d 20 (gnF (yi j1 (driveS dr w) cp)))] [(e0, .inr (1, [.ref e1, .ref e2, .ref e3, .ref e4, .int (nI nc)])), (e1, aI d 20 (upd (yi j1 (driveS dr w) cp) j1 (((yi j1 (driveS dr w) cp) j1) + ((dr j1) + w)))), (e2, aI d 20 dr), (e4, aZ d 20 (gnF (yi j1 (driveS dr w) cp)))] ⟨rfl, by decide, rfl, by decide, by decide⟩ ⟨rfl, by decide⟩ rfl dX1_drive_47 ?_
        refine y_bne (pc := 50) hC dX1_drive_50 57 (by decide) (fun c_3 => ?_) (fun c_3 => ?_)
        · refine y_iconst (pc := 57) hC dX1_drive_57 0 (by decide) ?_
          refine y_zast (pc := 58) hC 3 (j := j1) dX1_drive_58 false (updB (gnF (yi j1 (driveS dr w) cp)) j1 false) [(e0, .inr (1, [.ref e1, .ref e2, .ref e3, .ref e4, .int (nI nc)])), (e1, aI d 20 (upd (yi j1 (driveS dr w) cp) j1 (((yi j1 (driveS dr w) cp) j1) + ((dr j1) + w)))), (e2, aI d 20 dr), (e4, aZ d 20 (updB (gnF (yi j1 (driveS dr w) cp)) j1 false))] rfl (by omega) rfl rfl rfl ?_
          refine y_iinc (pc := 59) hC 0 dX1_drive_59 (nI (j1 + 1)) [(2, .int (nI (j1 + 1))), (0, .ref e0), (1, .int w)] rfl (nI_inc _) rfl (by decide) ?_
          refine y_goto (pc := 62) hC dX1_drive_62 2 (by decide) ?_
          refine y_ws [(e0, .inr (1, [.ref e1, .ref e2, .ref e3, .ref e4, .int (nI nc)])), (e1, aI d 20 (yi (j1 + 1) (driveS dr w) cp)), (e2, aI d 20 dr), (e4, aZ d 20 (gnF (yi (j1 + 1) (driveS dr w) cp)))] (by simp only [yi, driveS, c_2, c_3, gnF_upd, gn, ↓reduceIte, cond_true, cond_false, Bool.not_true, Bool.not_false]) ?_
          exact ihj1 (j1 + 1) (by omega)
        · refine y_iconst (pc := 53) hC dX1_drive_53 1 (by decide) ?_
          refine y_goto (pc := 54) hC dX1_drive_54 58 (by decide) ?_
          refine y_zast (pc := 58) hC 3 (j := j1) dX1_drive_58 true (updB (gnF (yi j1 (driveS dr w) cp)) j1 true) [(e0, .inr (1, [.ref e1, .ref e2, .ref e3, .ref e4, .int (nI nc)])), (e1, aI d 20 (upd (yi j1 (driveS dr w) cp) j1 (((yi j1 (driveS dr w) cp) j1) + ((dr j1) + w)))), (e2, aI d 20 dr), (e4, aZ d 20 (updB (gnF (yi j1 (driveS dr w) cp)) j1 true))] rfl (by omega) rfl rfl rfl ?_
          refine y_iinc (pc := 59) hC 0 dX1_drive_59 (nI (j1 + 1)) [(2, .int (nI (j1 + 1))), (0, .ref e0), (1, .int w)] rfl (nI_inc _) rfl (by decide) ?_
          refine y_goto (pc := 62) hC dX1_drive_62 2 (by decide) ?_
          refine y_ws [(e0, .inr (1, [.ref e1, .ref e2, .ref e3, .ref e4, .int (nI nc)])), (e1, aI d 20 (yi (j1 + 1) (driveS dr w) cp)), (e2, aI d 20 dr), (e4, aZ d 20 (gnF (yi (j1 + 1) (driveS dr w) cp)))] (by simp only [yi, driveS, c_2, c_3, gnF_upd, gn, ↓reduceIte, cond_true, cond_false, Bool.not_true, Bool.not_false]) ?_
          exact ihj1 (j1 + 1) (by omega)
  refine y_lv [(2, .int 0), (0, .ref e0), (1, .int w)] [0, 1, 2] rfl ?_
  exact lpj1 nc 0 (by omega)
theorem n_X1_drive : yyN yX1_drive RX1 1 := by refine ⟨rfl, ?_, ?_, ?_⟩ <;> decide +kernel
set_option maxHeartbeats 4000000 in
set_option maxRecDepth 100000 in
theorem c_X1_nearest (l : Launch) (d : yyD) (e0 : Nat) (e1 : Nat) (e2 : Nat) (e3 : Nat) (e4 : Nat) (cp : fI) (ha : fI) (nc : Nat) (p : Int32) (r : Int32) (hc : nc ≤ 20) : yyI l yX1_nearest cX1_nearest 7 (some .int) { frames := 1, cells := 0, slots := 0, locals := 13 } d [.ref e0, .int p, .int r] [(e0, .inr (1, [.ref e1, .ref e2, .ref e3, .ref e4, .int (nI nc)])), (e1, aI d 20 cp), (e3, aI d 20 ha), (e4, aZ d 20 (gnF cp))] [(e0, .inr (1, [.ref e1, .ref e2, .ref e3, .ref e4, .int (nI nc)])), (e1, aI d 20 cp), (e3, aI d 20 ha), (e4, aZ d 20 (gnF cp))] (nearF cp ha p r nc) := by
  refine yyI_of (own := RX1) [(0, .ref e0), (1, .int p), (2, .int r)] (by decide +kernel) rfl (Nat.le_of_ble_eq_true rfl) rfl ?_
  intro G Q hQ hGL hC hGA
  refine y_iconst (pc := 0) hC dX1_nearest_0 (-1) (by decide) ?_
  refine y_istore_n (pc := 1) hC dX1_nearest_1 [(3, .int (-1)), (0, .ref e0), (1, .int p), (2, .int r)] rfl (by decide) ?_
  refine y_iload_n (pc := 2) hC 3 dX1_nearest_2 rfl ?_
  refine y_iconst (pc := 3) hC dX1_nearest_3 1 (by decide) ?_
  refine y_iadd (pc := 4) hC dX1_nearest_4 (r + 1) rfl ?_
  refine y_istore (pc := 5) hC dX1_nearest_5 [(4, .int (r + 1)), (3, .int (-1)), (0, .ref e0), (1, .int p), (2, .int r)] rfl (by decide) ?_
  refine y_iconst (pc := 7) hC dX1_nearest_7 0 (by decide) ?_
  refine y_istore (pc := 8) hC dX1_nearest_8 [(5, .int 0), (4, .int (r + 1)), (3, .int (-1)), (0, .ref e0), (1, .int p), (2, .int r)] rfl (by decide) ?_
  have lpj1 : ∀ r1 j1 : Nat, j1 + r1 = nc → yyW d G 0 0 Q [(e0, .inr (1, [.ref e1, .ref e2, .ref e3, .ref e4, .int (nI nc)])), (e1, aI d 20 cp), (e3, aI d 20 ha), (e4, aZ d 20 (gnF cp))] [(5, .int (nI j1)), (4, .int ((yi j1 (nearS cp ha p) (-1, r + 1)).2)), (3, .int ((yi j1 (nearS cp ha p) (-1, r + 1)).1)), (0, .ref e0), (1, .int p), (2, .int r)] 10 [] := by
    intro r1
    induction r1 with
    | zero =>
      intro j1 hj1
      have ej1 : j1 = nc := by omega
      rw [ej1]
      refine y_iload (pc := 10) hC 0 dX1_nearest_10 rfl ?_
      refine y_aload_n (pc := 12) hC 3 dX1_nearest_12 rfl ?_
      refine y_get (pc := 13) hC 0 4 dX1_nearest_13 rfl rfl inX1 (by decide) kw_1_99 rfl rfl ?_
      refine y_ge_t (pc := 16) (a := nc) (b := nc) hC dX1_nearest_16 73 (by decide) (by omega) (by omega) ?_
      refine y_iload_n (pc := 73) hC 2 dX1_nearest_73 rfl ?_
      exact y_iret hC hQ rfl rfl rfl (nb rfl) (nb rfl) dX1_nearest_74
    | succ r1 ihj1 =>
      intro j1 hj1
      have lj1 : j1 < nc := by omega
      refine y_iload (pc := 10) hC 0 dX1_nearest_10 rfl ?_
      refine y_aload_n (pc := 12) hC 3 dX1_nearest_12 rfl ?_
      refine y_get (pc := 13) hC 0 4 dX1_nearest_13 rfl rfl inX1 (by decide) kw_1_99 rfl rfl ?_
      refine y_ge_f (pc := 16) (a := j1) (b := nc) hC dX1_nearest_16 73 (by decide) (by omega) (by omega) ?_
      refine y_aload_n (pc := 19) hC 3 dX1_nearest_19 rfl ?_
      refine y_get (pc := 20) hC 0 0 dX1_nearest_20 rfl rfl inX1 (by decide) kw_1_95 rfl rfl ?_
      refine y_iload (pc := 23) hC 0 dX1_nearest_23 rfl ?_
      refine y_iald (pc := 25) hC 1 (j := j1) dX1_nearest_25 (cp j1) rfl (by omega) rfl rfl ?_
      refine y_iload_n (pc := 26) hC 4 dX1_nearest_26 rfl ?_
      refine y_isub (pc := 27) hC dX1_nearest_27 ((cp j1) - p) rfl ?_
      refine y_abs (pc := 28) hC dX1_nearest_28 kw_1_218 kw_1_219 kw_1_14 kw_1_220 ⟨nb rfl, nb rfl, nb rfl, nb rfl⟩ ?_
      refine y_istore (pc := 31) hC dX1_nearest_31 [(6, .int (ab ((cp j1) - p))), (5, .int (nI j1)), (4, .int ((yi j1 (nearS cp ha p) (-1, r + 1)).2)), (3, .int ((yi j1 (nearS cp ha p) (-1, r + 1)).1)), (0, .ref e0), (1, .int p), (2, .int r)] rfl (by decide) ?_
      refine y_aload_n (pc := 33) hC 4 dX1_nearest_33 rfl ?_
      refine y_get (pc := 34) hC 0 3 dX1_nearest_34 rfl rfl inX1 (by decide) kw_1_98 rfl rfl ?_
      refine y_iload (pc := 37) hC 1 dX1_nearest_37 rfl ?_
      refine y_zald (pc := 39) hC 3 (j := j1) dX1_nearest_39 (bI ((gnF cp) j1)) rfl (by omega) rfl rfl ?_
      refine y_bne (pc := 40) hC dX1_nearest_40 67 (by decide) (fun c_2 => ?_) (fun c_2 => ?_)
      · refine y_iinc (pc := 67) hC 1 dX1_nearest_67 (nI (j1 + 1)) [(5, .int (nI (j1 + 1))), (6, .int (ab ((cp j1) - p))), (4, .int ((yi j1 (nearS cp ha p) (-1, r + 1)).2)), (3, .int ((yi j1 (nearS cp ha p) (-1, r + 1)).1)), (0, .ref e0), (1, .int p), (2, .int r)] rfl (nI_inc _) rfl (by decide) ?_
        refine y_goto (pc := 70) hC dX1_nearest_70 10 (by decide) ?_
        refine y_lv [(5, .int (nI (j1 + 1))), (4, .int ((yi j1 (nearS cp ha p) (-1, r + 1)).2)), (3, .int ((yi j1 (nearS cp ha p) (-1, r + 1)).1)), (0, .ref e0), (1, .int p), (2, .int r)] [0, 2, 3, 4, 5, 6] rfl ?_
        refine y_ws [(e0, .inr (1, [.ref e1, .ref e2, .ref e3, .ref e4, .int (nI nc)])), (e1, aI d 20 cp), (e3, aI d 20 ha), (e4, aZ d 20 (gnF cp))] rfl ?_
        refine y_lve [(5, .int (nI (j1 + 1))), (4, .int ((yi (j1 + 1) (nearS cp ha p) (-1, r + 1)).2)), (3, .int ((yi (j1 + 1) (nearS cp ha p) (-1, r + 1)).1)), (0, .ref e0), (1, .int p), (2, .int r)] (by simp only [yi, nearS, c_2, ↓reduceIte, cond_true, cond_false]) ?_
        exact ihj1 (j1 + 1) (by omega)
      · refine y_aload_n (pc := 43) hC 4 dX1_nearest_43 rfl ?_
        refine y_get (pc := 44) hC 0 2 dX1_nearest_44 rfl rfl inX1 (by decide) kw_1_97 rfl rfl ?_
        refine y_iload (pc := 47) hC 1 dX1_nearest_47 rfl ?_
        refine y_iald (pc := 49) hC 2 (j := j1) dX1_nearest_49 (ha j1) rfl (by omega) rfl rfl ?_
        refine y_if_le (pc := 50) hC dX1_nearest_50 67 (by decide) (fun c_3 => ?_) (fun c_3 => ?_)
        · refine y_iinc (pc := 67) hC 1 dX1_nearest_67 (nI (j1 + 1)) [(5, .int (nI (j1 + 1))), (6, .int (ab ((cp j1) - p))), (4, .int ((yi j1 (nearS cp ha p) (-1, r + 1)).2)), (3, .int ((yi j1 (nearS cp ha p) (-1, r + 1)).1)), (0, .ref e0), (1, .int p), (2, .int r)] rfl (nI_inc _) rfl (by decide) ?_
          refine y_goto (pc := 70) hC dX1_nearest_70 10 (by decide) ?_
          refine y_lv [(5, .int (nI (j1 + 1))), (4, .int ((yi j1 (nearS cp ha p) (-1, r + 1)).2)), (3, .int ((yi j1 (nearS cp ha p) (-1, r + 1)).1)), (0, .ref e0), (1, .int p), (2, .int r)] [0, 2, 3, 4, 5, 6] rfl ?_
          refine y_ws [(e0, .inr (1, [.ref e1, .ref e2, .ref e3, .ref e4, .int (nI nc)])), (e1, aI d 20 cp), (e3, aI d 20 ha), (e4, aZ d 20 (gnF cp))] rfl ?_
          refine y_lve [(5, .int (nI (j1 + 1))), (4, .int ((yi (j1 + 1) (nearS cp ha p) (-1, r + 1)).2)), (3, .int ((yi (j1 + 1) (nearS cp ha p) (-1, r + 1)).1)), (0, .ref e0), (1, .int p), (2, .int r)] (by simp only [yi, nearS, c_2, c_3, ↓reduceIte, cond_true, cond_false]) ?_
          exact ihj1 (j1 + 1) (by omega)
        · refine y_iload (pc := 53) hC 0 dX1_nearest_53 rfl ?_
          refine y_iload (pc := 55) hC 2 dX1_nearest_55 rfl ?_
          refine y_cmp_ge (pc := 57) hC dX1_nearest_57 67 (by decide) (fun c_4 => ?_) (fun c_4 => ?_)
          · refine y_iinc (pc := 67) hC 1 dX1_nearest_67 (nI (j1 + 1)) [(5, .int (nI (j1 + 1))), (6, .int (ab ((cp j1) - p))), (4, .int ((yi j1 (nearS cp ha p) (-1, r + 1)).2)), (3, .int ((yi j1 (nearS cp ha p) (-1, r + 1)).1)), (0, .ref e0), (1, .int p), (2, .int r)] rfl (nI_inc _) rfl (by decide) ?_
            refine y_goto (pc := 70) hC dX1_nearest_70 10 (by decide) ?_
            refine y_lv [(5, .int (nI (j1 + 1))), (4, .int ((yi j1 (nearS cp ha p) (-1, r + 1)).2)), (3, .int ((yi j1 (nearS cp ha p) (-1, r + 1)).1)), (0, .ref e0), (1, .int p), (2, .int r)] [0, 2, 3, 4, 5, 6] rfl ?_
            refine y_ws [(e0, .inr (1, [.ref e1, .ref e2, .ref e3, .ref e4, .int (nI nc)])), (e1, aI d 20 cp), (e3, aI d 20 ha), (e4, aZ d 20 (gnF cp))] rfl ?_
            refine y_lve [(5, .int (nI (j1 + 1))), (4, .int ((yi (j1 + 1) (nearS cp ha p) (-1, r + 1)).2)), (3, .int ((yi (j1 + 1) (nearS cp ha p) (-1, r + 1)).1)), (0, .ref e0), (1, .int p), (2, .int r)] (by simp only [yi, nearS, c_2, c_3, c_4, ↓reduceIte, cond_true, cond_false]) ?_
            exact ihj1 (j1 + 1) (by omega)
          · refine y_iload (pc := 60) hC 1 dX1_nearest_60 rfl ?_
            refine y_istore_n (pc := 62) hC dX1_nearest_62 [(3, .int (nI j1)), (6, .int (ab ((cp j1) - p))), (5, .int (nI j1)), (4, .int ((yi j1 (nearS cp ha p) (-1, r + 1)).2)), (0, .ref e0), (1, .int p), (2, .int r)] rfl (by decide) ?_
            refine y_iload (pc := 63) hC 1 dX1_nearest_63 rfl ?_
            refine y_istore (pc := 65) hC dX1_nearest_65 [(4, .int (ab ((cp j1) - p))), (3, .int (nI j1)), (6, .int (ab ((cp j1) - p))), (5, .int (nI j1)), (0, .ref e0), (1, .int p), (2, .int r)] rfl (by decide) ?_
            refine y_iinc (pc := 67) hC 3 dX1_nearest_67 (nI (j1 + 1)) [(5, .int (nI (j1 + 1))), (4, .int (ab ((cp j1) - p))), (3, .int (nI j1)), (6, .int (ab ((cp j1) - p))), (0, .ref e0), (1, .int p), (2, .int r)] rfl (nI_inc _) rfl (by decide) ?_
            refine y_goto (pc := 70) hC dX1_nearest_70 10 (by decide) ?_
            refine y_lv [(5, .int (nI (j1 + 1))), (4, .int (ab ((cp j1) - p))), (3, .int (nI j1)), (0, .ref e0), (1, .int p), (2, .int r)] [0, 1, 2, 4, 5, 6] rfl ?_
            refine y_ws [(e0, .inr (1, [.ref e1, .ref e2, .ref e3, .ref e4, .int (nI nc)])), (e1, aI d 20 cp), (e3, aI d 20 ha), (e4, aZ d 20 (gnF cp))] rfl ?_
            refine y_lve [(5, .int (nI (j1 + 1))), (4, .int ((yi (j1 + 1) (nearS cp ha p) (-1, r + 1)).2)), (3, .int ((yi (j1 + 1) (nearS cp ha p) (-1, r + 1)).1)), (0, .ref e0), (1, .int p), (2, .int r)] (by simp only [yi, nearS, c_2, c_3, c_4, ↓reduceIte, cond_true, cond_false]) ?_
            exact ihj1 (j1 + 1) (by omega)
  refine y_lv [(5, .int 0), (4, .int (r + 1)), (3, .int (-1)), (0, .ref e0), (1, .int p), (2, .int r)] [0, 1, 2, 3, 4, 5] rfl ?_
  exact lpj1 nc 0 (by omega)
theorem n_X1_nearest : yyN yX1_nearest RX1 2 := by refine ⟨rfl, ?_, ?_, ?_⟩ <;> decide +kernel
set_option maxHeartbeats 4000000 in
set_option maxRecDepth 100000 in
theorem c_X1_takeShot (l : Launch) (d : yyD) (e0 : Nat) (e1 : Nat) (e2 : Nat) (e3 : Nat) (e4 : Nat) (cp : fI) (ha : fI) (nc : Nat) (k : Nat) (p : Int32) (r : Int32) (hc : nc ≤ 20) (hk : k < nc) : yyV (S := Unit) l yX1_takeShot cX1_takeShot 5 { frames := 1, cells := 0, slots := 0, locals := 15 } d [.ref e0, .int (nI k), .int p, .int r] [(e0, .inr (1, [.ref e1, .ref e2, .ref e3, .ref e4, .int (nI nc)])), (e1, aI d 20 cp), (e3, aI d 20 ha)] (fun _ => True) (fun _ => [(e0, .inr (1, [.ref e1, .ref e2, .ref e3, .ref e4, .int (nI nc)])), (e1, aI d 20 cp), (e3, aI d 20 (shotF cp p r k ha))]) := by
  refine yyV_of (own := RX1) [(0, .ref e0), (1, .int (nI k)), (2, .int p), (3, .int r)] (by decide +kernel) rfl (Nat.le_of_ble_eq_true rfl) rfl ?_
  intro G Q hQ hGL hC hGA hin
  refine y_aload_n (pc := 0) hC 0 dX1_takeShot_0 rfl ?_
  refine y_get (pc := 1) hC 0 0 dX1_takeShot_1 rfl rfl inX1 (by decide) kw_1_95 rfl rfl ?_
  refine y_iload_n (pc := 4) hC 1 dX1_takeShot_4 rfl ?_
  refine y_iald (pc := 5) hC 1 (j := k) dX1_takeShot_5 (cp k) rfl (by omega) rfl rfl ?_
  refine y_iload_n (pc := 6) hC 2 dX1_takeShot_6 rfl ?_
  refine y_isub (pc := 7) hC dX1_takeShot_7 ((cp k) - p) rfl ?_
  refine y_abs (pc := 8) hC dX1_takeShot_8 kw_1_218 kw_1_219 kw_1_14 kw_1_220 ⟨nb rfl, nb rfl, nb rfl, nb rfl⟩ ?_
  refine y_istore (pc := 11) hC dX1_takeShot_11 [(4, .int (ab ((cp k) - p))), (0, .ref e0), (1, .int (nI k)), (2, .int p), (3, .int r)] rfl (by decide) ?_
  refine y_aload_n (pc := 13) hC 1 dX1_takeShot_13 rfl ?_
  refine y_get (pc := 14) hC 0 2 dX1_takeShot_14 rfl rfl inX1 (by decide) kw_1_97 rfl rfl ?_
  refine y_iload_n (pc := 17) hC 2 dX1_takeShot_17 rfl ?_
  refine y_aload_n (pc := 18) hC 1 dX1_takeShot_18 rfl ?_
  refine y_get (pc := 19) hC 0 2 dX1_takeShot_19 rfl rfl inX1 (by decide) kw_1_97 rfl rfl ?_
  refine y_iload_n (pc := 22) hC 2 dX1_takeShot_22 rfl ?_
  refine y_iald (pc := 23) hC 2 (j := k) dX1_takeShot_23 (ha k) rfl (by omega) rfl rfl ?_
  refine y_iload_n (pc := 24) hC 4 dX1_takeShot_24 rfl ?_
  refine y_iconst (pc := 25) hC dX1_takeShot_25 1 (by decide) ?_
  refine y_iadd (pc := 26) hC dX1_takeShot_26 (r + 1) rfl ?_
  refine y_iload (pc := 27) hC 0 dX1_takeShot_27 rfl ?_
  refine y_isub (pc := 29) hC dX1_takeShot_29 ((r + 1) - (ab ((cp k) - p))) rfl ?_
  refine y_isub (pc := 30) hC dX1_takeShot_30 ((ha k) - ((r + 1) - (ab ((cp k) - p)))) rfl ?_
  refine y_iconst (pc := 31) hC dX1_takeShot_31 0 (by decide) ?_
  refine y_max (pc := 32) hC dX1_takeShot_32 kw_2_222 kw_2_223 kw_1_14 kw_2_224 ⟨nb rfl, nb rfl, nb rfl, nb rfl⟩ ?_
  refine y_iast (pc := 35) hC 2 (j := k) dX1_takeShot_35 (upd ha k (mx ((ha k) - ((r + 1) - (ab ((cp k) - p)))) 0)) [(e0, .inr (1, [.ref e1, .ref e2, .ref e3, .ref e4, .int (nI nc)])), (e1, aI d 20 cp), (e3, aI d 20 (upd ha k (mx ((ha k) - ((r + 1) - (ab ((cp k) - p)))) 0)))] rfl (by omega) rfl rfl rfl ?_
  exact y_vret (()) hC hQ (trivial) rfl (nb rfl) (nb rfl) dX1_takeShot_36
theorem n_X1_takeShot : yyN yX1_takeShot RX1 3 := by refine ⟨rfl, ?_, ?_, ?_⟩ <;> decide +kernel
set_option maxHeartbeats 4000000 in
set_option maxRecDepth 100000 in
theorem c_X1_dropUpon (l : Launch) (d : yyD) (e0 : Nat) (e1 : Nat) (e2 : Nat) (e3 : Nat) (e4 : Nat) (a0 : Nat) (a1 : Nat) (a2 : Nat) (a3 : Nat) (a4 : Nat) (a5 : Nat) (a6 : Nat) (a7 : Nat) (cp : fI) (ha : fI) (nc : Nat) (pl : fI) (vi : fI) (lt : fI) (la : fI) (n : Nat) (hc : nc ≤ 20) (hn : n ≤ 10) : yyV (S := Unit) l yX1_dropUpon cX1_dropUpon 4 { frames := 2, cells := 0, slots := 0, locals := 37 } d [.ref e0, .ref a0] [(e0, .inr (1, [.ref e1, .ref e2, .ref e3, .ref e4, .int (nI nc)])), (e1, aI d 20 cp), (e3, aI d 20 ha), (e4, aZ d 20 (gnF cp)), (a0, .inr (3, [.ref a1, .ref a2, .ref a3, .ref a4, .ref a5, .ref a6, .ref a7, .int (nI n)])), (a1, aI d 10 pl), (a2, aI d 10 vi), (a5, aI d 10 lt), (a7, aI d 10 la)] (fun _ => True) (fun _ => [(e0, .inr (1, [.ref e1, .ref e2, .ref e3, .ref e4, .int (nI nc)])), (e1, aI d 20 cp), (e3, aI d 20 ((dropF cp pl n nc (ha, vi, lt, la)).1)), (e4, aZ d 20 (gnF cp)), (a0, .inr (3, [.ref a1, .ref a2, .ref a3, .ref a4, .ref a5, .ref a6, .ref a7, .int (nI n)])), (a1, aI d 10 pl), (a2, aI d 10 ((dropF cp pl n nc (ha, vi, lt, la)).2.1)), (a5, aI d 10 ((dropF cp pl n nc (ha, vi, lt, la)).2.2.1)), (a7, aI d 10 ((dropF cp pl n nc (ha, vi, lt, la)).2.2.2))]) := by
  refine yyV_of (own := RX1) [(0, .ref e0), (1, .ref a0)] (by decide +kernel) rfl (Nat.le_of_ble_eq_true rfl) rfl ?_
  intro G Q hQ hGL hC hGA hin
  refine y_iconst (pc := 0) hC dX1_dropUpon_0 0 (by decide) ?_
  refine y_istore_n (pc := 1) hC dX1_dropUpon_1 [(2, .int 0), (0, .ref e0), (1, .ref a0)] rfl (by decide) ?_
  have lpj1 : ∀ r1 j1 : Nat, j1 + r1 = nc → yyW d G 0 0 Q [(e0, .inr (1, [.ref e1, .ref e2, .ref e3, .ref e4, .int (nI nc)])), (e1, aI d 20 cp), (e3, aI d 20 ((yi j1 (dropS cp pl n) (ha, vi, lt, la)).1)), (e4, aZ d 20 (gnF cp)), (a0, .inr (3, [.ref a1, .ref a2, .ref a3, .ref a4, .ref a5, .ref a6, .ref a7, .int (nI n)])), (a1, aI d 10 pl), (a2, aI d 10 ((yi j1 (dropS cp pl n) (ha, vi, lt, la)).2.1)), (a5, aI d 10 ((yi j1 (dropS cp pl n) (ha, vi, lt, la)).2.2.1)), (a7, aI d 10 ((yi j1 (dropS cp pl n) (ha, vi, lt, la)).2.2.2))] [(2, .int (nI j1)), (0, .ref e0), (1, .ref a0)] 2 [] := by
    intro r1
    induction r1 with
    | zero =>
      intro j1 hj1
      have ej1 : j1 = nc := by omega
      rw [ej1]
      refine y_iload_n (pc := 2) hC 0 dX1_dropUpon_2 rfl ?_
      refine y_aload_n (pc := 3) hC 1 dX1_dropUpon_3 rfl ?_
      refine y_get (pc := 4) hC 0 4 dX1_dropUpon_4 rfl rfl inX1 (by decide) kw_1_99 rfl rfl ?_
      refine y_ge_t (pc := 7) (a := nc) (b := nc) hC dX1_dropUpon_7 66 (by decide) (by omega) (by omega) ?_
      exact y_vret (()) hC hQ (trivial) rfl (nb rfl) (nb rfl) dX1_dropUpon_66
    | succ r1 ihj1 =>
      intro j1 hj1
      have lj1 : j1 < nc := by omega
      refine y_iload_n (pc := 2) hC 0 dX1_dropUpon_2 rfl ?_
      refine y_aload_n (pc := 3) hC 1 dX1_dropUpon_3 rfl ?_
      refine y_get (pc := 4) hC 0 4 dX1_dropUpon_4 rfl rfl inX1 (by decide) kw_1_99 rfl rfl ?_
      refine y_ge_f (pc := 7) (a := j1) (b := nc) hC dX1_dropUpon_7 66 (by decide) (by omega) (by omega) ?_
      refine y_aload_n (pc := 10) hC 1 dX1_dropUpon_10 rfl ?_
      refine y_get (pc := 11) hC 0 3 dX1_dropUpon_11 rfl rfl inX1 (by decide) kw_1_98 rfl rfl ?_
      refine y_iload_n (pc := 14) hC 0 dX1_dropUpon_14 rfl ?_
      refine y_zald (pc := 15) hC 3 (j := j1) dX1_dropUpon_15 (bI ((gnF cp) j1)) rfl (by omega) rfl rfl ?_
      refine y_bne (pc := 16) hC dX1_dropUpon_16 60 (by decide) (fun c_2 => ?_) (fun c_2 => ?_)
      · refine y_iinc (pc := 60) hC 0 dX1_dropUpon_60 (nI (j1 + 1)) [(2, .int (nI (j1 + 1))), (0, .ref e0), (1, .ref a0)] rfl (nI_inc _) rfl (by decide) ?_
        refine y_goto (pc := 63) hC dX1_dropUpon_63 2 (by decide) ?_
        refine y_ws [(e0, .inr (1, [.ref e1, .ref e2, .ref e3, .ref e4, .int (nI nc)])), (e1, aI d 20 cp), (e3, aI d 20 ((yi (j1 + 1) (dropS cp pl n) (ha, vi, lt, la)).1)), (e4, aZ d 20 (gnF cp)), (a0, .inr (3, [.ref a1, .ref a2, .ref a3, .ref a4, .ref a5, .ref a6, .ref a7, .int (nI n)])), (a1, aI d 10 pl), (a2, aI d 10 ((yi (j1 + 1) (dropS cp pl n) (ha, vi, lt, la)).2.1)), (a5, aI d 10 ((yi (j1 + 1) (dropS cp pl n) (ha, vi, lt, la)).2.2.1)), (a7, aI d 10 ((yi (j1 + 1) (dropS cp pl n) (ha, vi, lt, la)).2.2.2))] (by simp only [yi, dropS, c_2, ↓reduceIte, cond_true, cond_false]) ?_
        exact ihj1 (j1 + 1) (by omega)
      · refine y_aload_n (pc := 19) hC 1 dX1_dropUpon_19 rfl ?_
        refine y_get (pc := 20) hC 0 2 dX1_dropUpon_20 rfl rfl inX1 (by decide) kw_1_97 rfl rfl ?_
        refine y_iload_n (pc := 23) hC 0 dX1_dropUpon_23 rfl ?_
        refine y_iald (pc := 24) hC 2 (j := j1) dX1_dropUpon_24 (((yi j1 (dropS cp pl n) (ha, vi, lt, la)).1) j1) rfl (by omega) rfl rfl ?_
        refine y_if_le (pc := 25) hC dX1_dropUpon_25 60 (by decide) (fun c_3 => ?_) (fun c_3 => ?_)
        · refine y_iinc (pc := 60) hC 0 dX1_dropUpon_60 (nI (j1 + 1)) [(2, .int (nI (j1 + 1))), (0, .ref e0), (1, .ref a0)] rfl (nI_inc _) rfl (by decide) ?_
          refine y_goto (pc := 63) hC dX1_dropUpon_63 2 (by decide) ?_
          refine y_ws [(e0, .inr (1, [.ref e1, .ref e2, .ref e3, .ref e4, .int (nI nc)])), (e1, aI d 20 cp), (e3, aI d 20 ((yi (j1 + 1) (dropS cp pl n) (ha, vi, lt, la)).1)), (e4, aZ d 20 (gnF cp)), (a0, .inr (3, [.ref a1, .ref a2, .ref a3, .ref a4, .ref a5, .ref a6, .ref a7, .int (nI n)])), (a1, aI d 10 pl), (a2, aI d 10 ((yi (j1 + 1) (dropS cp pl n) (ha, vi, lt, la)).2.1)), (a5, aI d 10 ((yi (j1 + 1) (dropS cp pl n) (ha, vi, lt, la)).2.2.1)), (a7, aI d 10 ((yi (j1 + 1) (dropS cp pl n) (ha, vi, lt, la)).2.2.2))] (by simp only [yi, dropS, c_2, c_3, ↓reduceIte, cond_true, cond_false]) ?_
          exact ihj1 (j1 + 1) (by omega)
        · refine y_aload_n (pc := 28) hC 1 dX1_dropUpon_28 rfl ?_
          refine y_get (pc := 29) hC 0 2 dX1_dropUpon_29 rfl rfl inX1 (by decide) kw_1_97 rfl rfl ?_
          refine y_iload_n (pc := 32) hC 0 dX1_dropUpon_32 rfl ?_
          refine y_iald (pc := 33) hC 2 (j := j1) dX1_dropUpon_33 (((yi j1 (dropS cp pl n) (ha, vi, lt, la)).1) j1) rfl (by omega) rfl rfl ?_
          refine y_iconst (pc := 34) hC dX1_dropUpon_34 4 (by decide) ?_
          refine y_min (pc := 35) hC dX1_dropUpon_35 kw_2_234 kw_2_142 kw_1_14 kw_2_143 ⟨nb rfl, nb rfl, nb rfl, nb rfl⟩ ?_
          refine y_istore_n (pc := 38) hC dX1_dropUpon_38 [(3, .int (mn (((yi j1 (dropS cp pl n) (ha, vi, lt, la)).1) j1) 4)), (2, .int (nI j1)), (0, .ref e0), (1, .ref a0)] rfl (by decide) ?_
          refine y_aload_n (pc := 39) hC 2 dX1_dropUpon_39 rfl ?_
          refine y_get (pc := 40) hC 0 2 dX1_dropUpon_40 rfl rfl inX1 (by decide) kw_1_97 rfl rfl ?_
          refine y_iload_n (pc := 43) hC 1 dX1_dropUpon_43 rfl ?_
          refine y_dup2 (pc := 44) hC dX1_dropUpon_44 rfl rfl ?_
          refine y_iald (pc := 45) hC 2 (j := j1) dX1_dropUpon_45 (((yi j1 (dropS cp pl n) (ha, vi, lt, la)).1) j1) rfl (by omega) rfl rfl ?_
          refine y_iload_n (pc := 46) hC 0 dX1_dropUpon_46 rfl ?_
          refine y_isub (pc := 47) hC dX1_dropUpon_47 ((((yi j1 (dropS cp pl n) (ha, vi, lt, la)).1) j1) - (mn (((yi j1 (dropS cp pl n) (ha, vi, lt, la)).1) j1) 4)) rfl ?_
          refine y_iast (pc := 48) hC 2 (j := j1) dX1_dropUpon_48 (upd ((yi j1 (dropS cp pl n) (ha, vi, lt, la)).1) j1 ((((yi j1 (dropS cp pl n) (ha, vi, lt, la)).1) j1) - (mn (((yi j1 (dropS cp pl n) (ha, vi, lt, la)).1) j1) 4))) [(e0, .inr (1, [.ref e1, .ref e2, .ref e3, .ref e4, .int (nI nc)])), (e1, aI d 20 cp), (e3, aI d 20 (upd ((yi j1 (dropS cp pl n) (ha, vi, lt, la)).1) j1 ((((yi j1 (dropS cp pl n) (ha, vi, lt, la)).1) j1) - (mn (((yi j1 (dropS cp pl n) (ha, vi, lt, la)).1) j1) 4)))), (e4, aZ d 20 (gnF cp)), (a0, .inr (3, [.ref a1, .ref a2, .ref a3, .ref a4, .ref a5, .ref a6, .ref a7, .int (nI n)])), (a1, aI d 10 pl), (a2, aI d 10 ((yi j1 (dropS cp pl n) (ha, vi, lt, la)).2.1)), (a5, aI d 10 ((yi j1 (dropS cp pl n) (ha, vi, lt, la)).2.2.1)), (a7, aI d 10 ((yi j1 (dropS cp pl n) (ha, vi, lt, la)).2.2.2))] rfl (by omega) rfl rfl rfl ?_
          refine y_aload_n (pc := 49) hC 3 dX1_dropUpon_49 rfl ?_
          refine y_aload_n (pc := 50) hC 2 dX1_dropUpon_50 rfl ?_
          refine y_get (pc := 51) hC 0 0 dX1_dropUpon_51 rfl rfl inX1 (by decide) kw_1_95 rfl rfl ?_
          refine y_iload_n (pc := 54) hC 1 dX1_dropUpon_54 rfl ?_
          refine y_iald (pc := 55) hC 1 (j := j1) dX1_dropUpon_55 (cp j1) rfl (by omega) rfl rfl ?_
          refine y_iload_n (pc := 56) hC 0 dX1_dropUpon_56 rfl ?_
          refine y_cV (pc := 57) (As := [.int (cp j1), .int (mn (((yi j1 (dropS cp pl n) (ha, vi, lt, la)).1) j1) 4)]) (st := []) hC (c_X3_takeHail (gL G) d a0 a1 a2 a3 a4 a5 a6 a7 pl ((yi j1 (dropS cp pl n) (ha, vi, lt, la)).2.1) ((yi j1 (dropS cp pl n) (ha, vi, lt, la)).2.2.1) ((yi j1 (dropS cp pl n) (ha, vi, lt, la)).2.2.2) n (cp j1) (mn (((yi j1 (dropS cp pl n) (ha, vi, lt, la)).1) j1) 4) (by omega)) kw_2_238 kw_2_235 kw_2_236 kw_2_237 kw_1_3 n_X3_takeHail ⟨⟨nb rfl, nb rfl⟩, ⟨nb rfl, nb rfl⟩, nb rfl⟩ [4, 5, 6, 7, 8] [0, 1, 2, 3] [0, 1, 2, 3, 4, 5, 6, 7, 8] 0 [(e0, .inr (1, [.ref e1, .ref e2, .ref e3, .ref e4, .int (nI nc)])), (e1, aI d 20 cp), (e3, aI d 20 (upd ((yi j1 (dropS cp pl n) (ha, vi, lt, la)).1) j1 ((((yi j1 (dropS cp pl n) (ha, vi, lt, la)).1) j1) - (mn (((yi j1 (dropS cp pl n) (ha, vi, lt, la)).1) j1) 4)))), (e4, aZ d 20 (gnF cp))] (fun _ => [(e0, .inr (1, [.ref e1, .ref e2, .ref e3, .ref e4, .int (nI nc)])), (e1, aI d 20 cp), (e3, aI d 20 (upd ((yi j1 (dropS cp pl n) (ha, vi, lt, la)).1) j1 ((((yi j1 (dropS cp pl n) (ha, vi, lt, la)).1) j1) - (mn (((yi j1 (dropS cp pl n) (ha, vi, lt, la)).1) j1) 4)))), (e4, aZ d 20 (gnF cp)), (a0, .inr (3, [.ref a1, .ref a2, .ref a3, .ref a4, .ref a5, .ref a6, .ref a7, .int (nI n)])), (a1, aI d 10 pl), (a2, aI d 10 ((takeF pl (cp j1) (mn (((yi j1 (dropS cp pl n) (ha, vi, lt, la)).1) j1) 4) n (((yi j1 (dropS cp pl n) (ha, vi, lt, la)).2.1), ((yi j1 (dropS cp pl n) (ha, vi, lt, la)).2.2.1), ((yi j1 (dropS cp pl n) (ha, vi, lt, la)).2.2.2))).1)), (a5, aI d 10 ((takeF pl (cp j1) (mn (((yi j1 (dropS cp pl n) (ha, vi, lt, la)).1) j1) 4) n (((yi j1 (dropS cp pl n) (ha, vi, lt, la)).2.1), ((yi j1 (dropS cp pl n) (ha, vi, lt, la)).2.2.1), ((yi j1 (dropS cp pl n) (ha, vi, lt, la)).2.2.2))).2.1)), (a7, aI d 10 ((takeF pl (cp j1) (mn (((yi j1 (dropS cp pl n) (ha, vi, lt, la)).1) j1) 4) n (((yi j1 (dropS cp pl n) (ha, vi, lt, la)).2.1), ((yi j1 (dropS cp pl n) (ha, vi, lt, la)).2.2.1), ((yi j1 (dropS cp pl n) (ha, vi, lt, la)).2.2.2))).2.2))]) rfl rfl ⟨rfl, by decide, rfl, by decide, by decide⟩ (fun _ => ⟨rfl, by decide⟩) rfl dX1_dropUpon_57 ?_
          intro _ _
          refine y_iinc (pc := 60) hC 1 dX1_dropUpon_60 (nI (j1 + 1)) [(2, .int (nI (j1 + 1))), (3, .int (mn (((yi j1 (dropS cp pl n) (ha, vi, lt, la)).1) j1) 4)), (0, .ref e0), (1, .ref a0)] rfl (nI_inc _) rfl (by decide) ?_
          refine y_goto (pc := 63) hC dX1_dropUpon_63 2 (by decide) ?_
          refine y_lv [(2, .int (nI (j1 + 1))), (0, .ref e0), (1, .ref a0)] [0, 2, 3] rfl ?_
          refine y_ws [(e0, .inr (1, [.ref e1, .ref e2, .ref e3, .ref e4, .int (nI nc)])), (e1, aI d 20 cp), (e3, aI d 20 ((yi (j1 + 1) (dropS cp pl n) (ha, vi, lt, la)).1)), (e4, aZ d 20 (gnF cp)), (a0, .inr (3, [.ref a1, .ref a2, .ref a3, .ref a4, .ref a5, .ref a6, .ref a7, .int (nI n)])), (a1, aI d 10 pl), (a2, aI d 10 ((yi (j1 + 1) (dropS cp pl n) (ha, vi, lt, la)).2.1)), (a5, aI d 10 ((yi (j1 + 1) (dropS cp pl n) (ha, vi, lt, la)).2.2.1)), (a7, aI d 10 ((yi (j1 + 1) (dropS cp pl n) (ha, vi, lt, la)).2.2.2))] (by simp only [yi, dropS, c_2, c_3, ↓reduceIte, cond_true, cond_false]) ?_
          exact ihj1 (j1 + 1) (by omega)
  refine y_lv [(2, .int 0), (0, .ref e0), (1, .ref a0)] [0, 1, 2] rfl ?_
  exact lpj1 nc 0 (by omega)
theorem n_X1_dropUpon : yyN yX1_dropUpon RX1 1 := by refine ⟨rfl, ?_, ?_, ?_⟩ <;> decide +kernel
set_option maxHeartbeats 4000000 in
set_option maxRecDepth 100000 in
theorem c_X1_haveHail (l : Launch) (d : yyD) (e0 : Nat) (e1 : Nat) (e2 : Nat) (e3 : Nat) (e4 : Nat) (cp : fI) (ha : fI) (nc : Nat) (hc : nc ≤ 20) : yyI l yX1_haveHail cX1_haveHail 2 (some .boolean) { frames := 0, cells := 0, slots := 0, locals := 0 } d [.ref e0] [(e0, .inr (1, [.ref e1, .ref e2, .ref e3, .ref e4, .int (nI nc)])), (e3, aI d 20 ha), (e4, aZ d 20 (gnF cp))] [(e0, .inr (1, [.ref e1, .ref e2, .ref e3, .ref e4, .int (nI nc)])), (e3, aI d 20 ha), (e4, aZ d 20 (gnF cp))] (bI (haveF cp ha nc)) := by
  refine yyI_of (own := RX1) [(0, .ref e0)] (by decide +kernel) rfl (Nat.le_of_ble_eq_true rfl) rfl ?_
  intro G Q hQ hGL hC hGA
  refine y_iconst (pc := 0) hC dX1_haveHail_0 0 (by decide) ?_
  refine y_istore_n (pc := 1) hC dX1_haveHail_1 [(1, .int 0), (0, .ref e0)] rfl (by decide) ?_
  have lpj1 : ∀ r1 j1 : Nat, j1 + r1 = nc → haveF cp ha j1 = false → yyW d G 0 0 Q [(e0, .inr (1, [.ref e1, .ref e2, .ref e3, .ref e4, .int (nI nc)])), (e3, aI d 20 ha), (e4, aZ d 20 (gnF cp))] [(1, .int (nI j1)), (0, .ref e0)] 2 [] := by
    intro r1
    induction r1 with
    | zero =>
      intro j1 hj1 vj1
      have ej1 : j1 = nc := by omega
      rw [ej1] at vj1 ⊢
      refine y_iload_n (pc := 2) hC 0 dX1_haveHail_2 rfl ?_
      refine y_aload_n (pc := 3) hC 1 dX1_haveHail_3 rfl ?_
      refine y_get (pc := 4) hC 0 4 dX1_haveHail_4 rfl rfl inX1 (by decide) kw_1_99 rfl rfl ?_
      refine y_ge_t (pc := 7) (a := nc) (b := nc) hC dX1_haveHail_7 36 (by decide) (by omega) (by omega) ?_
      refine y_iconst (pc := 36) hC dX1_haveHail_36 0 (by decide) ?_
      exact y_iret hC hQ rfl rfl (by rw [vj1]; rfl) (nb rfl) (nb rfl) dX1_haveHail_37
    | succ r1 ihj1 =>
      intro j1 hj1 vj1
      have lj1 : j1 < nc := by omega
      refine y_iload_n (pc := 2) hC 0 dX1_haveHail_2 rfl ?_
      refine y_aload_n (pc := 3) hC 1 dX1_haveHail_3 rfl ?_
      refine y_get (pc := 4) hC 0 4 dX1_haveHail_4 rfl rfl inX1 (by decide) kw_1_99 rfl rfl ?_
      refine y_ge_f (pc := 7) (a := j1) (b := nc) hC dX1_haveHail_7 36 (by decide) (by omega) (by omega) ?_
      refine y_aload_n (pc := 10) hC 1 dX1_haveHail_10 rfl ?_
      refine y_get (pc := 11) hC 0 3 dX1_haveHail_11 rfl rfl inX1 (by decide) kw_1_98 rfl rfl ?_
      refine y_iload_n (pc := 14) hC 0 dX1_haveHail_14 rfl ?_
      refine y_zald (pc := 15) hC 2 (j := j1) dX1_haveHail_15 (bI ((gnF cp) j1)) rfl (by omega) rfl rfl ?_
      refine y_bne (pc := 16) hC dX1_haveHail_16 30 (by decide) (fun c_2 => ?_) (fun c_2 => ?_)
      · refine y_iinc (pc := 30) hC 0 dX1_haveHail_30 (nI (j1 + 1)) [(1, .int (nI (j1 + 1))), (0, .ref e0)] rfl (nI_inc _) rfl (by decide) ?_
        refine y_goto (pc := 33) hC dX1_haveHail_33 2 (by decide) ?_
        refine y_ws [(e0, .inr (1, [.ref e1, .ref e2, .ref e3, .ref e4, .int (nI nc)])), (e3, aI d 20 ha), (e4, aZ d 20 (gnF cp))] rfl ?_
        exact ihj1 (j1 + 1) (by omega) (by show (haveF cp ha j1 || hvP cp ha j1) = false; rw [vj1]; simp [hvP, c_2])
      · refine y_aload_n (pc := 19) hC 1 dX1_haveHail_19 rfl ?_
        refine y_get (pc := 20) hC 0 2 dX1_haveHail_20 rfl rfl inX1 (by decide) kw_1_97 rfl rfl ?_
        refine y_iload_n (pc := 23) hC 0 dX1_haveHail_23 rfl ?_
        refine y_iald (pc := 24) hC 1 (j := j1) dX1_haveHail_24 (ha j1) rfl (by omega) rfl rfl ?_
        refine y_if_le (pc := 25) hC dX1_haveHail_25 30 (by decide) (fun c_3 => ?_) (fun c_3 => ?_)
        · refine y_iinc (pc := 30) hC 0 dX1_haveHail_30 (nI (j1 + 1)) [(1, .int (nI (j1 + 1))), (0, .ref e0)] rfl (nI_inc _) rfl (by decide) ?_
          refine y_goto (pc := 33) hC dX1_haveHail_33 2 (by decide) ?_
          refine y_ws [(e0, .inr (1, [.ref e1, .ref e2, .ref e3, .ref e4, .int (nI nc)])), (e3, aI d 20 ha), (e4, aZ d 20 (gnF cp))] rfl ?_
          exact ihj1 (j1 + 1) (by omega) (by show (haveF cp ha j1 || hvP cp ha j1) = false; rw [vj1]; simp [hvP, c_2, c_3])
        · refine y_iconst (pc := 28) hC dX1_haveHail_28 1 (by decide) ?_
          exact y_iret hC hQ rfl rfl (by rw [have_hit lj1 (by simp [hvP, c_2, c_3])]; rfl) (nb rfl) (nb rfl) dX1_haveHail_29
  refine y_lv [(1, .int 0), (0, .ref e0)] [0, 1] rfl ?_
  exact lpj1 nc 0 (by omega) rfl
theorem n_X1_haveHail : yyN yX1_haveHail RX1 0 := by refine ⟨rfl, ?_, ?_, ?_⟩ <;> decide +kernel
set_option maxHeartbeats 4000000 in
set_option maxRecDepth 100000 in
theorem c_X1_there (l : Launch) (d : yyD) (e0 : Nat) (e1 : Nat) (e2 : Nat) (e3 : Nat) (e4 : Nat) (cp : fI) (nc : Nat) (hc : nc ≤ 20) : yyI l yX1_there cX1_there 3 (some .int) { frames := 0, cells := 0, slots := 0, locals := 0 } d [.ref e0] [(e0, .inr (1, [.ref e1, .ref e2, .ref e3, .ref e4, .int (nI nc)])), (e4, aZ d 20 (gnF cp))] [(e0, .inr (1, [.ref e1, .ref e2, .ref e3, .ref e4, .int (nI nc)])), (e4, aZ d 20 (gnF cp))] (thereF cp nc) := by
  refine yyI_of (own := RX1) [(0, .ref e0)] (by decide +kernel) rfl (Nat.le_of_ble_eq_true rfl) rfl ?_
  intro G Q hQ hGL hC hGA
  refine y_iconst (pc := 0) hC dX1_there_0 0 (by decide) ?_
  refine y_istore_n (pc := 1) hC dX1_there_1 [(1, .int 0), (0, .ref e0)] rfl (by decide) ?_
  refine y_iconst (pc := 2) hC dX1_there_2 0 (by decide) ?_
  refine y_istore_n (pc := 3) hC dX1_there_3 [(2, .int 0), (1, .int 0), (0, .ref e0)] rfl (by decide) ?_
  have lpj1 : ∀ r1 j1 : Nat, j1 + r1 = nc → yyW d G 0 0 Q [(e0, .inr (1, [.ref e1, .ref e2, .ref e3, .ref e4, .int (nI nc)])), (e4, aZ d 20 (gnF cp))] [(2, .int (nI j1)), (1, .int (yi j1 (fun k a => cond (gnF cp k) a (a + Int32.ofInt 1)) 0)), (0, .ref e0)] 4 [] := by
    intro r1
    induction r1 with
    | zero =>
      intro j1 hj1
      have ej1 : j1 = nc := by omega
      rw [ej1]
      refine y_iload_n (pc := 4) hC 0 dX1_there_4 rfl ?_
      refine y_aload_n (pc := 5) hC 2 dX1_there_5 rfl ?_
      refine y_get (pc := 6) hC 0 4 dX1_there_6 rfl rfl inX1 (by decide) kw_1_99 rfl rfl ?_
      refine y_ge_t (pc := 9) (a := nc) (b := nc) hC dX1_there_9 30 (by decide) (by omega) (by omega) ?_
      refine y_iload_n (pc := 30) hC 1 dX1_there_30 rfl ?_
      exact y_iret hC hQ rfl rfl rfl (nb rfl) (nb rfl) dX1_there_31
    | succ r1 ihj1 =>
      intro j1 hj1
      have lj1 : j1 < nc := by omega
      refine y_iload_n (pc := 4) hC 0 dX1_there_4 rfl ?_
      refine y_aload_n (pc := 5) hC 2 dX1_there_5 rfl ?_
      refine y_get (pc := 6) hC 0 4 dX1_there_6 rfl rfl inX1 (by decide) kw_1_99 rfl rfl ?_
      refine y_ge_f (pc := 9) (a := j1) (b := nc) hC dX1_there_9 30 (by decide) (by omega) (by omega) ?_
      refine y_aload_n (pc := 12) hC 2 dX1_there_12 rfl ?_
      refine y_get (pc := 13) hC 0 3 dX1_there_13 rfl rfl inX1 (by decide) kw_1_98 rfl rfl ?_
      refine y_iload_n (pc := 16) hC 0 dX1_there_16 rfl ?_
      refine y_zald (pc := 17) hC 1 (j := j1) dX1_there_17 (bI ((gnF cp) j1)) rfl (by omega) rfl rfl ?_
      refine y_bne (pc := 18) hC dX1_there_18 24 (by decide) (fun c_2 => ?_) (fun c_2 => ?_)
      · refine y_iinc (pc := 24) hC 0 dX1_there_24 (nI (j1 + 1)) [(2, .int (nI (j1 + 1))), (1, .int (yi j1 (fun k a => cond (gnF cp k) a (a + Int32.ofInt 1)) 0)), (0, .ref e0)] rfl (nI_inc _) rfl (by decide) ?_
        refine y_goto (pc := 27) hC dX1_there_27 4 (by decide) ?_
        refine y_ws [(e0, .inr (1, [.ref e1, .ref e2, .ref e3, .ref e4, .int (nI nc)])), (e4, aZ d 20 (gnF cp))] rfl ?_
        refine y_lve [(2, .int (nI (j1 + 1))), (1, .int (yi (j1 + 1) (fun k a => cond (gnF cp k) a (a + Int32.ofInt 1)) 0)), (0, .ref e0)] (by simp only [yi, c_2, ↓reduceIte, cond_true, cond_false]) ?_
        exact ihj1 (j1 + 1) (by omega)
      · refine y_iinc (pc := 21) hC 1 dX1_there_21 (yi j1 (fun k a => cond (gnF cp k) a (a + Int32.ofInt 1)) 0 + Int32.ofInt 1) [(1, .int (yi j1 (fun k a => cond (gnF cp k) a (a + Int32.ofInt 1)) 0 + Int32.ofInt 1)), (2, .int (nI j1)), (0, .ref e0)] rfl rfl rfl (by decide) ?_
        refine y_iinc (pc := 24) hC 1 dX1_there_24 (nI (j1 + 1)) [(2, .int (nI (j1 + 1))), (1, .int (yi j1 (fun k a => cond (gnF cp k) a (a + Int32.ofInt 1)) 0 + Int32.ofInt 1)), (0, .ref e0)] rfl (nI_inc _) rfl (by decide) ?_
        refine y_goto (pc := 27) hC dX1_there_27 4 (by decide) ?_
        refine y_ws [(e0, .inr (1, [.ref e1, .ref e2, .ref e3, .ref e4, .int (nI nc)])), (e4, aZ d 20 (gnF cp))] rfl ?_
        refine y_lve [(2, .int (nI (j1 + 1))), (1, .int (yi (j1 + 1) (fun k a => cond (gnF cp k) a (a + Int32.ofInt 1)) 0)), (0, .ref e0)] (by simp only [yi, c_2, ↓reduceIte, cond_true, cond_false]) ?_
        exact ihj1 (j1 + 1) (by omega)
  refine y_lv [(2, .int 0), (1, .int 0), (0, .ref e0)] [0, 1, 2] rfl ?_
  exact lpj1 nc 0 (by omega)
theorem n_X1_there : yyN yX1_there RX1 0 := by refine ⟨rfl, ?_, ?_, ?_⟩ <;> decide +kernel
set_option maxHeartbeats 4000000 in
set_option maxRecDepth 100000 in
theorem c_X1_fact (l : Launch) (d : yyD) (e0 : Nat) (e1 : Nat) (e2 : Nat) (e3 : Nat) (e4 : Nat) (cp : fI) (dr : fI) (ha : fI) (nc : Nat) (j : Nat) (w : Nat) (hc : nc ≤ 20) (hj : j < 20) (hw : w ≤ 3) : yyI l yX1_fact cX1_fact 3 (some .int) { frames := 0, cells := 0, slots := 0, locals := 0 } d [.ref e0, .int (nI j), .int (nI w)] [(e0, .inr (1, [.ref e1, .ref e2, .ref e3, .ref e4, .int (nI nc)])), (e1, aI d 20 cp), (e2, aI d 20 dr), (e3, aI d 20 ha), (e4, aZ d 20 (gnF cp))] [(e0, .inr (1, [.ref e1, .ref e2, .ref e3, .ref e4, .int (nI nc)])), (e1, aI d 20 cp), (e2, aI d 20 dr), (e3, aI d 20 ha), (e4, aZ d 20 (gnF cp))] (cfact cp dr ha j w) := by
  refine yyI_of (own := RX1) [(0, .ref e0), (1, .int (nI j)), (2, .int (nI w))] (by decide +kernel) rfl (Nat.le_of_ble_eq_true rfl) rfl ?_
  intro G Q hQ hGL hC hGA
  refine y_iload_n (pc := 0) hC 2 dX1_fact_0 rfl ?_
  have hs1 : w = 0 ∨ w = 1 ∨ w = 2 ∨ w = 3 := by omega
  rcases hs1 with rfl | rfl | rfl | rfl
  · refine y_tsw (pc := 1) (off := 27) hC dX1_fact_1 28 (by decide +kernel) (by decide +kernel) (by decide +kernel) (by decide) ?_
    refine y_aload_n (pc := 28) hC 0 dX1_fact_28 rfl ?_
    refine y_get (pc := 29) hC 0 0 dX1_fact_29 rfl rfl inX1 (by decide) kw_1_95 rfl rfl ?_
    refine y_iload_n (pc := 32) hC 1 dX1_fact_32 rfl ?_
    refine y_iald (pc := 33) hC 1 (j := j) dX1_fact_33 (cp j) rfl (by omega) rfl rfl ?_
    exact y_iret hC hQ rfl rfl rfl (nb rfl) (nb rfl) dX1_fact_34
  · refine y_tsw (pc := 1) (off := 34) hC dX1_fact_1 35 (by decide +kernel) (by decide +kernel) (by decide +kernel) (by decide) ?_
    refine y_aload_n (pc := 35) hC 0 dX1_fact_35 rfl ?_
    refine y_get (pc := 36) hC 0 1 dX1_fact_36 rfl rfl inX1 (by decide) kw_1_96 rfl rfl ?_
    refine y_iload_n (pc := 39) hC 1 dX1_fact_39 rfl ?_
    refine y_iald (pc := 40) hC 2 (j := j) dX1_fact_40 (dr j) rfl (by omega) rfl rfl ?_
    exact y_iret hC hQ rfl rfl rfl (nb rfl) (nb rfl) dX1_fact_41
  · refine y_tsw (pc := 1) (off := 41) hC dX1_fact_1 42 (by decide +kernel) (by decide +kernel) (by decide +kernel) (by decide) ?_
    refine y_aload_n (pc := 42) hC 0 dX1_fact_42 rfl ?_
    refine y_get (pc := 43) hC 0 2 dX1_fact_43 rfl rfl inX1 (by decide) kw_1_97 rfl rfl ?_
    refine y_iload_n (pc := 46) hC 1 dX1_fact_46 rfl ?_
    refine y_iald (pc := 47) hC 3 (j := j) dX1_fact_47 (ha j) rfl (by omega) rfl rfl ?_
    exact y_iret hC hQ rfl rfl rfl (nb rfl) (nb rfl) dX1_fact_48
  · refine y_tsd (pc := 1) hC dX1_fact_1 49 (by decide +kernel) (by decide) ?_
    refine y_aload_n (pc := 49) hC 0 dX1_fact_49 rfl ?_
    refine y_get (pc := 50) hC 0 3 dX1_fact_50 rfl rfl inX1 (by decide) kw_1_98 rfl rfl ?_
    refine y_iload_n (pc := 53) hC 1 dX1_fact_53 rfl ?_
    refine y_zald (pc := 54) hC 4 (j := j) dX1_fact_54 (bI ((gnF cp) j)) rfl (by omega) rfl rfl ?_
    refine y_beq (pc := 55) hC dX1_fact_55 62 (by decide) (fun c_2 => ?_) (fun c_2 => ?_)
    · refine y_iconst (pc := 62) hC dX1_fact_62 0 (by decide) ?_
      exact y_iret hC hQ rfl rfl (by simp [cfact, bI, c_2]) (nb rfl) (nb rfl) dX1_fact_63
    · refine y_iconst (pc := 58) hC dX1_fact_58 1 (by decide) ?_
      refine y_goto (pc := 59) hC dX1_fact_59 63 (by decide) ?_
      exact y_iret hC hQ rfl rfl (by simp [cfact, bI, c_2]) (nb rfl) (nb rfl) dX1_fact_63
theorem n_X1_fact : yyN yX1_fact RX1 2 := by refine ⟨rfl, ?_, ?_, ?_⟩ <;> decide +kernel
set_option maxHeartbeats 4000000 in
set_option maxRecDepth 100000 in
theorem c_X1_add (l : Launch) (d : yyD) (e0 : Nat) (e1 : Nat) (e2 : Nat) (e3 : Nat) (e4 : Nat) (cp : fI) (dr : fI) (ha : fI) (nc : Nat) (x : Int32) (y : Int32) (z : Int32) (hc : nc < 20) (h0 : gn (cp nc) = false) (hx : gn x = false) : yyI l yX1_add cX1_add 5 (some .int) { frames := 0, cells := 0, slots := 0, locals := 0 } d [.ref e0, .int x, .int y, .int z] [(e0, .inr (1, [.ref e1, .ref e2, .ref e3, .ref e4, .int (nI nc)])), (e1, aI d 20 cp), (e2, aI d 20 dr), (e3, aI d 20 ha), (e4, aZ d 20 (gnF cp))] [(e0, .inr (1, [.ref e1, .ref e2, .ref e3, .ref e4, .int (nI (nc + 1))])), (e1, aI d 20 (upd cp nc x)), (e2, aI d 20 (upd dr nc y)), (e3, aI d 20 (upd ha nc z)), (e4, aZ d 20 (gnF (upd cp nc x)))] (nI nc) := by
  refine yyI_of (own := RX1) [(0, .ref e0), (1, .int x), (2, .int y), (3, .int z)] (by decide +kernel) rfl (Nat.le_of_ble_eq_true rfl) rfl ?_
  intro G Q hQ hGL hC hGA
  refine y_aload_n (pc := 0) hC 0 dX1_add_0 rfl ?_
  refine y_get (pc := 1) hC 0 4 dX1_add_1 rfl rfl inX1 (by decide) kw_1_99 rfl rfl ?_
  refine y_istore (pc := 4) hC dX1_add_4 [(4, .int (nI nc)), (0, .ref e0), (1, .int x), (2, .int y), (3, .int z)] rfl (by decide) ?_
  refine y_aload_n (pc := 6) hC 1 dX1_add_6 rfl ?_
  refine y_get (pc := 7) hC 0 0 dX1_add_7 rfl rfl inX1 (by decide) kw_1_95 rfl rfl ?_
  refine y_iload (pc := 10) hC 0 dX1_add_10 rfl ?_
  refine y_iload_n (pc := 12) hC 2 dX1_add_12 rfl ?_
  refine y_iast (pc := 13) hC 1 (j := nc) dX1_add_13 (upd cp nc x) [(e0, .inr (1, [.ref e1, .ref e2, .ref e3, .ref e4, .int (nI nc)])), (e1, aI d 20 (upd cp nc x)), (e2, aI d 20 dr), (e3, aI d 20 ha), (e4, aZ d 20 (gnF cp))] rfl (by omega) rfl rfl rfl ?_
  refine y_aload_n (pc := 14) hC 1 dX1_add_14 rfl ?_
  refine y_get (pc := 15) hC 0 1 dX1_add_15 rfl rfl inX1 (by decide) kw_1_96 rfl rfl ?_
  refine y_iload (pc := 18) hC 0 dX1_add_18 rfl ?_
  refine y_iload_n (pc := 20) hC 3 dX1_add_20 rfl ?_
  refine y_iast (pc := 21) hC 2 (j := nc) dX1_add_21 (upd dr nc y) [(e0, .inr (1, [.ref e1, .ref e2, .ref e3, .ref e4, .int (nI nc)])), (e1, aI d 20 (upd cp nc x)), (e2, aI d 20 (upd dr nc y)), (e3, aI d 20 ha), (e4, aZ d 20 (gnF cp))] rfl (by omega) rfl rfl rfl ?_
  refine y_aload_n (pc := 22) hC 1 dX1_add_22 rfl ?_
  refine y_get (pc := 23) hC 0 2 dX1_add_23 rfl rfl inX1 (by decide) kw_1_97 rfl rfl ?_
  refine y_iload (pc := 26) hC 0 dX1_add_26 rfl ?_
  refine y_iload_n (pc := 28) hC 4 dX1_add_28 rfl ?_
  refine y_iast (pc := 29) hC 3 (j := nc) dX1_add_29 (upd ha nc z) [(e0, .inr (1, [.ref e1, .ref e2, .ref e3, .ref e4, .int (nI nc)])), (e1, aI d 20 (upd cp nc x)), (e2, aI d 20 (upd dr nc y)), (e3, aI d 20 (upd ha nc z)), (e4, aZ d 20 (gnF cp))] rfl (by omega) rfl rfl rfl ?_
  refine y_aload_n (pc := 30) hC 1 dX1_add_30 rfl ?_
  refine y_dup (pc := 31) hC dX1_add_31 rfl ?_
  refine y_get (pc := 32) hC 0 4 dX1_add_32 rfl rfl inX1 (by decide) kw_1_99 rfl rfl ?_
  refine y_iconst (pc := 35) hC dX1_add_35 1 (by decide) ?_
  refine y_iadd (pc := 36) hC dX1_add_36 (nI (nc + 1)) (nI_1 _) ?_
  refine y_put (pc := 37) hC 0 4 .int dX1_add_37 tyX1 [(e0, .inr (1, [.ref e1, .ref e2, .ref e3, .ref e4, .int (nI (nc + 1))])), (e1, aI d 20 (upd cp nc x)), (e2, aI d 20 (upd dr nc y)), (e3, aI d 20 (upd ha nc z)), (e4, aZ d 20 (gnF cp))] rfl rfl rfl inX1 tyX1_ok nmX1 (by decide) kw_1_99 rfl rfl (by decide +kernel) rfl rfl (Nat.le_of_ble_eq_true rfl) ?_
  refine y_iload (pc := 40) hC 0 dX1_add_40 rfl ?_
  exact y_iret hC hQ rfl (by rw [← gnF_same cp nc x h0 hx]) rfl (nb rfl) (nb rfl) dX1_add_42
theorem n_X1_add : yyN yX1_add RX1 3 := by refine ⟨rfl, ?_, ?_, ?_⟩ <;> decide +kernel
set_option maxHeartbeats 4000000 in
set_option maxRecDepth 100000 in
theorem c_X1_copyFrom (l : Launch) (d : yyD) (e0 : Nat) (e1 : Nat) (e2 : Nat) (e3 : Nat) (e4 : Nat) (g0 : Nat) (g1 : Nat) (g2 : Nat) (g3 : Nat) (g4 : Nat) (cp : fI) (dr : fI) (ha : fI) (cp2 : fI) (dr2 : fI) (ha2 : fI) (nc : Nat) (nc2 : Nat)  : yyV (S := Unit) l yX1_copyFrom cX1_copyFrom 2 { frames := 1, cells := 0, slots := 0, locals := 18 } d [.ref e0, .ref g0] [(e0, .inr (1, [.ref e1, .ref e2, .ref e3, .ref e4, .int (nI nc)])), (e1, aI d 20 cp), (e2, aI d 20 dr), (e3, aI d 20 ha), (e4, aZ d 20 (gnF cp)), (g0, .inr (1, [.ref g1, .ref g2, .ref g3, .ref g4, .int (nI nc2)])), (g1, aI d 20 cp2), (g2, aI d 20 dr2), (g3, aI d 20 ha2), (g4, aZ d 20 (gnF cp2))] (fun _ => True) (fun _ => [(e0, .inr (1, [.ref e1, .ref e2, .ref e3, .ref e4, .int (nI nc2)])), (e1, aI d 20 cp2), (e2, aI d 20 dr2), (e3, aI d 20 ha2), (e4, aZ d 20 (gnF cp2)), (g0, .inr (1, [.ref g1, .ref g2, .ref g3, .ref g4, .int (nI nc2)])), (g1, aI d 20 cp2), (g2, aI d 20 dr2), (g3, aI d 20 ha2), (g4, aZ d 20 (gnF cp2))]) := by
  refine yyV_of (own := RX1) [(0, .ref e0), (1, .ref g0)] (by decide +kernel) rfl (Nat.le_of_ble_eq_true rfl) rfl ?_
  intro G Q hQ hGL hC hGA hin
  refine y_aload_n (pc := 0) hC 1 dX1_copyFrom_0 rfl ?_
  refine y_get (pc := 1) hC 5 0 dX1_copyFrom_1 rfl rfl inX1 (by decide) kw_1_95 rfl rfl ?_
  refine y_iconst (pc := 4) hC dX1_copyFrom_4 0 (by decide) ?_
  refine y_aload_n (pc := 5) hC 0 dX1_copyFrom_5 rfl ?_
  refine y_get (pc := 6) hC 0 0 dX1_copyFrom_6 rfl rfl inX1 (by decide) kw_1_95 rfl rfl ?_
  refine y_iconst (pc := 9) hC dX1_copyFrom_9 0 (by decide) ?_
  refine y_bipush (pc := 10) hC dX1_copyFrom_10 20 (by decide) ?_
  refine y_copyI (pc := 12) hC dX1_copyFrom_12 6 1 [(e0, .inr (1, [.ref e1, .ref e2, .ref e3, .ref e4, .int (nI nc)])), (e1, aI d 20 cp2), (e2, aI d 20 dr), (e3, aI d 20 ha), (e4, aZ d 20 (gnF cp)), (g0, .inr (1, [.ref g1, .ref g2, .ref g3, .ref g4, .int (nI nc2)])), (g1, aI d 20 cp2), (g2, aI d 20 dr2), (g3, aI d 20 ha2), (g4, aZ d 20 (gnF cp2))] rfl rfl rfl rfl rfl rfl rfl kw_3_31 kw_3_21 kw_3_20 kw_1_15 ⟨nb rfl, nb rfl⟩ ?_
  refine y_aload_n (pc := 15) hC 1 dX1_copyFrom_15 rfl ?_
  refine y_get (pc := 16) hC 5 1 dX1_copyFrom_16 rfl rfl inX1 (by decide) kw_1_96 rfl rfl ?_
  refine y_iconst (pc := 19) hC dX1_copyFrom_19 0 (by decide) ?_
  refine y_aload_n (pc := 20) hC 0 dX1_copyFrom_20 rfl ?_
  refine y_get (pc := 21) hC 0 1 dX1_copyFrom_21 rfl rfl inX1 (by decide) kw_1_96 rfl rfl ?_
  refine y_iconst (pc := 24) hC dX1_copyFrom_24 0 (by decide) ?_
  refine y_bipush (pc := 25) hC dX1_copyFrom_25 20 (by decide) ?_
  refine y_copyI (pc := 27) hC dX1_copyFrom_27 7 2 [(e0, .inr (1, [.ref e1, .ref e2, .ref e3, .ref e4, .int (nI nc)])), (e1, aI d 20 cp2), (e2, aI d 20 dr2), (e3, aI d 20 ha), (e4, aZ d 20 (gnF cp)), (g0, .inr (1, [.ref g1, .ref g2, .ref g3, .ref g4, .int (nI nc2)])), (g1, aI d 20 cp2), (g2, aI d 20 dr2), (g3, aI d 20 ha2), (g4, aZ d 20 (gnF cp2))] rfl rfl rfl rfl rfl rfl rfl kw_3_31 kw_3_21 kw_3_20 kw_1_15 ⟨nb rfl, nb rfl⟩ ?_
  refine y_aload_n (pc := 30) hC 1 dX1_copyFrom_30 rfl ?_
  refine y_get (pc := 31) hC 5 2 dX1_copyFrom_31 rfl rfl inX1 (by decide) kw_1_97 rfl rfl ?_
  refine y_iconst (pc := 34) hC dX1_copyFrom_34 0 (by decide) ?_
  refine y_aload_n (pc := 35) hC 0 dX1_copyFrom_35 rfl ?_
  refine y_get (pc := 36) hC 0 2 dX1_copyFrom_36 rfl rfl inX1 (by decide) kw_1_97 rfl rfl ?_
  refine y_iconst (pc := 39) hC dX1_copyFrom_39 0 (by decide) ?_
  refine y_bipush (pc := 40) hC dX1_copyFrom_40 20 (by decide) ?_
  refine y_copyI (pc := 42) hC dX1_copyFrom_42 8 3 [(e0, .inr (1, [.ref e1, .ref e2, .ref e3, .ref e4, .int (nI nc)])), (e1, aI d 20 cp2), (e2, aI d 20 dr2), (e3, aI d 20 ha2), (e4, aZ d 20 (gnF cp)), (g0, .inr (1, [.ref g1, .ref g2, .ref g3, .ref g4, .int (nI nc2)])), (g1, aI d 20 cp2), (g2, aI d 20 dr2), (g3, aI d 20 ha2), (g4, aZ d 20 (gnF cp2))] rfl rfl rfl rfl rfl rfl rfl kw_3_31 kw_3_21 kw_3_20 kw_1_15 ⟨nb rfl, nb rfl⟩ ?_
  refine y_aload_n (pc := 45) hC 1 dX1_copyFrom_45 rfl ?_
  refine y_get (pc := 46) hC 5 3 dX1_copyFrom_46 rfl rfl inX1 (by decide) kw_1_98 rfl rfl ?_
  refine y_iconst (pc := 49) hC dX1_copyFrom_49 0 (by decide) ?_
  refine y_aload_n (pc := 50) hC 0 dX1_copyFrom_50 rfl ?_
  refine y_get (pc := 51) hC 0 3 dX1_copyFrom_51 rfl rfl inX1 (by decide) kw_1_98 rfl rfl ?_
  refine y_iconst (pc := 54) hC dX1_copyFrom_54 0 (by decide) ?_
  refine y_bipush (pc := 55) hC dX1_copyFrom_55 20 (by decide) ?_
  refine y_copyZ (pc := 57) hC dX1_copyFrom_57 9 4 [(e0, .inr (1, [.ref e1, .ref e2, .ref e3, .ref e4, .int (nI nc)])), (e1, aI d 20 cp2), (e2, aI d 20 dr2), (e3, aI d 20 ha2), (e4, aZ d 20 (gnF cp2)), (g0, .inr (1, [.ref g1, .ref g2, .ref g3, .ref g4, .int (nI nc2)])), (g1, aI d 20 cp2), (g2, aI d 20 dr2), (g3, aI d 20 ha2), (g4, aZ d 20 (gnF cp2))] rfl rfl rfl rfl rfl rfl rfl kw_3_31 kw_3_21 kw_3_20 kw_1_15 ⟨nb rfl, nb rfl⟩ ?_
  refine y_aload_n (pc := 60) hC 0 dX1_copyFrom_60 rfl ?_
  refine y_aload_n (pc := 61) hC 1 dX1_copyFrom_61 rfl ?_
  refine y_get (pc := 62) hC 5 4 dX1_copyFrom_62 rfl rfl inX1 (by decide) kw_1_99 rfl rfl ?_
  refine y_put (pc := 65) hC 0 4 .int dX1_copyFrom_65 tyX1 [(e0, .inr (1, [.ref e1, .ref e2, .ref e3, .ref e4, .int (nI nc2)])), (e1, aI d 20 cp2), (e2, aI d 20 dr2), (e3, aI d 20 ha2), (e4, aZ d 20 (gnF cp2)), (g0, .inr (1, [.ref g1, .ref g2, .ref g3, .ref g4, .int (nI nc2)])), (g1, aI d 20 cp2), (g2, aI d 20 dr2), (g3, aI d 20 ha2), (g4, aZ d 20 (gnF cp2))] rfl rfl rfl inX1 tyX1_ok nmX1 (by decide) kw_1_99 rfl rfl (by decide +kernel) rfl rfl (Nat.le_of_ble_eq_true rfl) ?_
  exact y_vret (()) hC hQ (trivial) rfl (nb rfl) (nb rfl) dX1_copyFrom_68
theorem n_X1_copyFrom : yyN yX1_copyFrom RX1 1 := by refine ⟨rfl, ?_, ?_, ?_⟩ <;> decide +kernel
set_option maxHeartbeats 4000000 in
set_option maxRecDepth 100000 in
theorem c_X1_init (l : Launch) (d : yyD) (a0 : Nat)  : yyV (S := Nat → Nat) l yX1_init cX1_init 1 { frames := 1, cells := 4, slots := 80, locals := 12 } d [.ref a0] [(a0, .inr (1, [.null, .null, .null, .null, .int 0]))] (fun _ => True) (fun u => [(a0, .inr (1, [.ref (u 1), .ref (u 2), .ref (u 3), .ref (u 4), .int (nI 0)])), (u 1, aI d 20 (fun _ => 0)), (u 2, aI d 20 (fun _ => 0)), (u 3, aI d 20 (fun _ => 0)), (u 4, aZ d 20 (fun _ => false))]) := by
  refine yyV_of (own := RX1) [(0, .ref a0)] (by decide +kernel) rfl (Nat.le_of_ble_eq_true rfl) rfl ?_
  intro G Q hQ hGL hC hGA hin
  refine y_aload_n (pc := 0) hC 0 dX1_init_0 rfl ?_
  refine y_obj (pc := 1) hC kw_1_94 kw_1_22 kw_1_23 ⟨nb rfl, nb rfl⟩ dX1_init_1 ?_
  refine y_aload_n (pc := 4) hC 0 dX1_init_4 rfl ?_
  refine y_bipush (pc := 5) hC dX1_init_5 20 (by decide) ?_
  refine y_newaI (pc := 7) hC dX1_init_7 20 (fun q1 => [(a0, .inr (1, [.null, .null, .null, .null, .int 0])), (q1, aI d 20 (fun _ => 0))]) rfl rfl kw_1_63 ⟨nb rfl, nb rfl⟩ (fun _ => rfl) (fun q1 => ?_)
  refine y_putF (pc := 9) hC hin 0 0 (.array .int) dX1_init_9 tyX1 [(a0, .inr (1, [.ref q1, .null, .null, .null, .int 0])), (q1, aI d 20 (fun _ => 0))] rfl rfl rfl inX1 tyX1_ok nmX1 (by decide) kw_1_95 rfl rfl rfl (by decide +kernel) rfl rfl (Nat.le_of_ble_eq_true rfl) ?_
  refine y_aload_n (pc := 12) hC 0 dX1_init_12 rfl ?_
  refine y_bipush (pc := 13) hC dX1_init_13 20 (by decide) ?_
  refine y_newaI (pc := 15) hC dX1_init_15 20 (fun q2 => [(a0, .inr (1, [.ref q1, .null, .null, .null, .int 0])), (q1, aI d 20 (fun _ => 0)), (q2, aI d 20 (fun _ => 0))]) rfl rfl kw_1_63 ⟨nb rfl, nb rfl⟩ (fun _ => rfl) (fun q2 => ?_)
  refine y_putF (pc := 17) hC hin 0 1 (.array .int) dX1_init_17 tyX1 [(a0, .inr (1, [.ref q1, .ref q2, .null, .null, .int 0])), (q1, aI d 20 (fun _ => 0)), (q2, aI d 20 (fun _ => 0))] rfl rfl rfl inX1 tyX1_ok nmX1 (by decide) kw_1_96 rfl rfl rfl (by decide +kernel) rfl rfl (Nat.le_of_ble_eq_true rfl) ?_
  refine y_aload_n (pc := 20) hC 0 dX1_init_20 rfl ?_
  refine y_bipush (pc := 21) hC dX1_init_21 20 (by decide) ?_
  refine y_newaI (pc := 23) hC dX1_init_23 20 (fun q3 => [(a0, .inr (1, [.ref q1, .ref q2, .null, .null, .int 0])), (q1, aI d 20 (fun _ => 0)), (q2, aI d 20 (fun _ => 0)), (q3, aI d 20 (fun _ => 0))]) rfl rfl kw_1_63 ⟨nb rfl, nb rfl⟩ (fun _ => rfl) (fun q3 => ?_)
  refine y_putF (pc := 25) hC hin 0 2 (.array .int) dX1_init_25 tyX1 [(a0, .inr (1, [.ref q1, .ref q2, .ref q3, .null, .int 0])), (q1, aI d 20 (fun _ => 0)), (q2, aI d 20 (fun _ => 0)), (q3, aI d 20 (fun _ => 0))] rfl rfl rfl inX1 tyX1_ok nmX1 (by decide) kw_1_97 rfl rfl rfl (by decide +kernel) rfl rfl (Nat.le_of_ble_eq_true rfl) ?_
  refine y_aload_n (pc := 28) hC 0 dX1_init_28 rfl ?_
  refine y_bipush (pc := 29) hC dX1_init_29 20 (by decide) ?_
  refine y_newaZ (pc := 31) hC dX1_init_31 20 (fun q4 => [(a0, .inr (1, [.ref q1, .ref q2, .ref q3, .null, .int 0])), (q1, aI d 20 (fun _ => 0)), (q2, aI d 20 (fun _ => 0)), (q3, aI d 20 (fun _ => 0)), (q4, aZ d 20 (fun _ => false))]) rfl rfl kw_1_64 ⟨nb rfl, nb rfl⟩ (fun _ => rfl) (fun q4 => ?_)
  refine y_putF (pc := 33) hC hin 0 3 (.array .boolean) dX1_init_33 tyX1 [(a0, .inr (1, [.ref q1, .ref q2, .ref q3, .ref q4, .int 0])), (q1, aI d 20 (fun _ => 0)), (q2, aI d 20 (fun _ => 0)), (q3, aI d 20 (fun _ => 0)), (q4, aZ d 20 (fun _ => false))] rfl rfl rfl inX1 tyX1_ok nmX1 (by decide) kw_1_98 rfl rfl rfl (by decide +kernel) rfl rfl (Nat.le_of_ble_eq_true rfl) ?_
  refine y_aload_n (pc := 36) hC 0 dX1_init_36 rfl ?_
  refine y_iconst (pc := 37) hC dX1_init_37 0 (by decide) ?_
  refine y_put (pc := 38) hC 0 4 .int dX1_init_38 tyX1 [(a0, .inr (1, [.ref q1, .ref q2, .ref q3, .ref q4, .int 0])), (q1, aI d 20 (fun _ => 0)), (q2, aI d 20 (fun _ => 0)), (q3, aI d 20 (fun _ => 0)), (q4, aZ d 20 (fun _ => false))] rfl rfl rfl inX1 tyX1_ok nmX1 (by decide) kw_1_99 rfl rfl (by decide +kernel) rfl rfl (Nat.le_of_ble_eq_true rfl) ?_
  exact y_vret (fun i => match i with | 1 => q1 | 2 => q2 | 3 => q3 | 4 => q4 | _ => a0) hC hQ (trivial) rfl (nb rfl) (nb rfl) dX1_init_41
theorem n_X1_init : yyN yX1_init RX1 0 := by refine ⟨rfl, ?_, ?_, ?_⟩ <;> decide +kernel
end
section
-- Cannons
theorem near_ix (cp ha : fI) (p r : Int32) (n : Nat) : (yi n (nearS cp ha p) (-1, r + 1)).1 = -1 ∨ ∃ k, k < n ∧ (yi n (nearS cp ha p) (-1, r + 1)).1 = nI k := by
  induction n with
  | zero => exact Or.inl rfl
  | succ n ih =>
    have keep : (yi n (nearS cp ha p) (-1, r + 1)).1 = -1 ∨ ∃ k, k < n + 1 ∧ (yi n (nearS cp ha p) (-1, r + 1)).1 = nI k := by
      rcases ih with h | ⟨k, h1, h2⟩
      · exact Or.inl h
      · exact Or.inr ⟨k, by omega, h2⟩
    show (nearS cp ha p n (yi n (nearS cp ha p) (-1, r + 1))).1 = -1 ∨ ∃ k, k < n + 1 ∧ (nearS cp ha p n (yi n (nearS cp ha p) (-1, r + 1))).1 = nI k
    unfold nearS
    cases gnF cp n with
    | true => exact keep
    | false =>
      rw [cond_false]
      split
      · exact keep
      · split
        · exact keep
        · exact Or.inr ⟨n, by omega, rfl⟩
def targF (kp rg pw cp ha : fI) (nc : Nat) (j : Nat) : Int32 := if pw j ≤ 0 then -1 else nearF cp ha (kp j) (rg j) nc
theorem targ_ix {kp rg pw cp ha : fI} {nc j : Nat} (h : ¬ targF kp rg pw cp ha nc j < 0) : ∃ t, t < nc ∧ targF kp rg pw cp ha nc j = nI t := by
  unfold targF at h ⊢
  by_cases e : pw j ≤ 0
  · rw [if_pos e] at h
    exact absurd (by decide) h
  · rw [if_neg e] at h ⊢
    rcases near_ix cp ha (kp j) (rg j) nc with q | q
    · have q' : nearF cp ha (kp j) (rg j) nc = -1 := q
      rw [q'] at h
      exact absurd (by decide) h
    · exact q
def shootS (kp rg cp pl : fI) (me : fB) (nc ny j : Nat) (w : fI × fI × fI × fI) : fI × fI × fI × fI :=
  if targF kp rg w.1 cp w.2.2.1 nc j < 0 then w else
    (upd w.1 j (w.1 j - 1), upd w.2.1 j (w.2.1 j + 1), shotF cp (kp j) (rg j) (targF kp rg w.1 cp w.2.2.1 nc j).toNatClampNeg w.2.2.1, hearF pl me (kp j) ny w.2.2.2)
def shootF (kp rg cp pl : fI) (me : fB) (nc ny nk : Nat) (w : fI × fI × fI × fI) : fI × fI × fI × fI := yi nk (shootS kp rg cp pl me nc ny) w
def kfact (kp rg pw sh cp ha : fI) (nc j w : Nat) : Int32 := if w = 0 then kp j else if w = 1 then rg j else if w = 2 then pw j else if w = 3 then sh j else targF kp rg pw cp ha nc j
set_option maxHeartbeats 4000000 in
set_option maxRecDepth 100000 in
theorem c_X0_target (l : Launch) (d : yyD) (k0 : Nat) (k1 : Nat) (k2 : Nat) (k3 : Nat) (k4 : Nat) (e0 : Nat) (e1 : Nat) (e2 : Nat) (e3 : Nat) (e4 : Nat) (cp : fI) (ha : fI) (nc : Nat) (kp : fI) (rg : fI) (pw : fI) (nk : Nat) (j : Nat) (hc : nc ≤ 20) (hj : j < 6) : yyI l yX0_target cX0_target 3 (some .int) { frames := 2, cells := 0, slots := 0, locals := 39 } d [.ref k0, .int (nI j), .ref e0] [(k0, .inr (0, [.ref k1, .ref k2, .ref k3, .ref k4, .int (nI nk)])), (k1, aI d 6 kp), (k2, aI d 6 rg), (k3, aI d 6 pw), (e0, .inr (1, [.ref e1, .ref e2, .ref e3, .ref e4, .int (nI nc)])), (e1, aI d 20 cp), (e3, aI d 20 ha), (e4, aZ d 20 (gnF cp))] [(k0, .inr (0, [.ref k1, .ref k2, .ref k3, .ref k4, .int (nI nk)])), (k1, aI d 6 kp), (k2, aI d 6 rg), (k3, aI d 6 pw), (e0, .inr (1, [.ref e1, .ref e2, .ref e3, .ref e4, .int (nI nc)])), (e1, aI d 20 cp), (e3, aI d 20 ha), (e4, aZ d 20 (gnF cp))] (targF kp rg pw cp ha nc j) := by
  refine yyI_of (own := RX0) [(0, .ref k0), (1, .int (nI j)), (2, .ref e0)] (by decide +kernel) rfl (Nat.le_of_ble_eq_true rfl) rfl ?_
  intro G Q hQ hGL hC hGA
  refine y_aload_n (pc := 0) hC 0 dX0_target_0 rfl ?_
  refine y_get (pc := 1) hC 0 2 dX0_target_1 rfl rfl inX0 (by decide) kw_1_74 rfl rfl ?_
  refine y_iload_n (pc := 4) hC 1 dX0_target_4 rfl ?_
  refine y_iald (pc := 5) hC 3 (j := j) dX0_target_5 (pw j) rfl (by omega) rfl rfl ?_
  refine y_if_le (pc := 6) hC dX0_target_6 28 (by decide) (fun c_1 => ?_) (fun c_1 => ?_)
  · refine y_iconst (pc := 28) hC dX0_target_28 (-1) (by decide) ?_
    exact y_iret hC hQ rfl rfl (by simp only [targF, c_1, ↓reduceIte, cond_true, cond_false]) (nb rfl) (nb rfl) dX0_target_29
  · refine y_aload_n (pc := 9) hC 2 dX0_target_9 rfl ?_
    refine y_aload_n (pc := 10) hC 0 dX0_target_10 rfl ?_
    refine y_get (pc := 11) hC 0 0 dX0_target_11 rfl rfl inX0 (by decide) kw_1_71 rfl rfl ?_
    refine y_iload_n (pc := 14) hC 1 dX0_target_14 rfl ?_
    refine y_iald (pc := 15) hC 1 (j := j) dX0_target_15 (kp j) rfl (by omega) rfl rfl ?_
    refine y_aload_n (pc := 16) hC 0 dX0_target_16 rfl ?_
    refine y_get (pc := 17) hC 0 1 dX0_target_17 rfl rfl inX0 (by decide) kw_1_73 rfl rfl ?_
    refine y_iload_n (pc := 20) hC 1 dX0_target_20 rfl ?_
    refine y_iald (pc := 21) hC 2 (j := j) dX0_target_21 (rg j) rfl (by omega) rfl rfl ?_
    refine y_cI (pc := 22) (As := [.int (kp j), .int (rg j)]) (st := []) hC (c_X1_nearest (gL G) d e0 e1 e2 e3 e4 cp ha nc (kp j) (rg j) (by omega)) kw_1_217 kw_1_214 kw_1_215 kw_1_216 kw_1_5 n_X1_nearest ⟨⟨nb rfl, nb rfl⟩, ⟨nb rfl, nb rfl⟩, nb rfl⟩ [4, 5, 6, 7] [0, 1, 2, 3] [0, 1, 2, 3, 4, 5, 6, 7] 0 [(k0, .inr (0, [.ref k1, .ref k2, .ref k3, .ref k4, .int (nI nk)])), (k1, aI d 6 kp), (k2, aI d 6 rg), (k3, aI d 6 pw)] [(k0, .inr (0, [.ref k1, .ref k2, .ref k3, .ref k4, .int (nI nk)])), (k1, aI d 6 kp), (k2, aI d 6 rg), (k3, aI d 6 pw), (e0, .inr (1, [.ref e1, .ref e2, .ref e3, .ref e4, .int (nI nc)])), (e1, aI d 20 cp), (e3, aI d 20 ha), (e4, aZ d 20 (gnF cp))] rfl rfl ⟨rfl, by decide, rfl, by decide, by decide⟩ ⟨rfl, by decide⟩ rfl dX0_target_22 ?_
    refine y_goto (pc := 25) hC dX0_target_25 29 (by decide) ?_
    exact y_iret hC hQ rfl rfl (by simp only [targF, c_1, ↓reduceIte, cond_true, cond_false]) (nb rfl) (nb rfl) dX0_target_29
theorem n_X0_target : yyN yX0_target RX0 2 := by refine ⟨rfl, ?_, ?_, ?_⟩ <;> decide +kernel
set_option maxHeartbeats 4000000 in
set_option maxRecDepth 100000 in
theorem c_X0_add (l : Launch) (d : yyD) (k0 : Nat) (k1 : Nat) (k2 : Nat) (k3 : Nat) (k4 : Nat) (kp : fI) (rg : fI) (pw : fI) (nk : Nat) (x : Int32) (y : Int32) (z : Int32) (hk : nk < 6) : yyI l yX0_add cX0_add 5 (some .int) { frames := 0, cells := 0, slots := 0, locals := 0 } d [.ref k0, .int x, .int y, .int z] [(k0, .inr (0, [.ref k1, .ref k2, .ref k3, .ref k4, .int (nI nk)])), (k1, aI d 6 kp), (k2, aI d 6 rg), (k3, aI d 6 pw)] [(k0, .inr (0, [.ref k1, .ref k2, .ref k3, .ref k4, .int (nI (nk + 1))])), (k1, aI d 6 (upd kp nk x)), (k2, aI d 6 (upd rg nk y)), (k3, aI d 6 (upd pw nk z))] (nI nk) := by
  refine yyI_of (own := RX0) [(0, .ref k0), (1, .int x), (2, .int y), (3, .int z)] (by decide +kernel) rfl (Nat.le_of_ble_eq_true rfl) rfl ?_
  intro G Q hQ hGL hC hGA
  refine y_aload_n (pc := 0) hC 0 dX0_add_0 rfl ?_
  refine y_get (pc := 1) hC 0 4 dX0_add_1 rfl rfl inX0 (by decide) kw_1_76 rfl rfl ?_
  refine y_istore (pc := 4) hC dX0_add_4 [(4, .int (nI nk)), (0, .ref k0), (1, .int x), (2, .int y), (3, .int z)] rfl (by decide) ?_
  refine y_aload_n (pc := 6) hC 1 dX0_add_6 rfl ?_
  refine y_get (pc := 7) hC 0 0 dX0_add_7 rfl rfl inX0 (by decide) kw_1_71 rfl rfl ?_
  refine y_iload (pc := 10) hC 0 dX0_add_10 rfl ?_
  refine y_iload_n (pc := 12) hC 2 dX0_add_12 rfl ?_
  refine y_iast (pc := 13) hC 1 (j := nk) dX0_add_13 (upd kp nk x) [(k0, .inr (0, [.ref k1, .ref k2, .ref k3, .ref k4, .int (nI nk)])), (k1, aI d 6 (upd kp nk x)), (k2, aI d 6 rg), (k3, aI d 6 pw)] rfl (by omega) rfl rfl rfl ?_
  refine y_aload_n (pc := 14) hC 1 dX0_add_14 rfl ?_
  refine y_get (pc := 15) hC 0 1 dX0_add_15 rfl rfl inX0 (by decide) kw_1_73 rfl rfl ?_
  refine y_iload (pc := 18) hC 0 dX0_add_18 rfl ?_
  refine y_iload_n (pc := 20) hC 3 dX0_add_20 rfl ?_
  refine y_iast (pc := 21) hC 2 (j := nk) dX0_add_21 (upd rg nk y) [(k0, .inr (0, [.ref k1, .ref k2, .ref k3, .ref k4, .int (nI nk)])), (k1, aI d 6 (upd kp nk x)), (k2, aI d 6 (upd rg nk y)), (k3, aI d 6 pw)] rfl (by omega) rfl rfl rfl ?_
  refine y_aload_n (pc := 22) hC 1 dX0_add_22 rfl ?_
  refine y_get (pc := 23) hC 0 2 dX0_add_23 rfl rfl inX0 (by decide) kw_1_74 rfl rfl ?_
  refine y_iload (pc := 26) hC 0 dX0_add_26 rfl ?_
  refine y_iload_n (pc := 28) hC 4 dX0_add_28 rfl ?_
  refine y_iast (pc := 29) hC 3 (j := nk) dX0_add_29 (upd pw nk z) [(k0, .inr (0, [.ref k1, .ref k2, .ref k3, .ref k4, .int (nI nk)])), (k1, aI d 6 (upd kp nk x)), (k2, aI d 6 (upd rg nk y)), (k3, aI d 6 (upd pw nk z))] rfl (by omega) rfl rfl rfl ?_
  refine y_aload_n (pc := 30) hC 1 dX0_add_30 rfl ?_
  refine y_dup (pc := 31) hC dX0_add_31 rfl ?_
  refine y_get (pc := 32) hC 0 4 dX0_add_32 rfl rfl inX0 (by decide) kw_1_76 rfl rfl ?_
  refine y_iconst (pc := 35) hC dX0_add_35 1 (by decide) ?_
  refine y_iadd (pc := 36) hC dX0_add_36 (nI (nk + 1)) (nI_1 _) ?_
  refine y_put (pc := 37) hC 0 4 .int dX0_add_37 tyX0 [(k0, .inr (0, [.ref k1, .ref k2, .ref k3, .ref k4, .int (nI (nk + 1))])), (k1, aI d 6 (upd kp nk x)), (k2, aI d 6 (upd rg nk y)), (k3, aI d 6 (upd pw nk z))] rfl rfl rfl inX0 tyX0_ok nmX0 (by decide) kw_1_76 rfl rfl (by decide +kernel) rfl rfl (Nat.le_of_ble_eq_true rfl) ?_
  refine y_iload (pc := 40) hC 0 dX0_add_40 rfl ?_
  exact y_iret hC hQ rfl rfl rfl (nb rfl) (nb rfl) dX0_add_42
theorem n_X0_add : yyN yX0_add RX0 3 := by refine ⟨rfl, ?_, ?_, ?_⟩ <;> decide +kernel
set_option maxHeartbeats 4000000 in
set_option maxRecDepth 100000 in
theorem c_X0_addPowder (l : Launch) (d : yyD) (k0 : Nat) (k1 : Nat) (k2 : Nat) (k3 : Nat) (k4 : Nat) (pw : fI) (nk : Nat) (j : Nat) (x : Int32) (hj : j < 6) : yyI l yX0_addPowder cX0_addPowder 3 (some .int) { frames := 1, cells := 0, slots := 0, locals := 15 } d [.ref k0, .int (nI j), .int x] [(k0, .inr (0, [.ref k1, .ref k2, .ref k3, .ref k4, .int (nI nk)])), (k3, aI d 6 pw)] [(k0, .inr (0, [.ref k1, .ref k2, .ref k3, .ref k4, .int (nI nk)])), (k3, aI d 6 (upd pw j (mn (pw j + x) 60)))] (mn (pw j + x) 60) := by
  refine yyI_of (own := RX0) [(0, .ref k0), (1, .int (nI j)), (2, .int x)] (by decide +kernel) rfl (Nat.le_of_ble_eq_true rfl) rfl ?_
  intro G Q hQ hGL hC hGA
  refine y_aload_n (pc := 0) hC 0 dX0_addPowder_0 rfl ?_
  refine y_get (pc := 1) hC 0 2 dX0_addPowder_1 rfl rfl inX0 (by decide) kw_1_74 rfl rfl ?_
  refine y_iload_n (pc := 4) hC 1 dX0_addPowder_4 rfl ?_
  refine y_aload_n (pc := 5) hC 0 dX0_addPowder_5 rfl ?_
  refine y_get (pc := 6) hC 0 2 dX0_addPowder_6 rfl rfl inX0 (by decide) kw_1_74 rfl rfl ?_
  refine y_iload_n (pc := 9) hC 1 dX0_addPowder_9 rfl ?_
  refine y_iald (pc := 10) hC 1 (j := j) dX0_addPowder_10 (pw j) rfl (by omega) rfl rfl ?_
  refine y_iload_n (pc := 11) hC 2 dX0_addPowder_11 rfl ?_
  refine y_iadd (pc := 12) hC dX0_addPowder_12 ((pw j) + x) rfl ?_
  refine y_bipush (pc := 13) hC dX0_addPowder_13 60 (by decide) ?_
  refine y_min (pc := 15) hC dX0_addPowder_15 kw_2_141 kw_2_142 kw_1_14 kw_2_143 ⟨nb rfl, nb rfl, nb rfl, nb rfl⟩ ?_
  refine y_iast (pc := 18) hC 1 (j := j) dX0_addPowder_18 (upd pw j (mn ((pw j) + x) 60)) [(k0, .inr (0, [.ref k1, .ref k2, .ref k3, .ref k4, .int (nI nk)])), (k3, aI d 6 (upd pw j (mn ((pw j) + x) 60)))] rfl (by omega) rfl rfl rfl ?_
  refine y_aload_n (pc := 19) hC 0 dX0_addPowder_19 rfl ?_
  refine y_get (pc := 20) hC 0 2 dX0_addPowder_20 rfl rfl inX0 (by decide) kw_1_74 rfl rfl ?_
  refine y_iload_n (pc := 23) hC 1 dX0_addPowder_23 rfl ?_
  refine y_iald (pc := 24) hC 1 (j := j) dX0_addPowder_24 (mn ((pw j) + x) 60) rfl (by omega) rfl pk_us ?_
  exact y_iret hC hQ rfl rfl rfl (nb rfl) (nb rfl) dX0_addPowder_25
theorem n_X0_addPowder : yyN yX0_addPowder RX0 2 := by refine ⟨rfl, ?_, ?_, ?_⟩ <;> decide +kernel
set_option maxHeartbeats 4000000 in
set_option maxRecDepth 100000 in
theorem c_X0_fact (l : Launch) (d : yyD) (k0 : Nat) (k1 : Nat) (k2 : Nat) (k3 : Nat) (k4 : Nat) (e0 : Nat) (e1 : Nat) (e2 : Nat) (e3 : Nat) (e4 : Nat) (cp : fI) (ha : fI) (nc : Nat) (kp : fI) (rg : fI) (pw : fI) (sh : fI) (nk : Nat) (j : Nat) (w : Nat) (hc : nc ≤ 20) (hj : j < 6) (hw : w ≤ 4) : yyI l yX0_fact cX0_fact 4 (some .int) { frames := 3, cells := 0, slots := 0, locals := 61 } d [.ref k0, .int (nI j), .int (nI w), .ref e0] [(k0, .inr (0, [.ref k1, .ref k2, .ref k3, .ref k4, .int (nI nk)])), (k1, aI d 6 kp), (k2, aI d 6 rg), (k3, aI d 6 pw), (k4, aI d 6 sh), (e0, .inr (1, [.ref e1, .ref e2, .ref e3, .ref e4, .int (nI nc)])), (e1, aI d 20 cp), (e3, aI d 20 ha), (e4, aZ d 20 (gnF cp))] [(k0, .inr (0, [.ref k1, .ref k2, .ref k3, .ref k4, .int (nI nk)])), (k1, aI d 6 kp), (k2, aI d 6 rg), (k3, aI d 6 pw), (k4, aI d 6 sh), (e0, .inr (1, [.ref e1, .ref e2, .ref e3, .ref e4, .int (nI nc)])), (e1, aI d 20 cp), (e3, aI d 20 ha), (e4, aZ d 20 (gnF cp))] (kfact kp rg pw sh cp ha nc j w) := by
  refine yyI_of (own := RX0) [(0, .ref k0), (1, .int (nI j)), (2, .int (nI w)), (3, .ref e0)] (by decide +kernel) rfl (Nat.le_of_ble_eq_true rfl) rfl ?_
  intro G Q hQ hGL hC hGA
  refine y_iload_n (pc := 0) hC 2 dX0_fact_0 rfl ?_
  have hs1 : w = 0 ∨ w = 1 ∨ w = 2 ∨ w = 3 ∨ w = 4 := by omega
  rcases hs1 with rfl | rfl | rfl | rfl | rfl
  · refine y_tsw (pc := 1) (off := 31) hC dX0_fact_1 32 (by decide +kernel) (by decide +kernel) (by decide +kernel) (by decide) ?_
    refine y_aload_n (pc := 32) hC 0 dX0_fact_32 rfl ?_
    refine y_get (pc := 33) hC 0 0 dX0_fact_33 rfl rfl inX0 (by decide) kw_1_71 rfl rfl ?_
    refine y_iload_n (pc := 36) hC 1 dX0_fact_36 rfl ?_
    refine y_iald (pc := 37) hC 1 (j := j) dX0_fact_37 (kp j) rfl (by omega) rfl rfl ?_
    exact y_iret hC hQ rfl rfl rfl (nb rfl) (nb rfl) dX0_fact_38
  · refine y_tsw (pc := 1) (off := 38) hC dX0_fact_1 39 (by decide +kernel) (by decide +kernel) (by decide +kernel) (by decide) ?_
    refine y_aload_n (pc := 39) hC 0 dX0_fact_39 rfl ?_
    refine y_get (pc := 40) hC 0 1 dX0_fact_40 rfl rfl inX0 (by decide) kw_1_73 rfl rfl ?_
    refine y_iload_n (pc := 43) hC 1 dX0_fact_43 rfl ?_
    refine y_iald (pc := 44) hC 2 (j := j) dX0_fact_44 (rg j) rfl (by omega) rfl rfl ?_
    exact y_iret hC hQ rfl rfl rfl (nb rfl) (nb rfl) dX0_fact_45
  · refine y_tsw (pc := 1) (off := 45) hC dX0_fact_1 46 (by decide +kernel) (by decide +kernel) (by decide +kernel) (by decide) ?_
    refine y_aload_n (pc := 46) hC 0 dX0_fact_46 rfl ?_
    refine y_get (pc := 47) hC 0 2 dX0_fact_47 rfl rfl inX0 (by decide) kw_1_74 rfl rfl ?_
    refine y_iload_n (pc := 50) hC 1 dX0_fact_50 rfl ?_
    refine y_iald (pc := 51) hC 3 (j := j) dX0_fact_51 (pw j) rfl (by omega) rfl rfl ?_
    exact y_iret hC hQ rfl rfl rfl (nb rfl) (nb rfl) dX0_fact_52
  · refine y_tsw (pc := 1) (off := 52) hC dX0_fact_1 53 (by decide +kernel) (by decide +kernel) (by decide +kernel) (by decide) ?_
    refine y_aload_n (pc := 53) hC 0 dX0_fact_53 rfl ?_
    refine y_get (pc := 54) hC 0 3 dX0_fact_54 rfl rfl inX0 (by decide) kw_1_75 rfl rfl ?_
    refine y_iload_n (pc := 57) hC 1 dX0_fact_57 rfl ?_
    refine y_iald (pc := 58) hC 4 (j := j) dX0_fact_58 (sh j) rfl (by omega) rfl rfl ?_
    exact y_iret hC hQ rfl rfl rfl (nb rfl) (nb rfl) dX0_fact_59
  · refine y_tsd (pc := 1) hC dX0_fact_1 60 (by decide +kernel) (by decide) ?_
    refine y_aload_n (pc := 60) hC 0 dX0_fact_60 rfl ?_
    refine y_iload_n (pc := 61) hC 1 dX0_fact_61 rfl ?_
    refine y_aload_n (pc := 62) hC 3 dX0_fact_62 rfl ?_
    refine y_cI (pc := 63) (As := [.int (nI j), .ref e0]) (st := []) hC (c_X0_target (gL G) d k0 k1 k2 k3 k4 e0 e1 e2 e3 e4 cp ha nc kp rg pw nk j (by omega) (by omega)) kw_1_213 kw_1_210 kw_1_212 kw_s4 kw_1_4 n_X0_target ⟨⟨nb rfl, nb rfl⟩, ⟨nb rfl, nb rfl⟩, nb rfl⟩ [0, 1, 2, 3, 5, 6, 7, 8] [4] [1, 2, 3, 4, 0, 5, 6, 7, 8] 0 [(k4, aI d 6 sh)] [(k0, .inr (0, [.ref k1, .ref k2, .ref k3, .ref k4, .int (nI nk)])), (k1, aI d 6 kp), (k2, aI d 6 rg), (k3, aI d 6 pw), (k4, aI d 6 sh), (e0, .inr (1, [.ref e1, .ref e2, .ref e3, .ref e4, .int (nI nc)])), (e1, aI d 20 cp), (e3, aI d 20 ha), (e4, aZ d 20 (gnF cp))] rfl rfl ⟨rfl, by decide, rfl, by decide, by decide⟩ ⟨rfl, by decide⟩ rfl dX0_fact_63 ?_
    exact y_iret hC hQ rfl rfl rfl (nb rfl) (nb rfl) dX0_fact_66
theorem n_X0_fact : yyN yX0_fact RX0 3 := by refine ⟨rfl, ?_, ?_, ?_⟩ <;> decide +kernel
set_option maxHeartbeats 4000000 in
set_option maxRecDepth 100000 in
theorem c_X0_sumOfShots (l : Launch) (d : yyD) (k0 : Nat) (k1 : Nat) (k2 : Nat) (k3 : Nat) (k4 : Nat) (sh : fI) (nk : Nat) (hk : nk ≤ 6) : yyI l yX0_sumOfShots cX0_sumOfShots 3 (some .int) { frames := 0, cells := 0, slots := 0, locals := 0 } d [.ref k0] [(k0, .inr (0, [.ref k1, .ref k2, .ref k3, .ref k4, .int (nI nk)])), (k4, aI d 6 sh)] [(k0, .inr (0, [.ref k1, .ref k2, .ref k3, .ref k4, .int (nI nk)])), (k4, aI d 6 sh)] (sumF sh nk) := by
  refine yyI_of (own := RX0) [(0, .ref k0)] (by decide +kernel) rfl (Nat.le_of_ble_eq_true rfl) rfl ?_
  intro G Q hQ hGL hC hGA
  refine y_iconst (pc := 0) hC dX0_sumOfShots_0 0 (by decide) ?_
  refine y_istore_n (pc := 1) hC dX0_sumOfShots_1 [(1, .int 0), (0, .ref k0)] rfl (by decide) ?_
  refine y_iconst (pc := 2) hC dX0_sumOfShots_2 0 (by decide) ?_
  refine y_istore_n (pc := 3) hC dX0_sumOfShots_3 [(2, .int 0), (1, .int 0), (0, .ref k0)] rfl (by decide) ?_
  have lpj1 : ∀ r1 j1 : Nat, j1 + r1 = nk → yyW d G 0 0 Q [(k0, .inr (0, [.ref k1, .ref k2, .ref k3, .ref k4, .int (nI nk)])), (k4, aI d 6 sh)] [(2, .int (nI j1)), (1, .int (yi j1 (fun k a => a + sh k) 0)), (0, .ref k0)] 4 [] := by
    intro r1
    induction r1 with
    | zero =>
      intro j1 hj1
      have ej1 : j1 = nk := by omega
      rw [ej1]
      refine y_iload_n (pc := 4) hC 0 dX0_sumOfShots_4 rfl ?_
      refine y_aload_n (pc := 5) hC 2 dX0_sumOfShots_5 rfl ?_
      refine y_get (pc := 6) hC 0 4 dX0_sumOfShots_6 rfl rfl inX0 (by decide) kw_1_76 rfl rfl ?_
      refine y_ge_t (pc := 9) (a := nk) (b := nk) hC dX0_sumOfShots_9 27 (by decide) (by omega) (by omega) ?_
      refine y_iload_n (pc := 27) hC 1 dX0_sumOfShots_27 rfl ?_
      exact y_iret hC hQ rfl rfl rfl (nb rfl) (nb rfl) dX0_sumOfShots_28
    | succ r1 ihj1 =>
      intro j1 hj1
      have lj1 : j1 < nk := by omega
      refine y_iload_n (pc := 4) hC 0 dX0_sumOfShots_4 rfl ?_
      refine y_aload_n (pc := 5) hC 2 dX0_sumOfShots_5 rfl ?_
      refine y_get (pc := 6) hC 0 4 dX0_sumOfShots_6 rfl rfl inX0 (by decide) kw_1_76 rfl rfl ?_
      refine y_ge_f (pc := 9) (a := j1) (b := nk) hC dX0_sumOfShots_9 27 (by decide) (by omega) (by omega) ?_
      refine y_iload_n (pc := 12) hC 1 dX0_sumOfShots_12 rfl ?_
      refine y_aload_n (pc := 13) hC 2 dX0_sumOfShots_13 rfl ?_
      refine y_get (pc := 14) hC 0 3 dX0_sumOfShots_14 rfl rfl inX0 (by decide) kw_1_75 rfl rfl ?_
      refine y_iload_n (pc := 17) hC 0 dX0_sumOfShots_17 rfl ?_
      refine y_iald (pc := 18) hC 1 (j := j1) dX0_sumOfShots_18 (sh j1) rfl (by omega) rfl rfl ?_
      refine y_iadd (pc := 19) hC dX0_sumOfShots_19 ((yi j1 (fun k a => a + sh k) 0) + (sh j1)) rfl ?_
      refine y_istore_n (pc := 20) hC dX0_sumOfShots_20 [(1, .int ((yi j1 (fun k a => a + sh k) 0) + (sh j1))), (2, .int (nI j1)), (0, .ref k0)] rfl (by decide) ?_
      refine y_iinc (pc := 21) hC 1 dX0_sumOfShots_21 (nI (j1 + 1)) [(2, .int (nI (j1 + 1))), (1, .int ((yi j1 (fun k a => a + sh k) 0) + (sh j1))), (0, .ref k0)] rfl (nI_inc _) rfl (by decide) ?_
      refine y_goto (pc := 24) hC dX0_sumOfShots_24 4 (by decide) ?_
      refine y_ws [(k0, .inr (0, [.ref k1, .ref k2, .ref k3, .ref k4, .int (nI nk)])), (k4, aI d 6 sh)] rfl ?_
      refine y_lve [(2, .int (nI (j1 + 1))), (1, .int (yi (j1 + 1) (fun k a => a + sh k) 0)), (0, .ref k0)] (by simp only [yi, ↓reduceIte, cond_true, cond_false]) ?_
      exact ihj1 (j1 + 1) (by omega)
  refine y_lv [(2, .int 0), (1, .int 0), (0, .ref k0)] [0, 1, 2] rfl ?_
  exact lpj1 nk 0 (by omega)
theorem n_X0_sumOfShots : yyN yX0_sumOfShots RX0 0 := by refine ⟨rfl, ?_, ?_, ?_⟩ <;> decide +kernel
set_option maxHeartbeats 4000000 in
set_option maxRecDepth 100000 in
theorem c_X0_shoot (l : Launch) (d : yyD) (k0 : Nat) (k1 : Nat) (k2 : Nat) (k3 : Nat) (k4 : Nat) (e0 : Nat) (e1 : Nat) (e2 : Nat) (e3 : Nat) (e4 : Nat) (a0 : Nat) (a1 : Nat) (a2 : Nat) (a3 : Nat) (a4 : Nat) (a5 : Nat) (a6 : Nat) (a7 : Nat) (kp : fI) (rg : fI) (pw : fI) (sh : fI) (nk : Nat) (cp : fI) (ha : fI) (nc : Nat) (pl : fI) (me : fB) (su : fI) (n : Nat) (hk : nk ≤ 6) (hc : nc ≤ 20) (hn : n ≤ 10) : yyV (S := Unit) l yX0_shoot cX0_shoot 5 { frames := 3, cells := 0, slots := 0, locals := 61 } d [.ref k0, .ref e0, .ref a0] [(k0, .inr (0, [.ref k1, .ref k2, .ref k3, .ref k4, .int (nI nk)])), (k1, aI d 6 kp), (k2, aI d 6 rg), (k3, aI d 6 pw), (k4, aI d 6 sh), (e0, .inr (1, [.ref e1, .ref e2, .ref e3, .ref e4, .int (nI nc)])), (e1, aI d 20 cp), (e3, aI d 20 ha), (e4, aZ d 20 (gnF cp)), (a0, .inr (3, [.ref a1, .ref a2, .ref a3, .ref a4, .ref a5, .ref a6, .ref a7, .int (nI n)])), (a1, aI d 10 pl), (a3, aZ d 10 me), (a6, aI d 10 su)] (fun _ => True) (fun _ => [(k0, .inr (0, [.ref k1, .ref k2, .ref k3, .ref k4, .int (nI nk)])), (k1, aI d 6 kp), (k2, aI d 6 rg), (k3, aI d 6 ((shootF kp rg cp pl me nc n nk (pw, sh, ha, su)).1)), (k4, aI d 6 ((shootF kp rg cp pl me nc n nk (pw, sh, ha, su)).2.1)), (e0, .inr (1, [.ref e1, .ref e2, .ref e3, .ref e4, .int (nI nc)])), (e1, aI d 20 cp), (e3, aI d 20 ((shootF kp rg cp pl me nc n nk (pw, sh, ha, su)).2.2.1)), (e4, aZ d 20 (gnF cp)), (a0, .inr (3, [.ref a1, .ref a2, .ref a3, .ref a4, .ref a5, .ref a6, .ref a7, .int (nI n)])), (a1, aI d 10 pl), (a3, aZ d 10 me), (a6, aI d 10 ((shootF kp rg cp pl me nc n nk (pw, sh, ha, su)).2.2.2))]) := by
  refine yyV_of (own := RX0) [(0, .ref k0), (1, .ref e0), (2, .ref a0)] (by decide +kernel) rfl (Nat.le_of_ble_eq_true rfl) rfl ?_
  intro G Q hQ hGL hC hGA hin
  refine y_iconst (pc := 0) hC dX0_shoot_0 0 (by decide) ?_
  refine y_istore_n (pc := 1) hC dX0_shoot_1 [(3, .int 0), (0, .ref k0), (1, .ref e0), (2, .ref a0)] rfl (by decide) ?_
  have lpj1 : ∀ r1 j1 : Nat, j1 + r1 = nk → yyW d G 0 0 Q [(k0, .inr (0, [.ref k1, .ref k2, .ref k3, .ref k4, .int (nI nk)])), (k1, aI d 6 kp), (k2, aI d 6 rg), (k3, aI d 6 ((yi j1 (shootS kp rg cp pl me nc n) (pw, sh, ha, su)).1)), (k4, aI d 6 ((yi j1 (shootS kp rg cp pl me nc n) (pw, sh, ha, su)).2.1)), (e0, .inr (1, [.ref e1, .ref e2, .ref e3, .ref e4, .int (nI nc)])), (e1, aI d 20 cp), (e3, aI d 20 ((yi j1 (shootS kp rg cp pl me nc n) (pw, sh, ha, su)).2.2.1)), (e4, aZ d 20 (gnF cp)), (a0, .inr (3, [.ref a1, .ref a2, .ref a3, .ref a4, .ref a5, .ref a6, .ref a7, .int (nI n)])), (a1, aI d 10 pl), (a3, aZ d 10 me), (a6, aI d 10 ((yi j1 (shootS kp rg cp pl me nc n) (pw, sh, ha, su)).2.2.2))] [(3, .int (nI j1)), (0, .ref k0), (1, .ref e0), (2, .ref a0)] 2 [] := by
    intro r1
    induction r1 with
    | zero =>
      intro j1 hj1
      have ej1 : j1 = nk := by omega
      rw [ej1]
      refine y_iload_n (pc := 2) hC 0 dX0_shoot_2 rfl ?_
      refine y_aload_n (pc := 3) hC 1 dX0_shoot_3 rfl ?_
      refine y_get (pc := 4) hC 0 4 dX0_shoot_4 rfl rfl inX0 (by decide) kw_1_76 rfl rfl ?_
      refine y_ge_t (pc := 7) (a := nk) (b := nk) hC dX0_shoot_7 77 (by decide) (by omega) (by omega) ?_
      exact y_vret (()) hC hQ (trivial) rfl (nb rfl) (nb rfl) dX0_shoot_77
    | succ r1 ihj1 =>
      intro j1 hj1
      have lj1 : j1 < nk := by omega
      refine y_iload_n (pc := 2) hC 0 dX0_shoot_2 rfl ?_
      refine y_aload_n (pc := 3) hC 1 dX0_shoot_3 rfl ?_
      refine y_get (pc := 4) hC 0 4 dX0_shoot_4 rfl rfl inX0 (by decide) kw_1_76 rfl rfl ?_
      refine y_ge_f (pc := 7) (a := j1) (b := nk) hC dX0_shoot_7 77 (by decide) (by omega) (by omega) ?_
      refine y_aload_n (pc := 10) hC 1 dX0_shoot_10 rfl ?_
      refine y_iload_n (pc := 11) hC 0 dX0_shoot_11 rfl ?_
      refine y_aload_n (pc := 12) hC 2 dX0_shoot_12 rfl ?_
      refine y_cI (pc := 13) (As := [.int (nI j1), .ref e0]) (st := []) hC (c_X0_target (gL G) d k0 k1 k2 k3 k4 e0 e1 e2 e3 e4 cp ((yi j1 (shootS kp rg cp pl me nc n) (pw, sh, ha, su)).2.2.1) nc kp rg ((yi j1 (shootS kp rg cp pl me nc n) (pw, sh, ha, su)).1) nk j1 (by omega) (by omega)) kw_1_213 kw_1_210 kw_1_212 kw_s4 kw_1_4 n_X0_target ⟨⟨nb rfl, nb rfl⟩, ⟨nb rfl, nb rfl⟩, nb rfl⟩ [0, 1, 2, 3, 5, 6, 7, 8] [4, 9, 10, 11, 12] [5, 6, 7, 8, 0, 9, 10, 11, 12, 1, 2, 3, 4] 0 [(k4, aI d 6 ((yi j1 (shootS kp rg cp pl me nc n) (pw, sh, ha, su)).2.1)), (a0, .inr (3, [.ref a1, .ref a2, .ref a3, .ref a4, .ref a5, .ref a6, .ref a7, .int (nI n)])), (a1, aI d 10 pl), (a3, aZ d 10 me), (a6, aI d 10 ((yi j1 (shootS kp rg cp pl me nc n) (pw, sh, ha, su)).2.2.2))] [(k0, .inr (0, [.ref k1, .ref k2, .ref k3, .ref k4, .int (nI nk)])), (k1, aI d 6 kp), (k2, aI d 6 rg), (k3, aI d 6 ((yi j1 (shootS kp rg cp pl me nc n) (pw, sh, ha, su)).1)), (k4, aI d 6 ((yi j1 (shootS kp rg cp pl me nc n) (pw, sh, ha, su)).2.1)), (e0, .inr (1, [.ref e1, .ref e2, .ref e3, .ref e4, .int (nI nc)])), (e1, aI d 20 cp), (e3, aI d 20 ((yi j1 (shootS kp rg cp pl me nc n) (pw, sh, ha, su)).2.2.1)), (e4, aZ d 20 (gnF cp)), (a0, .inr (3, [.ref a1, .ref a2, .ref a3, .ref a4, .ref a5, .ref a6, .ref a7, .int (nI n)])), (a1, aI d 10 pl), (a3, aZ d 10 me), (a6, aI d 10 ((yi j1 (shootS kp rg cp pl me nc n) (pw, sh, ha, su)).2.2.2))] rfl rfl ⟨rfl, by decide, rfl, by decide, by decide⟩ ⟨rfl, by decide⟩ rfl dX0_shoot_13 ?_
      refine y_istore (pc := 16) hC dX0_shoot_16 [(4, .int (targF kp rg ((yi j1 (shootS kp rg cp pl me nc n) (pw, sh, ha, su)).1) cp ((yi j1 (shootS kp rg cp pl me nc n) (pw, sh, ha, su)).2.2.1) nc j1)), (3, .int (nI j1)), (0, .ref k0), (1, .ref e0), (2, .ref a0)] rfl (by decide) ?_
      refine y_iload (pc := 18) hC 0 dX0_shoot_18 rfl ?_
      refine y_if_lt (pc := 20) hC dX0_shoot_20 71 (by decide) (fun c_2 => ?_) (fun c_2 => ?_)
      · refine y_iinc (pc := 71) hC 1 dX0_shoot_71 (nI (j1 + 1)) [(3, .int (nI (j1 + 1))), (4, .int (targF kp rg ((yi j1 (shootS kp rg cp pl me nc n) (pw, sh, ha, su)).1) cp ((yi j1 (shootS kp rg cp pl me nc n) (pw, sh, ha, su)).2.2.1) nc j1)), (0, .ref k0), (1, .ref e0), (2, .ref a0)] rfl (nI_inc _) rfl (by decide) ?_
        refine y_goto (pc := 74) hC dX0_shoot_74 2 (by decide) ?_
        refine y_lv [(3, .int (nI (j1 + 1))), (0, .ref k0), (1, .ref e0), (2, .ref a0)] [0, 2, 3, 4] rfl ?_
        refine y_ws [(k0, .inr (0, [.ref k1, .ref k2, .ref k3, .ref k4, .int (nI nk)])), (k1, aI d 6 kp), (k2, aI d 6 rg), (k3, aI d 6 ((yi (j1 + 1) (shootS kp rg cp pl me nc n) (pw, sh, ha, su)).1)), (k4, aI d 6 ((yi (j1 + 1) (shootS kp rg cp pl me nc n) (pw, sh, ha, su)).2.1)), (e0, .inr (1, [.ref e1, .ref e2, .ref e3, .ref e4, .int (nI nc)])), (e1, aI d 20 cp), (e3, aI d 20 ((yi (j1 + 1) (shootS kp rg cp pl me nc n) (pw, sh, ha, su)).2.2.1)), (e4, aZ d 20 (gnF cp)), (a0, .inr (3, [.ref a1, .ref a2, .ref a3, .ref a4, .ref a5, .ref a6, .ref a7, .int (nI n)])), (a1, aI d 10 pl), (a3, aZ d 10 me), (a6, aI d 10 ((yi (j1 + 1) (shootS kp rg cp pl me nc n) (pw, sh, ha, su)).2.2.2))] (by simp only [yi, shootS, shotF, c_2, ↓reduceIte, cond_true, cond_false]) ?_
        exact ihj1 (j1 + 1) (by omega)
      · obtain ⟨t9, ht9, et9⟩ := targ_ix c_2
        have et8 : (nI t9).toNatClampNeg = t9 := nI_clamp (by omega)
        have et7 : ¬ nI t9 < 0 := et9 ▸ c_2
        rw [et9]
        refine y_aload_n (pc := 23) hC 2 dX0_shoot_23 rfl ?_
        refine y_get (pc := 24) hC 0 2 dX0_shoot_24 rfl rfl inX0 (by decide) kw_1_74 rfl rfl ?_
        refine y_iload_n (pc := 27) hC 1 dX0_shoot_27 rfl ?_
        refine y_dup2 (pc := 28) hC dX0_shoot_28 rfl rfl ?_
        refine y_iald (pc := 29) hC 3 (j := j1) dX0_shoot_29 (((yi j1 (shootS kp rg cp pl me nc n) (pw, sh, ha, su)).1) j1) rfl (by omega) rfl rfl ?_
        refine y_iconst (pc := 30) hC dX0_shoot_30 1 (by decide) ?_
        refine y_isub (pc := 31) hC dX0_shoot_31 ((((yi j1 (shootS kp rg cp pl me nc n) (pw, sh, ha, su)).1) j1) - 1) rfl ?_
        refine y_iast (pc := 32) hC 3 (j := j1) dX0_shoot_32 (upd ((yi j1 (shootS kp rg cp pl me nc n) (pw, sh, ha, su)).1) j1 ((((yi j1 (shootS kp rg cp pl me nc n) (pw, sh, ha, su)).1) j1) - 1)) [(k0, .inr (0, [.ref k1, .ref k2, .ref k3, .ref k4, .int (nI nk)])), (k1, aI d 6 kp), (k2, aI d 6 rg), (k3, aI d 6 (upd ((yi j1 (shootS kp rg cp pl me nc n) (pw, sh, ha, su)).1) j1 ((((yi j1 (shootS kp rg cp pl me nc n) (pw, sh, ha, su)).1) j1) - 1))), (k4, aI d 6 ((yi j1 (shootS kp rg cp pl me nc n) (pw, sh, ha, su)).2.1)), (e0, .inr (1, [.ref e1, .ref e2, .ref e3, .ref e4, .int (nI nc)])), (e1, aI d 20 cp), (e3, aI d 20 ((yi j1 (shootS kp rg cp pl me nc n) (pw, sh, ha, su)).2.2.1)), (e4, aZ d 20 (gnF cp)), (a0, .inr (3, [.ref a1, .ref a2, .ref a3, .ref a4, .ref a5, .ref a6, .ref a7, .int (nI n)])), (a1, aI d 10 pl), (a3, aZ d 10 me), (a6, aI d 10 ((yi j1 (shootS kp rg cp pl me nc n) (pw, sh, ha, su)).2.2.2))] rfl (by omega) rfl rfl rfl ?_
        refine y_aload_n (pc := 33) hC 2 dX0_shoot_33 rfl ?_
        refine y_get (pc := 34) hC 0 3 dX0_shoot_34 rfl rfl inX0 (by decide) kw_1_75 rfl rfl ?_
        refine y_iload_n (pc := 37) hC 1 dX0_shoot_37 rfl ?_
        refine y_dup2 (pc := 38) hC dX0_shoot_38 rfl rfl ?_
        refine y_iald (pc := 39) hC 4 (j := j1) dX0_shoot_39 (((yi j1 (shootS kp rg cp pl me nc n) (pw, sh, ha, su)).2.1) j1) rfl (by omega) rfl rfl ?_
        refine y_iconst (pc := 40) hC dX0_shoot_40 1 (by decide) ?_
        refine y_iadd (pc := 41) hC dX0_shoot_41 ((((yi j1 (shootS kp rg cp pl me nc n) (pw, sh, ha, su)).2.1) j1) + 1) rfl ?_
        refine y_iast (pc := 42) hC 4 (j := j1) dX0_shoot_42 (upd ((yi j1 (shootS kp rg cp pl me nc n) (pw, sh, ha, su)).2.1) j1 ((((yi j1 (shootS kp rg cp pl me nc n) (pw, sh, ha, su)).2.1) j1) + 1)) [(k0, .inr (0, [.ref k1, .ref k2, .ref k3, .ref k4, .int (nI nk)])), (k1, aI d 6 kp), (k2, aI d 6 rg), (k3, aI d 6 (upd ((yi j1 (shootS kp rg cp pl me nc n) (pw, sh, ha, su)).1) j1 ((((yi j1 (shootS kp rg cp pl me nc n) (pw, sh, ha, su)).1) j1) - 1))), (k4, aI d 6 (upd ((yi j1 (shootS kp rg cp pl me nc n) (pw, sh, ha, su)).2.1) j1 ((((yi j1 (shootS kp rg cp pl me nc n) (pw, sh, ha, su)).2.1) j1) + 1))), (e0, .inr (1, [.ref e1, .ref e2, .ref e3, .ref e4, .int (nI nc)])), (e1, aI d 20 cp), (e3, aI d 20 ((yi j1 (shootS kp rg cp pl me nc n) (pw, sh, ha, su)).2.2.1)), (e4, aZ d 20 (gnF cp)), (a0, .inr (3, [.ref a1, .ref a2, .ref a3, .ref a4, .ref a5, .ref a6, .ref a7, .int (nI n)])), (a1, aI d 10 pl), (a3, aZ d 10 me), (a6, aI d 10 ((yi j1 (shootS kp rg cp pl me nc n) (pw, sh, ha, su)).2.2.2))] rfl (by omega) rfl rfl rfl ?_
        refine y_aload_n (pc := 43) hC 3 dX0_shoot_43 rfl ?_
        refine y_iload (pc := 44) hC 0 dX0_shoot_44 rfl ?_
        refine y_aload_n (pc := 46) hC 2 dX0_shoot_46 rfl ?_
        refine y_get (pc := 47) hC 0 0 dX0_shoot_47 rfl rfl inX0 (by decide) kw_1_71 rfl rfl ?_
        refine y_iload_n (pc := 50) hC 1 dX0_shoot_50 rfl ?_
        refine y_iald (pc := 51) hC 1 (j := j1) dX0_shoot_51 (kp j1) rfl (by omega) rfl rfl ?_
        refine y_aload_n (pc := 52) hC 2 dX0_shoot_52 rfl ?_
        refine y_get (pc := 53) hC 0 1 dX0_shoot_53 rfl rfl inX0 (by decide) kw_1_73 rfl rfl ?_
        refine y_iload_n (pc := 56) hC 1 dX0_shoot_56 rfl ?_
        refine y_iald (pc := 57) hC 2 (j := j1) dX0_shoot_57 (rg j1) rfl (by omega) rfl rfl ?_
        refine y_cV (pc := 58) (As := [.int (nI t9), .int (kp j1), .int (rg j1)]) (st := []) hC (c_X1_takeShot (gL G) d e0 e1 e2 e3 e4 cp ((yi j1 (shootS kp rg cp pl me nc n) (pw, sh, ha, su)).2.2.1) nc t9 (kp j1) (rg j1) (by omega) (by omega)) kw_2_221 kw_2_218 kw_2_219 kw_2_220 kw_1_5 n_X1_takeShot ⟨⟨nb rfl, nb rfl⟩, ⟨nb rfl, nb rfl⟩, nb rfl⟩ [5, 6, 7] [0, 1, 2, 3, 4, 8, 9, 10, 11, 12] [0, 1, 2, 3, 4, 10, 11, 12, 5, 6, 7, 8, 9] 0 [(k0, .inr (0, [.ref k1, .ref k2, .ref k3, .ref k4, .int (nI nk)])), (k1, aI d 6 kp), (k2, aI d 6 rg), (k3, aI d 6 (upd ((yi j1 (shootS kp rg cp pl me nc n) (pw, sh, ha, su)).1) j1 ((((yi j1 (shootS kp rg cp pl me nc n) (pw, sh, ha, su)).1) j1) - 1))), (k4, aI d 6 (upd ((yi j1 (shootS kp rg cp pl me nc n) (pw, sh, ha, su)).2.1) j1 ((((yi j1 (shootS kp rg cp pl me nc n) (pw, sh, ha, su)).2.1) j1) + 1))), (e4, aZ d 20 (gnF cp)), (a0, .inr (3, [.ref a1, .ref a2, .ref a3, .ref a4, .ref a5, .ref a6, .ref a7, .int (nI n)])), (a1, aI d 10 pl), (a3, aZ d 10 me), (a6, aI d 10 ((yi j1 (shootS kp rg cp pl me nc n) (pw, sh, ha, su)).2.2.2))] (fun _ => [(k0, .inr (0, [.ref k1, .ref k2, .ref k3, .ref k4, .int (nI nk)])), (k1, aI d 6 kp), (k2, aI d 6 rg), (k3, aI d 6 (upd ((yi j1 (shootS kp rg cp pl me nc n) (pw, sh, ha, su)).1) j1 ((((yi j1 (shootS kp rg cp pl me nc n) (pw, sh, ha, su)).1) j1) - 1))), (k4, aI d 6 (upd ((yi j1 (shootS kp rg cp pl me nc n) (pw, sh, ha, su)).2.1) j1 ((((yi j1 (shootS kp rg cp pl me nc n) (pw, sh, ha, su)).2.1) j1) + 1))), (e0, .inr (1, [.ref e1, .ref e2, .ref e3, .ref e4, .int (nI nc)])), (e1, aI d 20 cp), (e3, aI d 20 (shotF cp (kp j1) (rg j1) t9 ((yi j1 (shootS kp rg cp pl me nc n) (pw, sh, ha, su)).2.2.1))), (e4, aZ d 20 (gnF cp)), (a0, .inr (3, [.ref a1, .ref a2, .ref a3, .ref a4, .ref a5, .ref a6, .ref a7, .int (nI n)])), (a1, aI d 10 pl), (a3, aZ d 10 me), (a6, aI d 10 ((yi j1 (shootS kp rg cp pl me nc n) (pw, sh, ha, su)).2.2.2))]) rfl rfl ⟨rfl, by decide, rfl, by decide, by decide⟩ (fun _ => ⟨rfl, by decide⟩) rfl dX0_shoot_58 ?_
        intro _ _
        refine y_aload_n (pc := 61) hC 4 dX0_shoot_61 rfl ?_
        refine y_aload_n (pc := 62) hC 2 dX0_shoot_62 rfl ?_
        refine y_get (pc := 63) hC 0 0 dX0_shoot_63 rfl rfl inX0 (by decide) kw_1_71 rfl rfl ?_
        refine y_iload_n (pc := 66) hC 1 dX0_shoot_66 rfl ?_
        refine y_iald (pc := 67) hC 1 (j := j1) dX0_shoot_67 (kp j1) rfl (by omega) rfl rfl ?_
        refine y_cV (pc := 68) (As := [.int (kp j1)]) (st := []) hC (c_X3_hearShot (gL G) d a0 a1 a2 a3 a4 a5 a6 a7 pl me ((yi j1 (shootS kp rg cp pl me nc n) (pw, sh, ha, su)).2.2.2) n (kp j1) (by omega)) kw_2_228 kw_2_225 kw_2_226 kw_2_227 kw_1_3 n_X3_hearShot ⟨⟨nb rfl, nb rfl⟩, ⟨nb rfl, nb rfl⟩, nb rfl⟩ [9, 10, 11, 12] [0, 1, 2, 3, 4, 5, 6, 7, 8] [0, 1, 2, 3, 4, 5, 6, 7, 8, 9, 10, 11, 12] 0 [(k0, .inr (0, [.ref k1, .ref k2, .ref k3, .ref k4, .int (nI nk)])), (k1, aI d 6 kp), (k2, aI d 6 rg), (k3, aI d 6 (upd ((yi j1 (shootS kp rg cp pl me nc n) (pw, sh, ha, su)).1) j1 ((((yi j1 (shootS kp rg cp pl me nc n) (pw, sh, ha, su)).1) j1) - 1))), (k4, aI d 6 (upd ((yi j1 (shootS kp rg cp pl me nc n) (pw, sh, ha, su)).2.1) j1 ((((yi j1 (shootS kp rg cp pl me nc n) (pw, sh, ha, su)).2.1) j1) + 1))), (e0, .inr (1, [.ref e1, .ref e2, .ref e3, .ref e4, .int (nI nc)])), (e1, aI d 20 cp), (e3, aI d 20 (shotF cp (kp j1) (rg j1) t9 ((yi j1 (shootS kp rg cp pl me nc n) (pw, sh, ha, su)).2.2.1))), (e4, aZ d 20 (gnF cp))] (fun _ => [(k0, .inr (0, [.ref k1, .ref k2, .ref k3, .ref k4, .int (nI nk)])), (k1, aI d 6 kp), (k2, aI d 6 rg), (k3, aI d 6 (upd ((yi j1 (shootS kp rg cp pl me nc n) (pw, sh, ha, su)).1) j1 ((((yi j1 (shootS kp rg cp pl me nc n) (pw, sh, ha, su)).1) j1) - 1))), (k4, aI d 6 (upd ((yi j1 (shootS kp rg cp pl me nc n) (pw, sh, ha, su)).2.1) j1 ((((yi j1 (shootS kp rg cp pl me nc n) (pw, sh, ha, su)).2.1) j1) + 1))), (e0, .inr (1, [.ref e1, .ref e2, .ref e3, .ref e4, .int (nI nc)])), (e1, aI d 20 cp), (e3, aI d 20 (shotF cp (kp j1) (rg j1) t9 ((yi j1 (shootS kp rg cp pl me nc n) (pw, sh, ha, su)).2.2.1))), (e4, aZ d 20 (gnF cp)), (a0, .inr (3, [.ref a1, .ref a2, .ref a3, .ref a4, .ref a5, .ref a6, .ref a7, .int (nI n)])), (a1, aI d 10 pl), (a3, aZ d 10 me), (a6, aI d 10 (hearF pl me (kp j1) n ((yi j1 (shootS kp rg cp pl me nc n) (pw, sh, ha, su)).2.2.2)))]) rfl rfl ⟨rfl, by decide, rfl, by decide, by decide⟩ (fun _ => ⟨rfl, by decide⟩) rfl dX0_shoot_68 ?_
        intro _ _
        refine y_iinc (pc := 71) hC 1 dX0_shoot_71 (nI (j1 + 1)) [(3, .int (nI (j1 + 1))), (4, .int (nI t9)), (0, .ref k0), (1, .ref e0), (2, .ref a0)] rfl (nI_inc _) rfl (by decide) ?_
        refine y_goto (pc := 74) hC dX0_shoot_74 2 (by decide) ?_
        refine y_lv [(3, .int (nI (j1 + 1))), (0, .ref k0), (1, .ref e0), (2, .ref a0)] [0, 2, 3, 4] rfl ?_
        refine y_ws [(k0, .inr (0, [.ref k1, .ref k2, .ref k3, .ref k4, .int (nI nk)])), (k1, aI d 6 kp), (k2, aI d 6 rg), (k3, aI d 6 ((yi (j1 + 1) (shootS kp rg cp pl me nc n) (pw, sh, ha, su)).1)), (k4, aI d 6 ((yi (j1 + 1) (shootS kp rg cp pl me nc n) (pw, sh, ha, su)).2.1)), (e0, .inr (1, [.ref e1, .ref e2, .ref e3, .ref e4, .int (nI nc)])), (e1, aI d 20 cp), (e3, aI d 20 ((yi (j1 + 1) (shootS kp rg cp pl me nc n) (pw, sh, ha, su)).2.2.1)), (e4, aZ d 20 (gnF cp)), (a0, .inr (3, [.ref a1, .ref a2, .ref a3, .ref a4, .ref a5, .ref a6, .ref a7, .int (nI n)])), (a1, aI d 10 pl), (a3, aZ d 10 me), (a6, aI d 10 ((yi (j1 + 1) (shootS kp rg cp pl me nc n) (pw, sh, ha, su)).2.2.2))] (by simp only [yi, shootS, shotF, et9, et8, et7, ↓reduceIte, cond_true, cond_false]) ?_
        exact ihj1 (j1 + 1) (by omega)
  refine y_lv [(3, .int 0), (0, .ref k0), (1, .ref e0), (2, .ref a0)] [0, 1, 2, 3] rfl ?_
  exact lpj1 nk 0 (by omega)
theorem n_X0_shoot : yyN yX0_shoot RX0 2 := by refine ⟨rfl, ?_, ?_, ?_⟩ <;> decide +kernel
set_option maxHeartbeats 4000000 in
set_option maxRecDepth 100000 in
theorem c_X0_copyFrom (l : Launch) (d : yyD) (k0 : Nat) (k1 : Nat) (k2 : Nat) (k3 : Nat) (k4 : Nat) (g0 : Nat) (g1 : Nat) (g2 : Nat) (g3 : Nat) (g4 : Nat) (kp : fI) (rg : fI) (pw : fI) (sh : fI) (kp2 : fI) (rg2 : fI) (pw2 : fI) (sh2 : fI) (n : Nat) (n2 : Nat)  : yyV (S := Unit) l yX0_copyFrom cX0_copyFrom 2 { frames := 1, cells := 0, slots := 0, locals := 18 } d [.ref k0, .ref g0] [(k0, .inr (0, [.ref k1, .ref k2, .ref k3, .ref k4, .int (nI n)])), (k1, aI d 6 kp), (k2, aI d 6 rg), (k3, aI d 6 pw), (k4, aI d 6 sh), (g0, .inr (0, [.ref g1, .ref g2, .ref g3, .ref g4, .int (nI n2)])), (g1, aI d 6 kp2), (g2, aI d 6 rg2), (g3, aI d 6 pw2), (g4, aI d 6 sh2)] (fun _ => True) (fun _ => [(k0, .inr (0, [.ref k1, .ref k2, .ref k3, .ref k4, .int (nI n2)])), (k1, aI d 6 kp2), (k2, aI d 6 rg2), (k3, aI d 6 pw2), (k4, aI d 6 sh2), (g0, .inr (0, [.ref g1, .ref g2, .ref g3, .ref g4, .int (nI n2)])), (g1, aI d 6 kp2), (g2, aI d 6 rg2), (g3, aI d 6 pw2), (g4, aI d 6 sh2)]) := by
  refine yyV_of (own := RX0) [(0, .ref k0), (1, .ref g0)] (by decide +kernel) rfl (Nat.le_of_ble_eq_true rfl) rfl ?_
  intro G Q hQ hGL hC hGA hin
  refine y_aload_n (pc := 0) hC 1 dX0_copyFrom_0 rfl ?_
  refine y_get (pc := 1) hC 5 0 dX0_copyFrom_1 rfl rfl inX0 (by decide) kw_1_71 rfl rfl ?_
  refine y_iconst (pc := 4) hC dX0_copyFrom_4 0 (by decide) ?_
  refine y_aload_n (pc := 5) hC 0 dX0_copyFrom_5 rfl ?_
  refine y_get (pc := 6) hC 0 0 dX0_copyFrom_6 rfl rfl inX0 (by decide) kw_1_71 rfl rfl ?_
  refine y_iconst (pc := 9) hC dX0_copyFrom_9 0 (by decide) ?_
  refine y_bipush (pc := 10) hC dX0_copyFrom_10 6 (by decide) ?_
  refine y_copyI (pc := 12) hC dX0_copyFrom_12 6 1 [(k0, .inr (0, [.ref k1, .ref k2, .ref k3, .ref k4, .int (nI n)])), (k1, aI d 6 kp2), (k2, aI d 6 rg), (k3, aI d 6 pw), (k4, aI d 6 sh), (g0, .inr (0, [.ref g1, .ref g2, .ref g3, .ref g4, .int (nI n2)])), (g1, aI d 6 kp2), (g2, aI d 6 rg2), (g3, aI d 6 pw2), (g4, aI d 6 sh2)] rfl rfl rfl rfl rfl rfl rfl kw_3_26 kw_3_21 kw_3_20 kw_1_15 ⟨nb rfl, nb rfl⟩ ?_
  refine y_aload_n (pc := 15) hC 1 dX0_copyFrom_15 rfl ?_
  refine y_get (pc := 16) hC 5 1 dX0_copyFrom_16 rfl rfl inX0 (by decide) kw_1_73 rfl rfl ?_
  refine y_iconst (pc := 19) hC dX0_copyFrom_19 0 (by decide) ?_
  refine y_aload_n (pc := 20) hC 0 dX0_copyFrom_20 rfl ?_
  refine y_get (pc := 21) hC 0 1 dX0_copyFrom_21 rfl rfl inX0 (by decide) kw_1_73 rfl rfl ?_
  refine y_iconst (pc := 24) hC dX0_copyFrom_24 0 (by decide) ?_
  refine y_bipush (pc := 25) hC dX0_copyFrom_25 6 (by decide) ?_
  refine y_copyI (pc := 27) hC dX0_copyFrom_27 7 2 [(k0, .inr (0, [.ref k1, .ref k2, .ref k3, .ref k4, .int (nI n)])), (k1, aI d 6 kp2), (k2, aI d 6 rg2), (k3, aI d 6 pw), (k4, aI d 6 sh), (g0, .inr (0, [.ref g1, .ref g2, .ref g3, .ref g4, .int (nI n2)])), (g1, aI d 6 kp2), (g2, aI d 6 rg2), (g3, aI d 6 pw2), (g4, aI d 6 sh2)] rfl rfl rfl rfl rfl rfl rfl kw_3_26 kw_3_21 kw_3_20 kw_1_15 ⟨nb rfl, nb rfl⟩ ?_
  refine y_aload_n (pc := 30) hC 1 dX0_copyFrom_30 rfl ?_
  refine y_get (pc := 31) hC 5 2 dX0_copyFrom_31 rfl rfl inX0 (by decide) kw_1_74 rfl rfl ?_
  refine y_iconst (pc := 34) hC dX0_copyFrom_34 0 (by decide) ?_
  refine y_aload_n (pc := 35) hC 0 dX0_copyFrom_35 rfl ?_
  refine y_get (pc := 36) hC 0 2 dX0_copyFrom_36 rfl rfl inX0 (by decide) kw_1_74 rfl rfl ?_
  refine y_iconst (pc := 39) hC dX0_copyFrom_39 0 (by decide) ?_
  refine y_bipush (pc := 40) hC dX0_copyFrom_40 6 (by decide) ?_
  refine y_copyI (pc := 42) hC dX0_copyFrom_42 8 3 [(k0, .inr (0, [.ref k1, .ref k2, .ref k3, .ref k4, .int (nI n)])), (k1, aI d 6 kp2), (k2, aI d 6 rg2), (k3, aI d 6 pw2), (k4, aI d 6 sh), (g0, .inr (0, [.ref g1, .ref g2, .ref g3, .ref g4, .int (nI n2)])), (g1, aI d 6 kp2), (g2, aI d 6 rg2), (g3, aI d 6 pw2), (g4, aI d 6 sh2)] rfl rfl rfl rfl rfl rfl rfl kw_3_26 kw_3_21 kw_3_20 kw_1_15 ⟨nb rfl, nb rfl⟩ ?_
  refine y_aload_n (pc := 45) hC 1 dX0_copyFrom_45 rfl ?_
  refine y_get (pc := 46) hC 5 3 dX0_copyFrom_46 rfl rfl inX0 (by decide) kw_1_75 rfl rfl ?_
  refine y_iconst (pc := 49) hC dX0_copyFrom_49 0 (by decide) ?_
  refine y_aload_n (pc := 50) hC 0 dX0_copyFrom_50 rfl ?_
  refine y_get (pc := 51) hC 0 3 dX0_copyFrom_51 rfl rfl inX0 (by decide) kw_1_75 rfl rfl ?_
  refine y_iconst (pc := 54) hC dX0_copyFrom_54 0 (by decide) ?_
  refine y_bipush (pc := 55) hC dX0_copyFrom_55 6 (by decide) ?_
  refine y_copyI (pc := 57) hC dX0_copyFrom_57 9 4 [(k0, .inr (0, [.ref k1, .ref k2, .ref k3, .ref k4, .int (nI n)])), (k1, aI d 6 kp2), (k2, aI d 6 rg2), (k3, aI d 6 pw2), (k4, aI d 6 sh2), (g0, .inr (0, [.ref g1, .ref g2, .ref g3, .ref g4, .int (nI n2)])), (g1, aI d 6 kp2), (g2, aI d 6 rg2), (g3, aI d 6 pw2), (g4, aI d 6 sh2)] rfl rfl rfl rfl rfl rfl rfl kw_3_26 kw_3_21 kw_3_20 kw_1_15 ⟨nb rfl, nb rfl⟩ ?_
  refine y_aload_n (pc := 60) hC 0 dX0_copyFrom_60 rfl ?_
  refine y_aload_n (pc := 61) hC 1 dX0_copyFrom_61 rfl ?_
  refine y_get (pc := 62) hC 5 4 dX0_copyFrom_62 rfl rfl inX0 (by decide) kw_1_76 rfl rfl ?_
  refine y_put (pc := 65) hC 0 4 .int dX0_copyFrom_65 tyX0 [(k0, .inr (0, [.ref k1, .ref k2, .ref k3, .ref k4, .int (nI n2)])), (k1, aI d 6 kp2), (k2, aI d 6 rg2), (k3, aI d 6 pw2), (k4, aI d 6 sh2), (g0, .inr (0, [.ref g1, .ref g2, .ref g3, .ref g4, .int (nI n2)])), (g1, aI d 6 kp2), (g2, aI d 6 rg2), (g3, aI d 6 pw2), (g4, aI d 6 sh2)] rfl rfl rfl inX0 tyX0_ok nmX0 (by decide) kw_1_76 rfl rfl (by decide +kernel) rfl rfl (Nat.le_of_ble_eq_true rfl) ?_
  exact y_vret (()) hC hQ (trivial) rfl (nb rfl) (nb rfl) dX0_copyFrom_68
theorem n_X0_copyFrom : yyN yX0_copyFrom RX0 1 := by refine ⟨rfl, ?_, ?_, ?_⟩ <;> decide +kernel
set_option maxHeartbeats 4000000 in
set_option maxRecDepth 100000 in
theorem c_X0_init (l : Launch) (d : yyD) (a0 : Nat)  : yyV (S := Nat → Nat) l yX0_init cX0_init 1 { frames := 1, cells := 4, slots := 24, locals := 12 } d [.ref a0] [(a0, .inr (0, [.null, .null, .null, .null, .int 0]))] (fun _ => True) (fun u => [(a0, .inr (0, [.ref (u 1), .ref (u 2), .ref (u 3), .ref (u 4), .int (nI 0)])), (u 1, aI d 6 (fun _ => 0)), (u 2, aI d 6 (fun _ => 0)), (u 3, aI d 6 (fun _ => 0)), (u 4, aI d 6 (fun _ => 0))]) := by
  refine yyV_of (own := RX0) [(0, .ref a0)] (by decide +kernel) rfl (Nat.le_of_ble_eq_true rfl) rfl ?_
  intro G Q hQ hGL hC hGA hin
  refine y_aload_n (pc := 0) hC 0 dX0_init_0 rfl ?_
  refine y_obj (pc := 1) hC kw_1_70 kw_1_22 kw_1_23 ⟨nb rfl, nb rfl⟩ dX0_init_1 ?_
  refine y_aload_n (pc := 4) hC 0 dX0_init_4 rfl ?_
  refine y_bipush (pc := 5) hC dX0_init_5 6 (by decide) ?_
  refine y_newaI (pc := 7) hC dX0_init_7 6 (fun q1 => [(a0, .inr (0, [.null, .null, .null, .null, .int 0])), (q1, aI d 6 (fun _ => 0))]) rfl rfl kw_1_63 ⟨nb rfl, nb rfl⟩ (fun _ => rfl) (fun q1 => ?_)
  refine y_putF (pc := 9) hC hin 0 0 (.array .int) dX0_init_9 tyX0 [(a0, .inr (0, [.ref q1, .null, .null, .null, .int 0])), (q1, aI d 6 (fun _ => 0))] rfl rfl rfl inX0 tyX0_ok nmX0 (by decide) kw_1_71 rfl rfl rfl (by decide +kernel) rfl rfl (Nat.le_of_ble_eq_true rfl) ?_
  refine y_aload_n (pc := 12) hC 0 dX0_init_12 rfl ?_
  refine y_bipush (pc := 13) hC dX0_init_13 6 (by decide) ?_
  refine y_newaI (pc := 15) hC dX0_init_15 6 (fun q2 => [(a0, .inr (0, [.ref q1, .null, .null, .null, .int 0])), (q1, aI d 6 (fun _ => 0)), (q2, aI d 6 (fun _ => 0))]) rfl rfl kw_1_63 ⟨nb rfl, nb rfl⟩ (fun _ => rfl) (fun q2 => ?_)
  refine y_putF (pc := 17) hC hin 0 1 (.array .int) dX0_init_17 tyX0 [(a0, .inr (0, [.ref q1, .ref q2, .null, .null, .int 0])), (q1, aI d 6 (fun _ => 0)), (q2, aI d 6 (fun _ => 0))] rfl rfl rfl inX0 tyX0_ok nmX0 (by decide) kw_1_73 rfl rfl rfl (by decide +kernel) rfl rfl (Nat.le_of_ble_eq_true rfl) ?_
  refine y_aload_n (pc := 20) hC 0 dX0_init_20 rfl ?_
  refine y_bipush (pc := 21) hC dX0_init_21 6 (by decide) ?_
  refine y_newaI (pc := 23) hC dX0_init_23 6 (fun q3 => [(a0, .inr (0, [.ref q1, .ref q2, .null, .null, .int 0])), (q1, aI d 6 (fun _ => 0)), (q2, aI d 6 (fun _ => 0)), (q3, aI d 6 (fun _ => 0))]) rfl rfl kw_1_63 ⟨nb rfl, nb rfl⟩ (fun _ => rfl) (fun q3 => ?_)
  refine y_putF (pc := 25) hC hin 0 2 (.array .int) dX0_init_25 tyX0 [(a0, .inr (0, [.ref q1, .ref q2, .ref q3, .null, .int 0])), (q1, aI d 6 (fun _ => 0)), (q2, aI d 6 (fun _ => 0)), (q3, aI d 6 (fun _ => 0))] rfl rfl rfl inX0 tyX0_ok nmX0 (by decide) kw_1_74 rfl rfl rfl (by decide +kernel) rfl rfl (Nat.le_of_ble_eq_true rfl) ?_
  refine y_aload_n (pc := 28) hC 0 dX0_init_28 rfl ?_
  refine y_bipush (pc := 29) hC dX0_init_29 6 (by decide) ?_
  refine y_newaI (pc := 31) hC dX0_init_31 6 (fun q4 => [(a0, .inr (0, [.ref q1, .ref q2, .ref q3, .null, .int 0])), (q1, aI d 6 (fun _ => 0)), (q2, aI d 6 (fun _ => 0)), (q3, aI d 6 (fun _ => 0)), (q4, aI d 6 (fun _ => 0))]) rfl rfl kw_1_63 ⟨nb rfl, nb rfl⟩ (fun _ => rfl) (fun q4 => ?_)
  refine y_putF (pc := 33) hC hin 0 3 (.array .int) dX0_init_33 tyX0 [(a0, .inr (0, [.ref q1, .ref q2, .ref q3, .ref q4, .int 0])), (q1, aI d 6 (fun _ => 0)), (q2, aI d 6 (fun _ => 0)), (q3, aI d 6 (fun _ => 0)), (q4, aI d 6 (fun _ => 0))] rfl rfl rfl inX0 tyX0_ok nmX0 (by decide) kw_1_75 rfl rfl rfl (by decide +kernel) rfl rfl (Nat.le_of_ble_eq_true rfl) ?_
  refine y_aload_n (pc := 36) hC 0 dX0_init_36 rfl ?_
  refine y_iconst (pc := 37) hC dX0_init_37 0 (by decide) ?_
  refine y_put (pc := 38) hC 0 4 .int dX0_init_38 tyX0 [(a0, .inr (0, [.ref q1, .ref q2, .ref q3, .ref q4, .int 0])), (q1, aI d 6 (fun _ => 0)), (q2, aI d 6 (fun _ => 0)), (q3, aI d 6 (fun _ => 0)), (q4, aI d 6 (fun _ => 0))] rfl rfl rfl inX0 tyX0_ok nmX0 (by decide) kw_1_76 rfl rfl (by decide +kernel) rfl rfl (Nat.le_of_ble_eq_true rfl) ?_
  exact y_vret (fun i => match i with | 1 => q1 | 2 => q2 | 3 => q3 | 4 => q4 | _ => a0) hC hQ (trivial) rfl (nb rfl) (nb rfl) dX0_init_41
theorem n_X0_init : yyN yX0_init RX0 0 := by refine ⟨rfl, ?_, ?_, ?_⟩ <;> decide +kernel
end
section
-- League
theorem nx_xor2 (a b : Nat) : nI a ^^^ nI b = nI (a ^^^ b) := by
  apply Int32.toBitVec_inj.1
  show BitVec.ofNat 32 a ^^^ BitVec.ofNat 32 b = BitVec.ofNat 32 (a ^^^ b)
  apply BitVec.eq_of_getLsbD_eq
  intro i hi
  simp [hi]
theorem fm_ge {h : Nat} (hh : h < 2147483648) : 0 ≤ nI h ^^^ 6 := by
  rw [show (6 : Int32) = nI 6 from rfl, nx_xor2]
  exact nI_pos' (Nat.xor_lt_two_pow hh (by decide))
theorem gnF_0 : gnF (fun _ => 0) = fun _ => false := by
  funext k
  show gn 0 = false
  decide +kernel
abbrev ES : Type := fI × fB × fB × Nat × fI × fI × Nat × fI × Nat × fI
abbrev DS : Type := fI × fI × fI × fI × fI × fI × fI × fI × Int32
/-- an hour: e = (pl, me, ins, n, kp, rg, nk, dr, nc, wd), s = (vi, lt, su, la, pw, sh, cp, ha, co) -/
def hourF (e : ES) (h : Nat) (s : DS) : DS :=
  let cp := driveF e.2.2.2.2.2.2.2.1 (e.2.2.2.2.2.2.2.2.2 (h % 6)) e.2.2.2.2.2.2.2.2.1 s.2.2.2.2.2.2.1
  let w1 := shootF e.2.2.2.2.1 e.2.2.2.2.2.1 cp e.1 e.2.1 e.2.2.2.2.2.2.2.2.1 e.2.2.2.1 e.2.2.2.2.2.2.1 (s.2.2.2.2.1, s.2.2.2.2.2.1, s.2.2.2.2.2.2.2.1, s.2.2.1)
  let w2 := dropF cp e.1 e.2.2.2.1 e.2.2.2.2.2.2.2.2.1 (w1.2.2.1, s.1, s.2.1, s.2.2.2.1)
  let w3 := closeF e.2.2.1 e.2.2.2.1 (0, w2.2.1, w2.2.2.1, w1.2.2.2)
  if nI (h % 24) = 23 then (w3.2.1, w3.2.2.1, w3.2.2.2, w2.2.2.2, w1.1, w1.2.1, cp, w2.1, s.2.2.2.2.2.2.2.2 + w3.1)
  else (w2.2.1, w2.2.2.1, w1.2.2.2, w2.2.2.2, w1.1, w1.2.1, cp, w2.1, s.2.2.2.2.2.2.2.2)
def hoursS (e : ES) (h : Nat) (k : Nat) (s : DS) : DS := hourF e (h + k) (s.1, s.2.1, s.2.2.1, s.2.2.2.1, s.2.2.2.2.1, s.2.2.2.2.2.1, s.2.2.2.2.2.2.1, s.2.2.2.2.2.2.2.1, s.2.2.2.2.2.2.2.2)
def hoursF (e : ES) (h m : Nat) (s : DS) : DS := yi m (hoursS e h) s
def totF (e : ES) (h : Nat) (s : DS) (w : Nat) : Int32 :=
  if w = 0 then nI h else if w = 1 then nI (h % 24) else if w = 2 then s.2.2.2.2.2.2.2.2 else if w = 3 then sumF s.1 e.2.2.2.1 else if w = 4 then sumF s.2.2.2.1 e.2.2.2.1 else if w = 5 then sumF s.2.2.1 e.2.2.2.1
  else if w = 6 then manyF e.2.1 e.2.2.2.1 else if w = 7 then manyF e.2.2.1 e.2.2.2.1 else if w = 8 then thereF s.2.2.2.2.2.2.1 e.2.2.2.2.2.2.2.2.1 else sumF s.2.2.2.2.2.1 e.2.2.2.2.2.2.1
set_option maxHeartbeats 4000000 in
set_option maxRecDepth 100000 in
theorem c_J9_floorMod (l : Launch) (d : yyD) (h : Nat) (hh : h < 1000000) : yyI l yJ9_floorMod_7cf53 cJ9_floorMod_7cf53 3 (some .int) { frames := 0, cells := 0, slots := 0, locals := 0 } d [.int (nI h), .int 6] [] [] (nI (h % 6)) := by
  refine yyI_of (own := RJ9) [(0, .int (nI h)), (1, .int 6)] (by decide +kernel) rfl (Nat.le_of_ble_eq_true rfl) rfl ?_
  intro G Q hQ hGL hC hGA
  refine y_iload_n (pc := 0) hC 0 dJ9_floorMod_7cf53_0 rfl ?_
  refine y_iload_n (pc := 1) hC 1 dJ9_floorMod_7cf53_1 rfl ?_
  refine y_irem (pc := 2) hC dJ9_floorMod_7cf53_2 (nI (h % 6)) (pk_rem (by omega) (by decide) (by decide)) (by decide) ?_
  refine y_istore_n (pc := 3) hC dJ9_floorMod_7cf53_3 [(2, .int (nI (h % 6))), (0, .int (nI h)), (1, .int 6)] rfl (by decide) ?_
  refine y_iload_n (pc := 4) hC 1 dJ9_floorMod_7cf53_4 rfl ?_
  refine y_iload_n (pc := 5) hC 2 dJ9_floorMod_7cf53_5 rfl ?_
  refine y_ixor (pc := 6) hC dJ9_floorMod_7cf53_6 ((nI h) ^^^ 6) rfl ?_
  refine y_if_ge_t (pc := 7) hC dJ9_floorMod_7cf53_7 18 (by decide) (fm_ge (by omega)) ?_
  refine y_iload_n (pc := 18) hC 0 dJ9_floorMod_7cf53_18 rfl ?_
  exact y_iret hC hQ rfl rfl rfl (nb rfl) (nb rfl) dJ9_floorMod_7cf53_19
theorem n_J9_floorMod : yyN yJ9_floorMod_7cf53 RJ9 2 := by refine ⟨rfl, ?_, ?_, ?_⟩ <;> decide +kernel
set_option maxHeartbeats 4000000 in
set_option maxRecDepth 100000 in
/-- an hour goes by -/
theorem c_X2_goByOneHour (l : Launch) (d : yyD) (l0 : Nat) (a0 : Nat) (a1 : Nat) (a2 : Nat) (a3 : Nat) (a4 : Nat) (a5 : Nat) (a6 : Nat) (a7 : Nat) (k0 : Nat) (k1 : Nat) (k2 : Nat) (k3 : Nat) (k4 : Nat) (e0 : Nat) (e1 : Nat) (e2 : Nat) (e3 : Nat) (e4 : Nat) (w0 : Nat) (pl : fI) (vi : fI) (me : fB) (ins : fB) (lt : fI) (su : fI) (la : fI) (kp : fI) (rg : fI) (pw : fI) (sh : fI) (cp : fI) (dr : fI) (ha : fI) (wd : fI) (co : Int32) (h : Nat) (n : Nat) (nk : Nat) (nc : Nat) (hn : n ≤ 10) (hk : nk ≤ 6) (hc : nc ≤ 20) (hh : h < 1000000) : yyV (S := Unit) l yX2_goByOneHour cX2_goByOneHour 1 { frames := 4, cells := 0, slots := 0, locals := 85 } d [.ref l0] [(l0, .inr (2, [.ref a0, .ref k0, .ref e0, .ref w0, .int (nI h), .int co])), (a0, .inr (3, [.ref a1, .ref a2, .ref a3, .ref a4, .ref a5, .ref a6, .ref a7, .int (nI n)])), (a1, aI d 10 pl), (a2, aI d 10 vi), (a3, aZ d 10 me), (a4, aZ d 10 ins), (a5, aI d 10 lt), (a6, aI d 10 su), (a7, aI d 10 la), (k0, .inr (0, [.ref k1, .ref k2, .ref k3, .ref k4, .int (nI nk)])), (k1, aI d 6 kp), (k2, aI d 6 rg), (k3, aI d 6 pw), (k4, aI d 6 sh), (e0, .inr (1, [.ref e1, .ref e2, .ref e3, .ref e4, .int (nI nc)])), (e1, aI d 20 cp), (e2, aI d 20 dr), (e3, aI d 20 ha), (e4, aZ d 20 (gnF cp)), (w0, aI d 6 wd)] (fun _ => True) (fun _ => [(l0, .inr (2, [.ref a0, .ref k0, .ref e0, .ref w0, .int (nI (h + 1)), .int ((hourF (pl, me, ins, n, kp, rg, nk, dr, nc, wd) h (vi, lt, su, la, pw, sh, cp, ha, co)).2.2.2.2.2.2.2.2)])), (a0, .inr (3, [.ref a1, .ref a2, .ref a3, .ref a4, .ref a5, .ref a6, .ref a7, .int (nI n)])), (a1, aI d 10 pl), (a2, aI d 10 ((hourF (pl, me, ins, n, kp, rg, nk, dr, nc, wd) h (vi, lt, su, la, pw, sh, cp, ha, co)).1)), (a3, aZ d 10 me), (a4, aZ d 10 ins), (a5, aI d 10 ((hourF (pl, me, ins, n, kp, rg, nk, dr, nc, wd) h (vi, lt, su, la, pw, sh, cp, ha, co)).2.1)), (a6, aI d 10 ((hourF (pl, me, ins, n, kp, rg, nk, dr, nc, wd) h (vi, lt, su, la, pw, sh, cp, ha, co)).2.2.1)), (a7, aI d 10 ((hourF (pl, me, ins, n, kp, rg, nk, dr, nc, wd) h (vi, lt, su, la, pw, sh, cp, ha, co)).2.2.2.1)), (k0, .inr (0, [.ref k1, .ref k2, .ref k3, .ref k4, .int (nI nk)])), (k1, aI d 6 kp), (k2, aI d 6 rg), (k3, aI d 6 ((hourF (pl, me, ins, n, kp, rg, nk, dr, nc, wd) h (vi, lt, su, la, pw, sh, cp, ha, co)).2.2.2.2.1)), (k4, aI d 6 ((hourF (pl, me, ins, n, kp, rg, nk, dr, nc, wd) h (vi, lt, su, la, pw, sh, cp, ha, co)).2.2.2.2.2.1)), (e0, .inr (1, [.ref e1, .ref e2, .ref e3, .ref e4, .int (nI nc)])), (e1, aI d 20 ((hourF (pl, me, ins, n, kp, rg, nk, dr, nc, wd) h (vi, lt, su, la, pw, sh, cp, ha, co)).2.2.2.2.2.2.1)), (e2, aI d 20 dr), (e3, aI d 20 ((hourF (pl, me, ins, n, kp, rg, nk, dr, nc, wd) h (vi, lt, su, la, pw, sh, cp, ha, co)).2.2.2.2.2.2.2.1)), (e4, aZ d 20 (gnF ((hourF (pl, me, ins, n, kp, rg, nk, dr, nc, wd) h (vi, lt, su, la, pw, sh, cp, ha, co)).2.2.2.2.2.2.1))), (w0, aI d 6 wd)]) := by
  refine yyV_of (own := RX2) [(0, .ref l0)] (by decide +kernel) rfl (Nat.le_of_ble_eq_true rfl) rfl ?_
  intro G Q hQ hGL hC hGA hin
  refine y_aload_n (pc := 0) hC 0 dX2_goByOneHour_0 rfl ?_
  refine y_get (pc := 1) hC 0 2 dX2_goByOneHour_1 rfl rfl inX2 (by decide) kw_1_116 rfl rfl ?_
  refine y_aload_n (pc := 4) hC 0 dX2_goByOneHour_4 rfl ?_
  refine y_get (pc := 5) hC 0 3 dX2_goByOneHour_5 rfl rfl inX2 (by decide) kw_1_118 rfl rfl ?_
  refine y_aload_n (pc := 8) hC 0 dX2_goByOneHour_8 rfl ?_
  refine y_get (pc := 9) hC 0 4 dX2_goByOneHour_9 rfl rfl inX2 (by decide) kw_1_120 rfl rfl ?_
  refine y_bipush (pc := 12) hC dX2_goByOneHour_12 6 (by decide) ?_
  refine y_sI (pc := 14) (As := [.int (nI h), .int 6]) (st := [.ref w0, .ref e0]) hC (c_J9_floorMod (gL G) d h (by omega)) kw_2_208 kw_2_206 kw_2_207 kw_1_14 n_J9_floorMod ⟨⟨nb rfl, nb rfl⟩, ⟨nb rfl, nb rfl⟩, nb rfl⟩ [] [0, 1, 2, 3, 4, 5, 6, 7, 8, 9, 10, 11, 12, 13, 14, 15, 16, 17, 18, 19] [0, 1, 2, 3, 4, 5, 6, 7, 8, 9, 10, 11, 12, 13, 14, 15, 16, 17, 18, 19] [(l0, .inr (2, [.ref a0, .ref k0, .ref e0, .ref w0, .int (nI h), .int co])), (a0, .inr (3, [.ref a1, .ref a2, .ref a3, .ref a4, .ref a5, .ref a6, .ref a7, .int (nI n)])), (a1, aI d 10 pl), (a2, aI d 10 vi), (a3, aZ d 10 me), (a4, aZ d 10 ins), (a5, aI d 10 lt), (a6, aI d 10 su), (a7, aI d 10 la), (k0, .inr (0, [.ref k1, .ref k2, .ref k3, .ref k4, .int (nI nk)])), (k1, aI d 6 kp), (k2, aI d 6 rg), (k3, aI d 6 pw), (k4, aI d 6 sh), (e0, .inr (1, [.ref e1, .ref e2, .ref e3, .ref e4, .int (nI nc)])), (e1, aI d 20 cp), (e2, aI d 20 dr), (e3, aI d 20 ha), (e4, aZ d 20 (gnF cp)), (w0, aI d 6 wd)] [(l0, .inr (2, [.ref a0, .ref k0, .ref e0, .ref w0, .int (nI h), .int co])), (a0, .inr (3, [.ref a1, .ref a2, .ref a3, .ref a4, .ref a5, .ref a6, .ref a7, .int (nI n)])), (a1, aI d 10 pl), (a2, aI d 10 vi), (a3, aZ d 10 me), (a4, aZ d 10 ins), (a5, aI d 10 lt), (a6, aI d 10 su), (a7, aI d 10 la), (k0, .inr (0, [.ref k1, .ref k2, .ref k3, .ref k4, .int (nI nk)])), (k1, aI d 6 kp), (k2, aI d 6 rg), (k3, aI d 6 pw), (k4, aI d 6 sh), (e0, .inr (1, [.ref e1, .ref e2, .ref e3, .ref e4, .int (nI nc)])), (e1, aI d 20 cp), (e2, aI d 20 dr), (e3, aI d 20 ha), (e4, aZ d 20 (gnF cp)), (w0, aI d 6 wd)] ⟨rfl, by decide, rfl, by decide, by decide⟩ ⟨rfl, by decide⟩ rfl dX2_goByOneHour_14 ?_
  refine y_iald (pc := 17) hC 19 (j := (h % 6)) dX2_goByOneHour_17 (wd (h % 6)) rfl (by omega) rfl rfl ?_
  refine y_cV (pc := 18) (As := [.int (wd (h % 6))]) (st := []) hC (c_X1_drive (gL G) d e0 e1 e2 e3 e4 cp dr nc (wd (h % 6)) (by omega)) kw_2_212 kw_2_209 kw_2_210 kw_2_211 kw_1_5 n_X1_drive ⟨⟨nb rfl, nb rfl⟩, ⟨nb rfl, nb rfl⟩, nb rfl⟩ [14, 15, 16, 18] [0, 1, 2, 3, 4, 5, 6, 7, 8, 9, 10, 11, 12, 13, 17, 19] [0, 1, 2, 3, 4, 5, 6, 7, 8, 9, 10, 11, 12, 13, 16, 17, 18, 14, 19, 15] 0 [(l0, .inr (2, [.ref a0, .ref k0, .ref e0, .ref w0, .int (nI h), .int co])), (a0, .inr (3, [.ref a1, .ref a2, .ref a3, .ref a4, .ref a5, .ref a6, .ref a7, .int (nI n)])), (a1, aI d 10 pl), (a2, aI d 10 vi), (a3, aZ d 10 me), (a4, aZ d 10 ins), (a5, aI d 10 lt), (a6, aI d 10 su), (a7, aI d 10 la), (k0, .inr (0, [.ref k1, .ref k2, .ref k3, .ref k4, .int (nI nk)])), (k1, aI d 6 kp), (k2, aI d 6 rg), (k3, aI d 6 pw), (k4, aI d 6 sh), (e3, aI d 20 ha), (w0, aI d 6 wd)] (fun _ => [(l0, .inr (2, [.ref a0, .ref k0, .ref e0, .ref w0, .int (nI h), .int co])), (a0, .inr (3, [.ref a1, .ref a2, .ref a3, .ref a4, .ref a5, .ref a6, .ref a7, .int (nI n)])), (a1, aI d 10 pl), (a2, aI d 10 vi), (a3, aZ d 10 me), (a4, aZ d 10 ins), (a5, aI d 10 lt), (a6, aI d 10 su), (a7, aI d 10 la), (k0, .inr (0, [.ref k1, .ref k2, .ref k3, .ref k4, .int (nI nk)])), (k1, aI d 6 kp), (k2, aI d 6 rg), (k3, aI d 6 pw), (k4, aI d 6 sh), (e0, .inr (1, [.ref e1, .ref e2, .ref e3, .ref e4, .int (nI nc)])), (e1, aI d 20 (driveF dr (wd (h % 6)) nc cp)), (e2, aI d 20 dr), (e3, aI d 20 ha), (e4, aZ d 20 (gnF (driveF dr (wd (h % 6)) nc cp))), (w0, aI d 6 wd)]) rfl rfl ⟨rfl, by decide, rfl, by decide, by decide⟩ (fun _ => ⟨rfl, by decide⟩) rfl dX2_goByOneHour_18 ?_
  intro _ _
  refine y_aload_n (pc := 21) hC 0 dX2_goByOneHour_21 rfl ?_
  refine y_get (pc := 22) hC 0 1 dX2_goByOneHour_22 rfl rfl inX2 (by decide) kw_1_114 rfl rfl ?_
  refine y_aload_n (pc := 25) hC 0 dX2_goByOneHour_25 rfl ?_
  refine y_get (pc := 26) hC 0 2 dX2_goByOneHour_26 rfl rfl inX2 (by decide) kw_1_116 rfl rfl ?_
  refine y_aload_n (pc := 29) hC 0 dX2_goByOneHour_29 rfl ?_
  refine y_get (pc := 30) hC 0 0 dX2_goByOneHour_30 rfl rfl inX2 (by decide) kw_1_112 rfl rfl ?_
  refine y_cV (pc := 33) (As := [.ref e0, .ref a0]) (st := []) hC (c_X0_shoot (gL G) d k0 k1 k2 k3 k4 e0 e1 e2 e3 e4 a0 a1 a2 a3 a4 a5 a6 a7 kp rg pw sh nk (driveF dr (wd (h % 6)) nc cp) ha nc pl me su n (by omega) (by omega) (by omega)) kw_2_217 kw_2_214 kw_2_215 kw_2_216 kw_1_4 n_X0_shoot ⟨⟨nb rfl, nb rfl⟩, ⟨nb rfl, nb rfl⟩, nb rfl⟩ [9, 10, 11, 12, 13, 14, 15, 17, 18, 1, 2, 4, 7] [0, 3, 5, 6, 8, 16, 19] [0, 16, 17, 1, 18, 2, 3, 19, 4, 7, 8, 9, 10, 11, 12, 13, 5, 14, 15, 6] 0 [(l0, .inr (2, [.ref a0, .ref k0, .ref e0, .ref w0, .int (nI h), .int co])), (a2, aI d 10 vi), (a4, aZ d 10 ins), (a5, aI d 10 lt), (a7, aI d 10 la), (e2, aI d 20 dr), (w0, aI d 6 wd)] (fun _ => [(l0, .inr (2, [.ref a0, .ref k0, .ref e0, .ref w0, .int (nI h), .int co])), (a0, .inr (3, [.ref a1, .ref a2, .ref a3, .ref a4, .ref a5, .ref a6, .ref a7, .int (nI n)])), (a1, aI d 10 pl), (a2, aI d 10 vi), (a3, aZ d 10 me), (a4, aZ d 10 ins), (a5, aI d 10 lt), (a6, aI d 10 ((shootF kp rg (driveF dr (wd (h % 6)) nc cp) pl me nc n nk (pw, sh, ha, su)).2.2.2)), (a7, aI d 10 la), (k0, .inr (0, [.ref k1, .ref k2, .ref k3, .ref k4, .int (nI nk)])), (k1, aI d 6 kp), (k2, aI d 6 rg), (k3, aI d 6 ((shootF kp rg (driveF dr (wd (h % 6)) nc cp) pl me nc n nk (pw, sh, ha, su)).1)), (k4, aI d 6 ((shootF kp rg (driveF dr (wd (h % 6)) nc cp) pl me nc n nk (pw, sh, ha, su)).2.1)), (e0, .inr (1, [.ref e1, .ref e2, .ref e3, .ref e4, .int (nI nc)])), (e1, aI d 20 (driveF dr (wd (h % 6)) nc cp)), (e2, aI d 20 dr), (e3, aI d 20 ((shootF kp rg (driveF dr (wd (h % 6)) nc cp) pl me nc n nk (pw, sh, ha, su)).2.2.1)), (e4, aZ d 20 (gnF (driveF dr (wd (h % 6)) nc cp))), (w0, aI d 6 wd)]) rfl rfl ⟨rfl, by decide, rfl, by decide, by decide⟩ (fun _ => ⟨rfl, by decide⟩) rfl dX2_goByOneHour_33 ?_
  intro _ _
  refine y_aload_n (pc := 36) hC 0 dX2_goByOneHour_36 rfl ?_
  refine y_get (pc := 37) hC 0 2 dX2_goByOneHour_37 rfl rfl inX2 (by decide) kw_1_116 rfl rfl ?_
  refine y_aload_n (pc := 40) hC 0 dX2_goByOneHour_40 rfl ?_
  refine y_get (pc := 41) hC 0 0 dX2_goByOneHour_41 rfl rfl inX2 (by decide) kw_1_112 rfl rfl ?_
  refine y_cV (pc := 44) (As := [.ref a0]) (st := []) hC (c_X1_dropUpon (gL G) d e0 e1 e2 e3 e4 a0 a1 a2 a3 a4 a5 a6 a7 (driveF dr (wd (h % 6)) nc cp) ((shootF kp rg (driveF dr (wd (h % 6)) nc cp) pl me nc n nk (pw, sh, ha, su)).2.2.1) nc pl vi lt la n (by omega) (by omega)) kw_2_233 kw_2_230 kw_2_231 kw_2_232 kw_1_5 n_X1_dropUpon ⟨⟨nb rfl, nb rfl⟩, ⟨nb rfl, nb rfl⟩, nb rfl⟩ [14, 15, 17, 18, 1, 2, 3, 6, 8] [0, 4, 5, 7, 9, 10, 11, 12, 13, 16, 19] [0, 15, 16, 17, 1, 2, 18, 3, 19, 4, 5, 6, 7, 8, 11, 12, 9, 13, 14, 10] 0 [(l0, .inr (2, [.ref a0, .ref k0, .ref e0, .ref w0, .int (nI h), .int co])), (a3, aZ d 10 me), (a4, aZ d 10 ins), (a6, aI d 10 ((shootF kp rg (driveF dr (wd (h % 6)) nc cp) pl me nc n nk (pw, sh, ha, su)).2.2.2)), (k0, .inr (0, [.ref k1, .ref k2, .ref k3, .ref k4, .int (nI nk)])), (k1, aI d 6 kp), (k2, aI d 6 rg), (k3, aI d 6 ((shootF kp rg (driveF dr (wd (h % 6)) nc cp) pl me nc n nk (pw, sh, ha, su)).1)), (k4, aI d 6 ((shootF kp rg (driveF dr (wd (h % 6)) nc cp) pl me nc n nk (pw, sh, ha, su)).2.1)), (e2, aI d 20 dr), (w0, aI d 6 wd)] (fun _ => [(l0, .inr (2, [.ref a0, .ref k0, .ref e0, .ref w0, .int (nI h), .int co])), (a0, .inr (3, [.ref a1, .ref a2, .ref a3, .ref a4, .ref a5, .ref a6, .ref a7, .int (nI n)])), (a1, aI d 10 pl), (a2, aI d 10 ((dropF (driveF dr (wd (h % 6)) nc cp) pl n nc (((shootF kp rg (driveF dr (wd (h % 6)) nc cp) pl me nc n nk (pw, sh, ha, su)).2.2.1), vi, lt, la)).2.1)), (a3, aZ d 10 me), (a4, aZ d 10 ins), (a5, aI d 10 ((dropF (driveF dr (wd (h % 6)) nc cp) pl n nc (((shootF kp rg (driveF dr (wd (h % 6)) nc cp) pl me nc n nk (pw, sh, ha, su)).2.2.1), vi, lt, la)).2.2.1)), (a6, aI d 10 ((shootF kp rg (driveF dr (wd (h % 6)) nc cp) pl me nc n nk (pw, sh, ha, su)).2.2.2)), (a7, aI d 10 ((dropF (driveF dr (wd (h % 6)) nc cp) pl n nc (((shootF kp rg (driveF dr (wd (h % 6)) nc cp) pl me nc n nk (pw, sh, ha, su)).2.2.1), vi, lt, la)).2.2.2)), (k0, .inr (0, [.ref k1, .ref k2, .ref k3, .ref k4, .int (nI nk)])), (k1, aI d 6 kp), (k2, aI d 6 rg), (k3, aI d 6 ((shootF kp rg (driveF dr (wd (h % 6)) nc cp) pl me nc n nk (pw, sh, ha, su)).1)), (k4, aI d 6 ((shootF kp rg (driveF dr (wd (h % 6)) nc cp) pl me nc n nk (pw, sh, ha, su)).2.1)), (e0, .inr (1, [.ref e1, .ref e2, .ref e3, .ref e4, .int (nI nc)])), (e1, aI d 20 (driveF dr (wd (h % 6)) nc cp)), (e2, aI d 20 dr), (e3, aI d 20 ((dropF (driveF dr (wd (h % 6)) nc cp) pl n nc (((shootF kp rg (driveF dr (wd (h % 6)) nc cp) pl me nc n nk (pw, sh, ha, su)).2.2.1), vi, lt, la)).1)), (e4, aZ d 20 (gnF (driveF dr (wd (h % 6)) nc cp))), (w0, aI d 6 wd)]) rfl rfl ⟨rfl, by decide, rfl, by decide, by decide⟩ (fun _ => ⟨rfl, by decide⟩) rfl dX2_goByOneHour_44 ?_
  intro _ _
  refine y_aload_n (pc := 47) hC 0 dX2_goByOneHour_47 rfl ?_
  refine y_get (pc := 48) hC 0 4 dX2_goByOneHour_48 rfl rfl inX2 (by decide) kw_1_120 rfl rfl ?_
  refine y_bipush (pc := 51) hC dX2_goByOneHour_51 24 (by decide) ?_
  refine y_irem (pc := 53) hC dX2_goByOneHour_53 (nI (h % 24)) (pk_rem (by omega) (by decide) (by decide)) (by decide) ?_
  refine y_bipush (pc := 54) hC dX2_goByOneHour_54 23 (by decide) ?_
  refine y_cmp_ne (pc := 56) hC dX2_goByOneHour_56 75 (by decide) (fun c_1 => ?_) (fun c_1 => ?_)
  · refine y_aload_n (pc := 75) hC 0 dX2_goByOneHour_75 rfl ?_
    refine y_dup (pc := 76) hC dX2_goByOneHour_76 rfl ?_
    refine y_get (pc := 77) hC 0 4 dX2_goByOneHour_77 rfl rfl inX2 (by decide) kw_1_120 rfl rfl ?_
    refine y_iconst (pc := 80) hC dX2_goByOneHour_80 1 (by decide) ?_
    refine y_iadd (pc := 81) hC dX2_goByOneHour_81 (nI (h + 1)) (nI_1 _) ?_
    refine y_put (pc := 82) hC 0 4 .int dX2_goByOneHour_82 tyX2 [(l0, .inr (2, [.ref a0, .ref k0, .ref e0, .ref w0, .int (nI (h + 1)), .int co])), (a0, .inr (3, [.ref a1, .ref a2, .ref a3, .ref a4, .ref a5, .ref a6, .ref a7, .int (nI n)])), (a1, aI d 10 pl), (a2, aI d 10 ((dropF (driveF dr (wd (h % 6)) nc cp) pl n nc (((shootF kp rg (driveF dr (wd (h % 6)) nc cp) pl me nc n nk (pw, sh, ha, su)).2.2.1), vi, lt, la)).2.1)), (a3, aZ d 10 me), (a4, aZ d 10 ins), (a5, aI d 10 ((dropF (driveF dr (wd (h % 6)) nc cp) pl n nc (((shootF kp rg (driveF dr (wd (h % 6)) nc cp) pl me nc n nk (pw, sh, ha, su)).2.2.1), vi, lt, la)).2.2.1)), (a6, aI d 10 ((shootF kp rg (driveF dr (wd (h % 6)) nc cp) pl me nc n nk (pw, sh, ha, su)).2.2.2)), (a7, aI d 10 ((dropF (driveF dr (wd (h % 6)) nc cp) pl n nc (((shootF kp rg (driveF dr (wd (h % 6)) nc cp) pl me nc n nk (pw, sh, ha, su)).2.2.1), vi, lt, la)).2.2.2)), (k0, .inr (0, [.ref k1, .ref k2, .ref k3, .ref k4, .int (nI nk)])), (k1, aI d 6 kp), (k2, aI d 6 rg), (k3, aI d 6 ((shootF kp rg (driveF dr (wd (h % 6)) nc cp) pl me nc n nk (pw, sh, ha, su)).1)), (k4, aI d 6 ((shootF kp rg (driveF dr (wd (h % 6)) nc cp) pl me nc n nk (pw, sh, ha, su)).2.1)), (e0, .inr (1, [.ref e1, .ref e2, .ref e3, .ref e4, .int (nI nc)])), (e1, aI d 20 (driveF dr (wd (h % 6)) nc cp)), (e2, aI d 20 dr), (e3, aI d 20 ((dropF (driveF dr (wd (h % 6)) nc cp) pl n nc (((shootF kp rg (driveF dr (wd (h % 6)) nc cp) pl me nc n nk (pw, sh, ha, su)).2.2.1), vi, lt, la)).1)), (e4, aZ d 20 (gnF (driveF dr (wd (h % 6)) nc cp))), (w0, aI d 6 wd)] rfl rfl rfl inX2 tyX2_ok nmX2 (by decide) kw_1_120 rfl rfl (by decide +kernel) rfl rfl (Nat.le_of_ble_eq_true rfl) ?_
    have e9 : hourF (pl, me, ins, n, kp, rg, nk, dr, nc, wd) h (vi, lt, su, la, pw, sh, cp, ha, co) = _ := if_neg c_1
    exact y_vret (()) hC hQ (trivial) (by rw [e9]) (nb rfl) (nb rfl) dX2_goByOneHour_85
  · refine y_aload_n (pc := 59) hC 0 dX2_goByOneHour_59 rfl ?_
    refine y_dup (pc := 60) hC dX2_goByOneHour_60 rfl ?_
    refine y_get (pc := 61) hC 0 5 dX2_goByOneHour_61 rfl rfl inX2 (by decide) kw_1_121 rfl rfl ?_
    refine y_aload_n (pc := 64) hC 0 dX2_goByOneHour_64 rfl ?_
    refine y_get (pc := 65) hC 0 0 dX2_goByOneHour_65 rfl rfl inX2 (by decide) kw_1_112 rfl rfl ?_
    refine y_cI (pc := 68) (As := []) (st := [.int co, .ref l0]) hC (c_X3_closeDay (gL G) d a0 a1 a2 a3 a4 a5 a6 a7 ((dropF (driveF dr (wd (h % 6)) nc cp) pl n nc (((shootF kp rg (driveF dr (wd (h % 6)) nc cp) pl me nc n nk (pw, sh, ha, su)).2.2.1), vi, lt, la)).2.1) ins ((dropF (driveF dr (wd (h % 6)) nc cp) pl n nc (((shootF kp rg (driveF dr (wd (h % 6)) nc cp) pl me nc n nk (pw, sh, ha, su)).2.2.1), vi, lt, la)).2.2.1) ((shootF kp rg (driveF dr (wd (h % 6)) nc cp) pl me nc n nk (pw, sh, ha, su)).2.2.2) n (by omega)) kw_3_3 kw_3_0 kw_3_1 kw_3_2 kw_1_3 n_X3_closeDay ⟨⟨nb rfl, nb rfl⟩, ⟨nb rfl, nb rfl⟩, nb rfl⟩ [1, 3, 5, 6, 7] [0, 2, 4, 8, 9, 10, 11, 12, 13, 14, 15, 16, 17, 18, 19] [0, 15, 1, 16, 2, 17, 18, 19, 3, 4, 5, 6, 7, 8, 9, 10, 11, 12, 13, 14] 0 [(l0, .inr (2, [.ref a0, .ref k0, .ref e0, .ref w0, .int (nI h), .int co])), (a1, aI d 10 pl), (a3, aZ d 10 me), (a7, aI d 10 ((dropF (driveF dr (wd (h % 6)) nc cp) pl n nc (((shootF kp rg (driveF dr (wd (h % 6)) nc cp) pl me nc n nk (pw, sh, ha, su)).2.2.1), vi, lt, la)).2.2.2)), (k0, .inr (0, [.ref k1, .ref k2, .ref k3, .ref k4, .int (nI nk)])), (k1, aI d 6 kp), (k2, aI d 6 rg), (k3, aI d 6 ((shootF kp rg (driveF dr (wd (h % 6)) nc cp) pl me nc n nk (pw, sh, ha, su)).1)), (k4, aI d 6 ((shootF kp rg (driveF dr (wd (h % 6)) nc cp) pl me nc n nk (pw, sh, ha, su)).2.1)), (e0, .inr (1, [.ref e1, .ref e2, .ref e3, .ref e4, .int (nI nc)])), (e1, aI d 20 (driveF dr (wd (h % 6)) nc cp)), (e2, aI d 20 dr), (e3, aI d 20 ((dropF (driveF dr (wd (h % 6)) nc cp) pl n nc (((shootF kp rg (driveF dr (wd (h % 6)) nc cp) pl me nc n nk (pw, sh, ha, su)).2.2.1), vi, lt, la)).1)), (e4, aZ d 20 (gnF (driveF dr (wd (h % 6)) nc cp))), (w0, aI d 6 wd)] [(l0, .inr (2, [.ref a0, .ref k0, .ref e0, .ref w0, .int (nI h), .int co])), (a0, .inr (3, [.ref a1, .ref a2, .ref a3, .ref a4, .ref a5, .ref a6, .ref a7, .int (nI n)])), (a1, aI d 10 pl), (a2, aI d 10 ((closeF ins n (0, ((dropF (driveF dr (wd (h % 6)) nc cp) pl n nc (((shootF kp rg (driveF dr (wd (h % 6)) nc cp) pl me nc n nk (pw, sh, ha, su)).2.2.1), vi, lt, la)).2.1), ((dropF (driveF dr (wd (h % 6)) nc cp) pl n nc (((shootF kp rg (driveF dr (wd (h % 6)) nc cp) pl me nc n nk (pw, sh, ha, su)).2.2.1), vi, lt, la)).2.2.1), ((shootF kp rg (driveF dr (wd (h % 6)) nc cp) pl me nc n nk (pw, sh, ha, su)).2.2.2))).2.1)), (a3, aZ d 10 me), (a4, aZ d 10 ins), (a5, aI d 10 ((closeF ins n (0, ((dropF (driveF dr (wd (h % 6)) nc cp) pl n nc (((shootF kp rg (driveF dr (wd (h % 6)) nc cp) pl me nc n nk (pw, sh, ha, su)).2.2.1), vi, lt, la)).2.1), ((dropF (driveF dr (wd (h % 6)) nc cp) pl n nc (((shootF kp rg (driveF dr (wd (h % 6)) nc cp) pl me nc n nk (pw, sh, ha, su)).2.2.1), vi, lt, la)).2.2.1), ((shootF kp rg (driveF dr (wd (h % 6)) nc cp) pl me nc n nk (pw, sh, ha, su)).2.2.2))).2.2.1)), (a6, aI d 10 ((closeF ins n (0, ((dropF (driveF dr (wd (h % 6)) nc cp) pl n nc (((shootF kp rg (driveF dr (wd (h % 6)) nc cp) pl me nc n nk (pw, sh, ha, su)).2.2.1), vi, lt, la)).2.1), ((dropF (driveF dr (wd (h % 6)) nc cp) pl n nc (((shootF kp rg (driveF dr (wd (h % 6)) nc cp) pl me nc n nk (pw, sh, ha, su)).2.2.1), vi, lt, la)).2.2.1), ((shootF kp rg (driveF dr (wd (h % 6)) nc cp) pl me nc n nk (pw, sh, ha, su)).2.2.2))).2.2.2)), (a7, aI d 10 ((dropF (driveF dr (wd (h % 6)) nc cp) pl n nc (((shootF kp rg (driveF dr (wd (h % 6)) nc cp) pl me nc n nk (pw, sh, ha, su)).2.2.1), vi, lt, la)).2.2.2)), (k0, .inr (0, [.ref k1, .ref k2, .ref k3, .ref k4, .int (nI nk)])), (k1, aI d 6 kp), (k2, aI d 6 rg), (k3, aI d 6 ((shootF kp rg (driveF dr (wd (h % 6)) nc cp) pl me nc n nk (pw, sh, ha, su)).1)), (k4, aI d 6 ((shootF kp rg (driveF dr (wd (h % 6)) nc cp) pl me nc n nk (pw, sh, ha, su)).2.1)), (e0, .inr (1, [.ref e1, .ref e2, .ref e3, .ref e4, .int (nI nc)])), (e1, aI d 20 (driveF dr (wd (h % 6)) nc cp)), (e2, aI d 20 dr), (e3, aI d 20 ((dropF (driveF dr (wd (h % 6)) nc cp) pl n nc (((shootF kp rg (driveF dr (wd (h % 6)) nc cp) pl me nc n nk (pw, sh, ha, su)).2.2.1), vi, lt, la)).1)), (e4, aZ d 20 (gnF (driveF dr (wd (h % 6)) nc cp))), (w0, aI d 6 wd)] rfl rfl ⟨rfl, by decide, rfl, by decide, by decide⟩ ⟨rfl, by decide⟩ rfl dX2_goByOneHour_68 ?_
    refine y_iadd (pc := 71) hC dX2_goByOneHour_71 (co + ((closeF ins n (0, ((dropF (driveF dr (wd (h % 6)) nc cp) pl n nc (((shootF kp rg (driveF dr (wd (h % 6)) nc cp) pl me nc n nk (pw, sh, ha, su)).2.2.1), vi, lt, la)).2.1), ((dropF (driveF dr (wd (h % 6)) nc cp) pl n nc (((shootF kp rg (driveF dr (wd (h % 6)) nc cp) pl me nc n nk (pw, sh, ha, su)).2.2.1), vi, lt, la)).2.2.1), ((shootF kp rg (driveF dr (wd (h % 6)) nc cp) pl me nc n nk (pw, sh, ha, su)).2.2.2))).1)) rfl ?_
    refine y_put (pc := 72) hC 0 5 .int dX2_goByOneHour_72 tyX2 [(l0, .inr (2, [.ref a0, .ref k0, .ref e0, .ref w0, .int (nI h), .int (co + ((closeF ins n (0, ((dropF (driveF dr (wd (h % 6)) nc cp) pl n nc (((shootF kp rg (driveF dr (wd (h % 6)) nc cp) pl me nc n nk (pw, sh, ha, su)).2.2.1), vi, lt, la)).2.1), ((dropF (driveF dr (wd (h % 6)) nc cp) pl n nc (((shootF kp rg (driveF dr (wd (h % 6)) nc cp) pl me nc n nk (pw, sh, ha, su)).2.2.1), vi, lt, la)).2.2.1), ((shootF kp rg (driveF dr (wd (h % 6)) nc cp) pl me nc n nk (pw, sh, ha, su)).2.2.2))).1))])), (a0, .inr (3, [.ref a1, .ref a2, .ref a3, .ref a4, .ref a5, .ref a6, .ref a7, .int (nI n)])), (a1, aI d 10 pl), (a2, aI d 10 ((closeF ins n (0, ((dropF (driveF dr (wd (h % 6)) nc cp) pl n nc (((shootF kp rg (driveF dr (wd (h % 6)) nc cp) pl me nc n nk (pw, sh, ha, su)).2.2.1), vi, lt, la)).2.1), ((dropF (driveF dr (wd (h % 6)) nc cp) pl n nc (((shootF kp rg (driveF dr (wd (h % 6)) nc cp) pl me nc n nk (pw, sh, ha, su)).2.2.1), vi, lt, la)).2.2.1), ((shootF kp rg (driveF dr (wd (h % 6)) nc cp) pl me nc n nk (pw, sh, ha, su)).2.2.2))).2.1)), (a3, aZ d 10 me), (a4, aZ d 10 ins), (a5, aI d 10 ((closeF ins n (0, ((dropF (driveF dr (wd (h % 6)) nc cp) pl n nc (((shootF kp rg (driveF dr (wd (h % 6)) nc cp) pl me nc n nk (pw, sh, ha, su)).2.2.1), vi, lt, la)).2.1), ((dropF (driveF dr (wd (h % 6)) nc cp) pl n nc (((shootF kp rg (driveF dr (wd (h % 6)) nc cp) pl me nc n nk (pw, sh, ha, su)).2.2.1), vi, lt, la)).2.2.1), ((shootF kp rg (driveF dr (wd (h % 6)) nc cp) pl me nc n nk (pw, sh, ha, su)).2.2.2))).2.2.1)), (a6, aI d 10 ((closeF ins n (0, ((dropF (driveF dr (wd (h % 6)) nc cp) pl n nc (((shootF kp rg (driveF dr (wd (h % 6)) nc cp) pl me nc n nk (pw, sh, ha, su)).2.2.1), vi, lt, la)).2.1), ((dropF (driveF dr (wd (h % 6)) nc cp) pl n nc (((shootF kp rg (driveF dr (wd (h % 6)) nc cp) pl me nc n nk (pw, sh, ha, su)).2.2.1), vi, lt, la)).2.2.1), ((shootF kp rg (driveF dr (wd (h % 6)) nc cp) pl me nc n nk (pw, sh, ha, su)).2.2.2))).2.2.2)), (a7, aI d 10 ((dropF (driveF dr (wd (h % 6)) nc cp) pl n nc (((shootF kp rg (driveF dr (wd (h % 6)) nc cp) pl me nc n nk (pw, sh, ha, su)).2.2.1), vi, lt, la)).2.2.2)), (k0, .inr (0, [.ref k1, .ref k2, .ref k3, .ref k4, .int (nI nk)])), (k1, aI d 6 kp), (k2, aI d 6 rg), (k3, aI d 6 ((shootF kp rg (driveF dr (wd (h % 6)) nc cp) pl me nc n nk (pw, sh, ha, su)).1)), (k4, aI d 6 ((shootF kp rg (driveF dr (wd (h % 6)) nc cp) pl me nc n nk (pw, sh, ha, su)).2.1)), (e0, .inr (1, [.ref e1, .ref e2, .ref e3, .ref e4, .int (nI nc)])), (e1, aI d 20 (driveF dr (wd (h % 6)) nc cp)), (e2, aI d 20 dr), (e3, aI d 20 ((dropF (driveF dr (wd (h % 6)) nc cp) pl n nc (((shootF kp rg (driveF dr (wd (h % 6)) nc cp) pl me nc n nk (pw, sh, ha, su)).2.2.1), vi, lt, la)).1)), (e4, aZ d 20 (gnF (driveF dr (wd (h % 6)) nc cp))), (w0, aI d 6 wd)] rfl rfl rfl inX2 tyX2_ok nmX2 (by decide) kw_1_121 rfl rfl (by decide +kernel) rfl rfl (Nat.le_of_ble_eq_true rfl) ?_
    refine y_aload_n (pc := 75) hC 0 dX2_goByOneHour_75 rfl ?_
    refine y_dup (pc := 76) hC dX2_goByOneHour_76 rfl ?_
    refine y_get (pc := 77) hC 0 4 dX2_goByOneHour_77 rfl rfl inX2 (by decide) kw_1_120 rfl rfl ?_
    refine y_iconst (pc := 80) hC dX2_goByOneHour_80 1 (by decide) ?_
    refine y_iadd (pc := 81) hC dX2_goByOneHour_81 (nI (h + 1)) (nI_1 _) ?_
    refine y_put (pc := 82) hC 0 4 .int dX2_goByOneHour_82 tyX2 [(l0, .inr (2, [.ref a0, .ref k0, .ref e0, .ref w0, .int (nI (h + 1)), .int (co + ((closeF ins n (0, ((dropF (driveF dr (wd (h % 6)) nc cp) pl n nc (((shootF kp rg (driveF dr (wd (h % 6)) nc cp) pl me nc n nk (pw, sh, ha, su)).2.2.1), vi, lt, la)).2.1), ((dropF (driveF dr (wd (h % 6)) nc cp) pl n nc (((shootF kp rg (driveF dr (wd (h % 6)) nc cp) pl me nc n nk (pw, sh, ha, su)).2.2.1), vi, lt, la)).2.2.1), ((shootF kp rg (driveF dr (wd (h % 6)) nc cp) pl me nc n nk (pw, sh, ha, su)).2.2.2))).1))])), (a0, .inr (3, [.ref a1, .ref a2, .ref a3, .ref a4, .ref a5, .ref a6, .ref a7, .int (nI n)])), (a1, aI d 10 pl), (a2, aI d 10 ((closeF ins n (0, ((dropF (driveF dr (wd (h % 6)) nc cp) pl n nc (((shootF kp rg (driveF dr (wd (h % 6)) nc cp) pl me nc n nk (pw, sh, ha, su)).2.2.1), vi, lt, la)).2.1), ((dropF (driveF dr (wd (h % 6)) nc cp) pl n nc (((shootF kp rg (driveF dr (wd (h % 6)) nc cp) pl me nc n nk (pw, sh, ha, su)).2.2.1), vi, lt, la)).2.2.1), ((shootF kp rg (driveF dr (wd (h % 6)) nc cp) pl me nc n nk (pw, sh, ha, su)).2.2.2))).2.1)), (a3, aZ d 10 me), (a4, aZ d 10 ins), (a5, aI d 10 ((closeF ins n (0, ((dropF (driveF dr (wd (h % 6)) nc cp) pl n nc (((shootF kp rg (driveF dr (wd (h % 6)) nc cp) pl me nc n nk (pw, sh, ha, su)).2.2.1), vi, lt, la)).2.1), ((dropF (driveF dr (wd (h % 6)) nc cp) pl n nc (((shootF kp rg (driveF dr (wd (h % 6)) nc cp) pl me nc n nk (pw, sh, ha, su)).2.2.1), vi, lt, la)).2.2.1), ((shootF kp rg (driveF dr (wd (h % 6)) nc cp) pl me nc n nk (pw, sh, ha, su)).2.2.2))).2.2.1)), (a6, aI d 10 ((closeF ins n (0, ((dropF (driveF dr (wd (h % 6)) nc cp) pl n nc (((shootF kp rg (driveF dr (wd (h % 6)) nc cp) pl me nc n nk (pw, sh, ha, su)).2.2.1), vi, lt, la)).2.1), ((dropF (driveF dr (wd (h % 6)) nc cp) pl n nc (((shootF kp rg (driveF dr (wd (h % 6)) nc cp) pl me nc n nk (pw, sh, ha, su)).2.2.1), vi, lt, la)).2.2.1), ((shootF kp rg (driveF dr (wd (h % 6)) nc cp) pl me nc n nk (pw, sh, ha, su)).2.2.2))).2.2.2)), (a7, aI d 10 ((dropF (driveF dr (wd (h % 6)) nc cp) pl n nc (((shootF kp rg (driveF dr (wd (h % 6)) nc cp) pl me nc n nk (pw, sh, ha, su)).2.2.1), vi, lt, la)).2.2.2)), (k0, .inr (0, [.ref k1, .ref k2, .ref k3, .ref k4, .int (nI nk)])), (k1, aI d 6 kp), (k2, aI d 6 rg), (k3, aI d 6 ((shootF kp rg (driveF dr (wd (h % 6)) nc cp) pl me nc n nk (pw, sh, ha, su)).1)), (k4, aI d 6 ((shootF kp rg (driveF dr (wd (h % 6)) nc cp) pl me nc n nk (pw, sh, ha, su)).2.1)), (e0, .inr (1, [.ref e1, .ref e2, .ref e3, .ref e4, .int (nI nc)])), (e1, aI d 20 (driveF dr (wd (h % 6)) nc cp)), (e2, aI d 20 dr), (e3, aI d 20 ((dropF (driveF dr (wd (h % 6)) nc cp) pl n nc (((shootF kp rg (driveF dr (wd (h % 6)) nc cp) pl me nc n nk (pw, sh, ha, su)).2.2.1), vi, lt, la)).1)), (e4, aZ d 20 (gnF (driveF dr (wd (h % 6)) nc cp))), (w0, aI d 6 wd)] rfl rfl rfl inX2 tyX2_ok nmX2 (by decide) kw_1_120 rfl rfl (by decide +kernel) rfl rfl (Nat.le_of_ble_eq_true rfl) ?_
    have e9 : hourF (pl, me, ins, n, kp, rg, nk, dr, nc, wd) h (vi, lt, su, la, pw, sh, cp, ha, co) = _ := if_pos c_1
    exact y_vret (()) hC hQ (trivial) (by rw [e9]) (nb rfl) (nb rfl) dX2_goByOneHour_85
theorem n_X2_goByOneHour : yyN yX2_goByOneHour RX2 0 := by refine ⟨rfl, ?_, ?_, ?_⟩ <;> decide +kernel
set_option maxHeartbeats 4000000 in
set_option maxRecDepth 100000 in
theorem c_X2_goBy (l : Launch) (d : yyD) (l0 : Nat) (a0 : Nat) (a1 : Nat) (a2 : Nat) (a3 : Nat) (a4 : Nat) (a5 : Nat) (a6 : Nat) (a7 : Nat) (k0 : Nat) (k1 : Nat) (k2 : Nat) (k3 : Nat) (k4 : Nat) (e0 : Nat) (e1 : Nat) (e2 : Nat) (e3 : Nat) (e4 : Nat) (w0 : Nat) (pl : fI) (vi : fI) (me : fB) (ins : fB) (lt : fI) (su : fI) (la : fI) (kp : fI) (rg : fI) (pw : fI) (sh : fI) (cp : fI) (dr : fI) (ha : fI) (wd : fI) (co : Int32) (h : Nat) (n : Nat) (nk : Nat) (nc : Nat) (m : Nat) (hn : n ≤ 10) (hk : nk ≤ 6) (hc : nc ≤ 20) (hh : h + m < 1000000) : yyV (S := Unit) l yX2_goBy cX2_goBy 3 { frames := 5, cells := 0, slots := 0, locals := 105 } d [.ref l0, .int (nI m)] [(l0, .inr (2, [.ref a0, .ref k0, .ref e0, .ref w0, .int (nI h), .int co])), (a0, .inr (3, [.ref a1, .ref a2, .ref a3, .ref a4, .ref a5, .ref a6, .ref a7, .int (nI n)])), (a1, aI d 10 pl), (a2, aI d 10 vi), (a3, aZ d 10 me), (a4, aZ d 10 ins), (a5, aI d 10 lt), (a6, aI d 10 su), (a7, aI d 10 la), (k0, .inr (0, [.ref k1, .ref k2, .ref k3, .ref k4, .int (nI nk)])), (k1, aI d 6 kp), (k2, aI d 6 rg), (k3, aI d 6 pw), (k4, aI d 6 sh), (e0, .inr (1, [.ref e1, .ref e2, .ref e3, .ref e4, .int (nI nc)])), (e1, aI d 20 cp), (e2, aI d 20 dr), (e3, aI d 20 ha), (e4, aZ d 20 (gnF cp)), (w0, aI d 6 wd)] (fun _ => True) (fun _ => [(l0, .inr (2, [.ref a0, .ref k0, .ref e0, .ref w0, .int (nI (h + m)), .int ((hoursF (pl, me, ins, n, kp, rg, nk, dr, nc, wd) h m (vi, lt, su, la, pw, sh, cp, ha, co)).2.2.2.2.2.2.2.2)])), (a0, .inr (3, [.ref a1, .ref a2, .ref a3, .ref a4, .ref a5, .ref a6, .ref a7, .int (nI n)])), (a1, aI d 10 pl), (a2, aI d 10 ((hoursF (pl, me, ins, n, kp, rg, nk, dr, nc, wd) h m (vi, lt, su, la, pw, sh, cp, ha, co)).1)), (a3, aZ d 10 me), (a4, aZ d 10 ins), (a5, aI d 10 ((hoursF (pl, me, ins, n, kp, rg, nk, dr, nc, wd) h m (vi, lt, su, la, pw, sh, cp, ha, co)).2.1)), (a6, aI d 10 ((hoursF (pl, me, ins, n, kp, rg, nk, dr, nc, wd) h m (vi, lt, su, la, pw, sh, cp, ha, co)).2.2.1)), (a7, aI d 10 ((hoursF (pl, me, ins, n, kp, rg, nk, dr, nc, wd) h m (vi, lt, su, la, pw, sh, cp, ha, co)).2.2.2.1)), (k0, .inr (0, [.ref k1, .ref k2, .ref k3, .ref k4, .int (nI nk)])), (k1, aI d 6 kp), (k2, aI d 6 rg), (k3, aI d 6 ((hoursF (pl, me, ins, n, kp, rg, nk, dr, nc, wd) h m (vi, lt, su, la, pw, sh, cp, ha, co)).2.2.2.2.1)), (k4, aI d 6 ((hoursF (pl, me, ins, n, kp, rg, nk, dr, nc, wd) h m (vi, lt, su, la, pw, sh, cp, ha, co)).2.2.2.2.2.1)), (e0, .inr (1, [.ref e1, .ref e2, .ref e3, .ref e4, .int (nI nc)])), (e1, aI d 20 ((hoursF (pl, me, ins, n, kp, rg, nk, dr, nc, wd) h m (vi, lt, su, la, pw, sh, cp, ha, co)).2.2.2.2.2.2.1)), (e2, aI d 20 dr), (e3, aI d 20 ((hoursF (pl, me, ins, n, kp, rg, nk, dr, nc, wd) h m (vi, lt, su, la, pw, sh, cp, ha, co)).2.2.2.2.2.2.2.1)), (e4, aZ d 20 (gnF ((hoursF (pl, me, ins, n, kp, rg, nk, dr, nc, wd) h m (vi, lt, su, la, pw, sh, cp, ha, co)).2.2.2.2.2.2.1))), (w0, aI d 6 wd)]) := by
  refine yyV_of (own := RX2) [(0, .ref l0), (1, .int (nI m))] (by decide +kernel) rfl (Nat.le_of_ble_eq_true rfl) rfl ?_
  intro G Q hQ hGL hC hGA hin
  refine y_iconst (pc := 0) hC dX2_goBy_0 0 (by decide) ?_
  refine y_istore_n (pc := 1) hC dX2_goBy_1 [(2, .int 0), (0, .ref l0), (1, .int (nI m))] rfl (by decide) ?_
  have lpj1 : ∀ r1 j1 : Nat, j1 + r1 = m → yyW d G 0 0 Q [(l0, .inr (2, [.ref a0, .ref k0, .ref e0, .ref w0, .int (nI (h + j1)), .int ((yi j1 (hoursS (pl, me, ins, n, kp, rg, nk, dr, nc, wd) h) (vi, lt, su, la, pw, sh, cp, ha, co)).2.2.2.2.2.2.2.2)])), (a0, .inr (3, [.ref a1, .ref a2, .ref a3, .ref a4, .ref a5, .ref a6, .ref a7, .int (nI n)])), (a1, aI d 10 pl), (a2, aI d 10 ((yi j1 (hoursS (pl, me, ins, n, kp, rg, nk, dr, nc, wd) h) (vi, lt, su, la, pw, sh, cp, ha, co)).1)), (a3, aZ d 10 me), (a4, aZ d 10 ins), (a5, aI d 10 ((yi j1 (hoursS (pl, me, ins, n, kp, rg, nk, dr, nc, wd) h) (vi, lt, su, la, pw, sh, cp, ha, co)).2.1)), (a6, aI d 10 ((yi j1 (hoursS (pl, me, ins, n, kp, rg, nk, dr, nc, wd) h) (vi, lt, su, la, pw, sh, cp, ha, co)).2.2.1)), (a7, aI d 10 ((yi j1 (hoursS (pl, me, ins, n, kp, rg, nk, dr, nc, wd) h) (vi, lt, su, la, pw, sh, cp, ha, co)).2.2.2.1)), (k0, .inr (0, [.ref k1, .ref k2, .ref k3, .ref k4, .int (nI nk)])), (k1, aI d 6 kp), (k2, aI d 6 rg), (k3, aI d 6 ((yi j1 (hoursS (pl, me, ins, n, kp, rg, nk, dr, nc, wd) h) (vi, lt, su, la, pw, sh, cp, ha, co)).2.2.2.2.1)), (k4, aI d 6 ((yi j1 (hoursS (pl, me, ins, n, kp, rg, nk, dr, nc, wd) h) (vi, lt, su, la, pw, sh, cp, ha, co)).2.2.2.2.2.1)), (e0, .inr (1, [.ref e1, .ref e2, .ref e3, .ref e4, .int (nI nc)])), (e1, aI d 20 ((yi j1 (hoursS (pl, me, ins, n, kp, rg, nk, dr, nc, wd) h) (vi, lt, su, la, pw, sh, cp, ha, co)).2.2.2.2.2.2.1)), (e2, aI d 20 dr), (e3, aI d 20 ((yi j1 (hoursS (pl, me, ins, n, kp, rg, nk, dr, nc, wd) h) (vi, lt, su, la, pw, sh, cp, ha, co)).2.2.2.2.2.2.2.1)), (e4, aZ d 20 (gnF ((yi j1 (hoursS (pl, me, ins, n, kp, rg, nk, dr, nc, wd) h) (vi, lt, su, la, pw, sh, cp, ha, co)).2.2.2.2.2.2.1))), (w0, aI d 6 wd)] [(2, .int (nI j1)), (0, .ref l0), (1, .int (nI m))] 2 [] := by
    intro r1
    induction r1 with
    | zero =>
      intro j1 hj1
      have ej1 : j1 = m := by omega
      rw [ej1]
      refine y_iload_n (pc := 2) hC 0 dX2_goBy_2 rfl ?_
      refine y_iload_n (pc := 3) hC 2 dX2_goBy_3 rfl ?_
      refine y_ge_t (pc := 4) (a := m) (b := m) hC dX2_goBy_4 17 (by decide) (by omega) (by omega) ?_
      exact y_vret (()) hC hQ (trivial) rfl (nb rfl) (nb rfl) dX2_goBy_17
    | succ r1 ihj1 =>
      intro j1 hj1
      have lj1 : j1 < m := by omega
      refine y_iload_n (pc := 2) hC 0 dX2_goBy_2 rfl ?_
      refine y_iload_n (pc := 3) hC 2 dX2_goBy_3 rfl ?_
      refine y_ge_f (pc := 4) (a := j1) (b := m) hC dX2_goBy_4 17 (by decide) (by omega) (by omega) ?_
      refine y_aload_n (pc := 7) hC 1 dX2_goBy_7 rfl ?_
      refine y_cV (pc := 8) (As := []) (st := []) hC (c_X2_goByOneHour (gL G) d l0 a0 a1 a2 a3 a4 a5 a6 a7 k0 k1 k2 k3 k4 e0 e1 e2 e3 e4 w0 pl ((yi j1 (hoursS (pl, me, ins, n, kp, rg, nk, dr, nc, wd) h) (vi, lt, su, la, pw, sh, cp, ha, co)).1) me ins ((yi j1 (hoursS (pl, me, ins, n, kp, rg, nk, dr, nc, wd) h) (vi, lt, su, la, pw, sh, cp, ha, co)).2.1) ((yi j1 (hoursS (pl, me, ins, n, kp, rg, nk, dr, nc, wd) h) (vi, lt, su, la, pw, sh, cp, ha, co)).2.2.1) ((yi j1 (hoursS (pl, me, ins, n, kp, rg, nk, dr, nc, wd) h) (vi, lt, su, la, pw, sh, cp, ha, co)).2.2.2.1) kp rg ((yi j1 (hoursS (pl, me, ins, n, kp, rg, nk, dr, nc, wd) h) (vi, lt, su, la, pw, sh, cp, ha, co)).2.2.2.2.1) ((yi j1 (hoursS (pl, me, ins, n, kp, rg, nk, dr, nc, wd) h) (vi, lt, su, la, pw, sh, cp, ha, co)).2.2.2.2.2.1) ((yi j1 (hoursS (pl, me, ins, n, kp, rg, nk, dr, nc, wd) h) (vi, lt, su, la, pw, sh, cp, ha, co)).2.2.2.2.2.2.1) dr ((yi j1 (hoursS (pl, me, ins, n, kp, rg, nk, dr, nc, wd) h) (vi, lt, su, la, pw, sh, cp, ha, co)).2.2.2.2.2.2.2.1) wd ((yi j1 (hoursS (pl, me, ins, n, kp, rg, nk, dr, nc, wd) h) (vi, lt, su, la, pw, sh, cp, ha, co)).2.2.2.2.2.2.2.2) (h + j1) n nk nc (by omega) (by omega) (by omega) (by omega)) kw_2_205 kw_2_202 kw_2_203 kw_2_204 kw_1_2 n_X2_goByOneHour ⟨⟨nb rfl, nb rfl⟩, ⟨nb rfl, nb rfl⟩, nb rfl⟩ [0, 1, 2, 3, 4, 5, 6, 7, 8, 9, 10, 11, 12, 13, 14, 15, 16, 17, 18, 19] [] [0, 1, 2, 3, 4, 5, 6, 7, 8, 9, 10, 11, 12, 13, 14, 15, 16, 17, 18, 19] 0 [] (fun _ => [(l0, .inr (2, [.ref a0, .ref k0, .ref e0, .ref w0, .int (nI ((h + j1) + 1)), .int ((hourF (pl, me, ins, n, kp, rg, nk, dr, nc, wd) (h + j1) (((yi j1 (hoursS (pl, me, ins, n, kp, rg, nk, dr, nc, wd) h) (vi, lt, su, la, pw, sh, cp, ha, co)).1), ((yi j1 (hoursS (pl, me, ins, n, kp, rg, nk, dr, nc, wd) h) (vi, lt, su, la, pw, sh, cp, ha, co)).2.1), ((yi j1 (hoursS (pl, me, ins, n, kp, rg, nk, dr, nc, wd) h) (vi, lt, su, la, pw, sh, cp, ha, co)).2.2.1), ((yi j1 (hoursS (pl, me, ins, n, kp, rg, nk, dr, nc, wd) h) (vi, lt, su, la, pw, sh, cp, ha, co)).2.2.2.1), ((yi j1 (hoursS (pl, me, ins, n, kp, rg, nk, dr, nc, wd) h) (vi, lt, su, la, pw, sh, cp, ha, co)).2.2.2.2.1), ((yi j1 (hoursS (pl, me, ins, n, kp, rg, nk, dr, nc, wd) h) (vi, lt, su, la, pw, sh, cp, ha, co)).2.2.2.2.2.1), ((yi j1 (hoursS (pl, me, ins, n, kp, rg, nk, dr, nc, wd) h) (vi, lt, su, la, pw, sh, cp, ha, co)).2.2.2.2.2.2.1), ((yi j1 (hoursS (pl, me, ins, n, kp, rg, nk, dr, nc, wd) h) (vi, lt, su, la, pw, sh, cp, ha, co)).2.2.2.2.2.2.2.1), ((yi j1 (hoursS (pl, me, ins, n, kp, rg, nk, dr, nc, wd) h) (vi, lt, su, la, pw, sh, cp, ha, co)).2.2.2.2.2.2.2.2))).2.2.2.2.2.2.2.2)])), (a0, .inr (3, [.ref a1, .ref a2, .ref a3, .ref a4, .ref a5, .ref a6, .ref a7, .int (nI n)])), (a1, aI d 10 pl), (a2, aI d 10 ((hourF (pl, me, ins, n, kp, rg, nk, dr, nc, wd) (h + j1) (((yi j1 (hoursS (pl, me, ins, n, kp, rg, nk, dr, nc, wd) h) (vi, lt, su, la, pw, sh, cp, ha, co)).1), ((yi j1 (hoursS (pl, me, ins, n, kp, rg, nk, dr, nc, wd) h) (vi, lt, su, la, pw, sh, cp, ha, co)).2.1), ((yi j1 (hoursS (pl, me, ins, n, kp, rg, nk, dr, nc, wd) h) (vi, lt, su, la, pw, sh, cp, ha, co)).2.2.1), ((yi j1 (hoursS (pl, me, ins, n, kp, rg, nk, dr, nc, wd) h) (vi, lt, su, la, pw, sh, cp, ha, co)).2.2.2.1), ((yi j1 (hoursS (pl, me, ins, n, kp, rg, nk, dr, nc, wd) h) (vi, lt, su, la, pw, sh, cp, ha, co)).2.2.2.2.1), ((yi j1 (hoursS (pl, me, ins, n, kp, rg, nk, dr, nc, wd) h) (vi, lt, su, la, pw, sh, cp, ha, co)).2.2.2.2.2.1), ((yi j1 (hoursS (pl, me, ins, n, kp, rg, nk, dr, nc, wd) h) (vi, lt, su, la, pw, sh, cp, ha, co)).2.2.2.2.2.2.1), ((yi j1 (hoursS (pl, me, ins, n, kp, rg, nk, dr, nc, wd) h) (vi, lt, su, la, pw, sh, cp, ha, co)).2.2.2.2.2.2.2.1), ((yi j1 (hoursS (pl, me, ins, n, kp, rg, nk, dr, nc, wd) h) (vi, lt, su, la, pw, sh, cp, ha, co)).2.2.2.2.2.2.2.2))).1)), (a3, aZ d 10 me), (a4, aZ d 10 ins), (a5, aI d 10 ((hourF (pl, me, ins, n, kp, rg, nk, dr, nc, wd) (h + j1) (((yi j1 (hoursS (pl, me, ins, n, kp, rg, nk, dr, nc, wd) h) (vi, lt, su, la, pw, sh, cp, ha, co)).1), ((yi j1 (hoursS (pl, me, ins, n, kp, rg, nk, dr, nc, wd) h) (vi, lt, su, la, pw, sh, cp, ha, co)).2.1), ((yi j1 (hoursS (pl, me, ins, n, kp, rg, nk, dr, nc, wd) h) (vi, lt, su, la, pw, sh, cp, ha, co)).2.2.1), ((yi j1 (hoursS (pl, me, ins, n, kp, rg, nk, dr, nc, wd) h) (vi, lt, su, la, pw, sh, cp, ha, co)).2.2.2.1), ((yi j1 (hoursS (pl, me, ins, n, kp, rg, nk, dr, nc, wd) h) (vi, lt, su, la, pw, sh, cp, ha, co)).2.2.2.2.1), ((yi j1 (hoursS (pl, me, ins, n, kp, rg, nk, dr, nc, wd) h) (vi, lt, su, la, pw, sh, cp, ha, co)).2.2.2.2.2.1), ((yi j1 (hoursS (pl, me, ins, n, kp, rg, nk, dr, nc, wd) h) (vi, lt, su, la, pw, sh, cp, ha, co)).2.2.2.2.2.2.1), ((yi j1 (hoursS (pl, me, ins, n, kp, rg, nk, dr, nc, wd) h) (vi, lt, su, la, pw, sh, cp, ha, co)).2.2.2.2.2.2.2.1), ((yi j1 (hoursS (pl, me, ins, n, kp, rg, nk, dr, nc, wd) h) (vi, lt, su, la, pw, sh, cp, ha, co)).2.2.2.2.2.2.2.2))).2.1)), (a6, aI d 10 ((hourF (pl, me, ins, n, kp, rg, nk, dr, nc, wd) (h + j1) (((yi j1 (hoursS (pl, me, ins, n, kp, rg, nk, dr, nc, wd) h) (vi, lt, su, la, pw, sh, cp, ha, co)).1), ((yi j1 (hoursS (pl, me, ins, n, kp, rg, nk, dr, nc, wd) h) (vi, lt, su, la, pw, sh, cp, ha, co)).2.1), ((yi j1 (hoursS (pl, me, ins, n, kp, rg, nk, dr, nc, wd) h) (vi, lt, su, la, pw, sh, cp, ha, co)).2.2.1), ((yi j1 (hoursS (pl, me, ins, n, kp, rg, nk, dr, nc, wd) h) (vi, lt, su, la, pw, sh, cp, ha, co)).2.2.2.1), ((yi j1 (hoursS (pl, me, ins, n, kp, rg, nk, dr, nc, wd) h) (vi, lt, su, la, pw, sh, cp, ha, co)).2.2.2.2.1), ((yi j1 (hoursS (pl, me, ins, n, kp, rg, nk, dr, nc, wd) h) (vi, lt, su, la, pw, sh, cp, ha, co)).2.2.2.2.2.1), ((yi j1 (hoursS (pl, me, ins, n, kp, rg, nk, dr, nc, wd) h) (vi, lt, su, la, pw, sh, cp, ha, co)).2.2.2.2.2.2.1), ((yi j1 (hoursS (pl, me, ins, n, kp, rg, nk, dr, nc, wd) h) (vi, lt, su, la, pw, sh, cp, ha, co)).2.2.2.2.2.2.2.1), ((yi j1 (hoursS (pl, me, ins, n, kp, rg, nk, dr, nc, wd) h) (vi, lt, su, la, pw, sh, cp, ha, co)).2.2.2.2.2.2.2.2))).2.2.1)), (a7, aI d 10 ((hourF (pl, me, ins, n, kp, rg, nk, dr, nc, wd) (h + j1) (((yi j1 (hoursS (pl, me, ins, n, kp, rg, nk, dr, nc, wd) h) (vi, lt, su, la, pw, sh, cp, ha, co)).1), ((yi j1 (hoursS (pl, me, ins, n, kp, rg, nk, dr, nc, wd) h) (vi, lt, su, la, pw, sh, cp, ha, co)).2.1), ((yi j1 (hoursS (pl, me, ins, n, kp, rg, nk, dr, nc, wd) h) (vi, lt, su, la, pw, sh, cp, ha, co)).2.2.1), ((yi j1 (hoursS (pl, me, ins, n, kp, rg, nk, dr, nc, wd) h) (vi, lt, su, la, pw, sh, cp, ha, co)).2.2.2.1), ((yi j1 (hoursS (pl, me, ins, n, kp, rg, nk, dr, nc, wd) h) (vi, lt, su, la, pw, sh, cp, ha, co)).2.2.2.2.1), ((yi j1 (hoursS (pl, me, ins, n, kp, rg, nk, dr, nc, wd) h) (vi, lt, su, la, pw, sh, cp, ha, co)).2.2.2.2.2.1), ((yi j1 (hoursS (pl, me, ins, n, kp, rg, nk, dr, nc, wd) h) (vi, lt, su, la, pw, sh, cp, ha, co)).2.2.2.2.2.2.1), ((yi j1 (hoursS (pl, me, ins, n, kp, rg, nk, dr, nc, wd) h) (vi, lt, su, la, pw, sh, cp, ha, co)).2.2.2.2.2.2.2.1), ((yi j1 (hoursS (pl, me, ins, n, kp, rg, nk, dr, nc, wd) h) (vi, lt, su, la, pw, sh, cp, ha, co)).2.2.2.2.2.2.2.2))).2.2.2.1)), (k0, .inr (0, [.ref k1, .ref k2, .ref k3, .ref k4, .int (nI nk)])), (k1, aI d 6 kp), (k2, aI d 6 rg), (k3, aI d 6 ((hourF (pl, me, ins, n, kp, rg, nk, dr, nc, wd) (h + j1) (((yi j1 (hoursS (pl, me, ins, n, kp, rg, nk, dr, nc, wd) h) (vi, lt, su, la, pw, sh, cp, ha, co)).1), ((yi j1 (hoursS (pl, me, ins, n, kp, rg, nk, dr, nc, wd) h) (vi, lt, su, la, pw, sh, cp, ha, co)).2.1), ((yi j1 (hoursS (pl, me, ins, n, kp, rg, nk, dr, nc, wd) h) (vi, lt, su, la, pw, sh, cp, ha, co)).2.2.1), ((yi j1 (hoursS (pl, me, ins, n, kp, rg, nk, dr, nc, wd) h) (vi, lt, su, la, pw, sh, cp, ha, co)).2.2.2.1), ((yi j1 (hoursS (pl, me, ins, n, kp, rg, nk, dr, nc, wd) h) (vi, lt, su, la, pw, sh, cp, ha, co)).2.2.2.2.1), ((yi j1 (hoursS (pl, me, ins, n, kp, rg, nk, dr, nc, wd) h) (vi, lt, su, la, pw, sh, cp, ha, co)).2.2.2.2.2.1), ((yi j1 (hoursS (pl, me, ins, n, kp, rg, nk, dr, nc, wd) h) (vi, lt, su, la, pw, sh, cp, ha, co)).2.2.2.2.2.2.1), ((yi j1 (hoursS (pl, me, ins, n, kp, rg, nk, dr, nc, wd) h) (vi, lt, su, la, pw, sh, cp, ha, co)).2.2.2.2.2.2.2.1), ((yi j1 (hoursS (pl, me, ins, n, kp, rg, nk, dr, nc, wd) h) (vi, lt, su, la, pw, sh, cp, ha, co)).2.2.2.2.2.2.2.2))).2.2.2.2.1)), (k4, aI d 6 ((hourF (pl, me, ins, n, kp, rg, nk, dr, nc, wd) (h + j1) (((yi j1 (hoursS (pl, me, ins, n, kp, rg, nk, dr, nc, wd) h) (vi, lt, su, la, pw, sh, cp, ha, co)).1), ((yi j1 (hoursS (pl, me, ins, n, kp, rg, nk, dr, nc, wd) h) (vi, lt, su, la, pw, sh, cp, ha, co)).2.1), ((yi j1 (hoursS (pl, me, ins, n, kp, rg, nk, dr, nc, wd) h) (vi, lt, su, la, pw, sh, cp, ha, co)).2.2.1), ((yi j1 (hoursS (pl, me, ins, n, kp, rg, nk, dr, nc, wd) h) (vi, lt, su, la, pw, sh, cp, ha, co)).2.2.2.1), ((yi j1 (hoursS (pl, me, ins, n, kp, rg, nk, dr, nc, wd) h) (vi, lt, su, la, pw, sh, cp, ha, co)).2.2.2.2.1), ((yi j1 (hoursS (pl, me, ins, n, kp, rg, nk, dr, nc, wd) h) (vi, lt, su, la, pw, sh, cp, ha, co)).2.2.2.2.2.1), ((yi j1 (hoursS (pl, me, ins, n, kp, rg, nk, dr, nc, wd) h) (vi, lt, su, la, pw, sh, cp, ha, co)).2.2.2.2.2.2.1), ((yi j1 (hoursS (pl, me, ins, n, kp, rg, nk, dr, nc, wd) h) (vi, lt, su, la, pw, sh, cp, ha, co)).2.2.2.2.2.2.2.1), ((yi j1 (hoursS (pl, me, ins, n, kp, rg, nk, dr, nc, wd) h) (vi, lt, su, la, pw, sh, cp, ha, co)).2.2.2.2.2.2.2.2))).2.2.2.2.2.1)), (e0, .inr (1, [.ref e1, .ref e2, .ref e3, .ref e4, .int (nI nc)])), (e1, aI d 20 ((hourF (pl, me, ins, n, kp, rg, nk, dr, nc, wd) (h + j1) (((yi j1 (hoursS (pl, me, ins, n, kp, rg, nk, dr, nc, wd) h) (vi, lt, su, la, pw, sh, cp, ha, co)).1), ((yi j1 (hoursS (pl, me, ins, n, kp, rg, nk, dr, nc, wd) h) (vi, lt, su, la, pw, sh, cp, ha, co)).2.1), ((yi j1 (hoursS (pl, me, ins, n, kp, rg, nk, dr, nc, wd) h) (vi, lt, su, la, pw, sh, cp, ha, co)).2.2.1), ((yi j1 (hoursS (pl, me, ins, n, kp, rg, nk, dr, nc, wd) h) (vi, lt, su, la, pw, sh, cp, ha, co)).2.2.2.1), ((yi j1 (hoursS (pl, me, ins, n, kp, rg, nk, dr, nc, wd) h) (vi, lt, su, la, pw, sh, cp, ha, co)).2.2.2.2.1), ((yi j1 (hoursS (pl, me, ins, n, kp, rg, nk, dr, nc, wd) h) (vi, lt, su, la, pw, sh, cp, ha, co)).2.2.2.2.2.1), ((yi j1 (hoursS (pl, me, ins, n, kp, rg, nk, dr, nc, wd) h) (vi, lt, su, la, pw, sh, cp, ha, co)).2.2.2.2.2.2.1), ((yi j1 (hoursS (pl, me, ins, n, kp, rg, nk, dr, nc, wd) h) (vi, lt, su, la, pw, sh, cp, ha, co)).2.2.2.2.2.2.2.1), ((yi j1 (hoursS (pl, me, ins, n, kp, rg, nk, dr, nc, wd) h) (vi, lt, su, la, pw, sh, cp, ha, co)).2.2.2.2.2.2.2.2))).2.2.2.2.2.2.1)), (e2, aI d 20 dr), (e3, aI d 20 ((hourF (pl, me, ins, n, kp, rg, nk, dr, nc, wd) (h + j1) (((yi j1 (hoursS (pl, me, ins, n, kp, rg, nk, dr, nc, wd) h) (vi, lt, su, la, pw, sh, cp, ha, co)).1), ((yi j1 (hoursS (pl, me, ins, n, kp, rg, nk, dr, nc, wd) h) (vi, lt, su, la, pw, sh, cp, ha, co)).2.1), ((yi j1 (hoursS (pl, me, ins, n, kp, rg, nk, dr, nc, wd) h) (vi, lt, su, la, pw, sh, cp, ha, co)).2.2.1), ((yi j1 (hoursS (pl, me, ins, n, kp, rg, nk, dr, nc, wd) h) (vi, lt, su, la, pw, sh, cp, ha, co)).2.2.2.1), ((yi j1 (hoursS (pl, me, ins, n, kp, rg, nk, dr, nc, wd) h) (vi, lt, su, la, pw, sh, cp, ha, co)).2.2.2.2.1), ((yi j1 (hoursS (pl, me, ins, n, kp, rg, nk, dr, nc, wd) h) (vi, lt, su, la, pw, sh, cp, ha, co)).2.2.2.2.2.1), ((yi j1 (hoursS (pl, me, ins, n, kp, rg, nk, dr, nc, wd) h) (vi, lt, su, la, pw, sh, cp, ha, co)).2.2.2.2.2.2.1), ((yi j1 (hoursS (pl, me, ins, n, kp, rg, nk, dr, nc, wd) h) (vi, lt, su, la, pw, sh, cp, ha, co)).2.2.2.2.2.2.2.1), ((yi j1 (hoursS (pl, me, ins, n, kp, rg, nk, dr, nc, wd) h) (vi, lt, su, la, pw, sh, cp, ha, co)).2.2.2.2.2.2.2.2))).2.2.2.2.2.2.2.1)), (e4, aZ d 20 (gnF ((hourF (pl, me, ins, n, kp, rg, nk, dr, nc, wd) (h + j1) (((yi j1 (hoursS (pl, me, ins, n, kp, rg, nk, dr, nc, wd) h) (vi, lt, su, la, pw, sh, cp, ha, co)).1), ((yi j1 (hoursS (pl, me, ins, n, kp, rg, nk, dr, nc, wd) h) (vi, lt, su, la, pw, sh, cp, ha, co)).2.1), ((yi j1 (hoursS (pl, me, ins, n, kp, rg, nk, dr, nc, wd) h) (vi, lt, su, la, pw, sh, cp, ha, co)).2.2.1), ((yi j1 (hoursS (pl, me, ins, n, kp, rg, nk, dr, nc, wd) h) (vi, lt, su, la, pw, sh, cp, ha, co)).2.2.2.1), ((yi j1 (hoursS (pl, me, ins, n, kp, rg, nk, dr, nc, wd) h) (vi, lt, su, la, pw, sh, cp, ha, co)).2.2.2.2.1), ((yi j1 (hoursS (pl, me, ins, n, kp, rg, nk, dr, nc, wd) h) (vi, lt, su, la, pw, sh, cp, ha, co)).2.2.2.2.2.1), ((yi j1 (hoursS (pl, me, ins, n, kp, rg, nk, dr, nc, wd) h) (vi, lt, su, la, pw, sh, cp, ha, co)).2.2.2.2.2.2.1), ((yi j1 (hoursS (pl, me, ins, n, kp, rg, nk, dr, nc, wd) h) (vi, lt, su, la, pw, sh, cp, ha, co)).2.2.2.2.2.2.2.1), ((yi j1 (hoursS (pl, me, ins, n, kp, rg, nk, dr, nc, wd) h) (vi, lt, su, la, pw, sh, cp, ha, co)).2.2.2.2.2.2.2.2))).2.2.2.2.2.2.1))), (w0, aI d 6 wd)]) rfl rfl ⟨rfl, by decide, rfl, by decide, by decide⟩ (fun _ => ⟨rfl, by decide⟩) rfl dX2_goBy_8 ?_
      intro _ _
      refine y_iinc (pc := 11) hC 0 dX2_goBy_11 (nI (j1 + 1)) [(2, .int (nI (j1 + 1))), (0, .ref l0), (1, .int (nI m))] rfl (nI_inc _) rfl (by decide) ?_
      refine y_goto (pc := 14) hC dX2_goBy_14 2 (by decide) ?_
      refine y_ws [(l0, .inr (2, [.ref a0, .ref k0, .ref e0, .ref w0, .int (nI (h + (j1 + 1))), .int ((yi (j1 + 1) (hoursS (pl, me, ins, n, kp, rg, nk, dr, nc, wd) h) (vi, lt, su, la, pw, sh, cp, ha, co)).2.2.2.2.2.2.2.2)])), (a0, .inr (3, [.ref a1, .ref a2, .ref a3, .ref a4, .ref a5, .ref a6, .ref a7, .int (nI n)])), (a1, aI d 10 pl), (a2, aI d 10 ((yi (j1 + 1) (hoursS (pl, me, ins, n, kp, rg, nk, dr, nc, wd) h) (vi, lt, su, la, pw, sh, cp, ha, co)).1)), (a3, aZ d 10 me), (a4, aZ d 10 ins), (a5, aI d 10 ((yi (j1 + 1) (hoursS (pl, me, ins, n, kp, rg, nk, dr, nc, wd) h) (vi, lt, su, la, pw, sh, cp, ha, co)).2.1)), (a6, aI d 10 ((yi (j1 + 1) (hoursS (pl, me, ins, n, kp, rg, nk, dr, nc, wd) h) (vi, lt, su, la, pw, sh, cp, ha, co)).2.2.1)), (a7, aI d 10 ((yi (j1 + 1) (hoursS (pl, me, ins, n, kp, rg, nk, dr, nc, wd) h) (vi, lt, su, la, pw, sh, cp, ha, co)).2.2.2.1)), (k0, .inr (0, [.ref k1, .ref k2, .ref k3, .ref k4, .int (nI nk)])), (k1, aI d 6 kp), (k2, aI d 6 rg), (k3, aI d 6 ((yi (j1 + 1) (hoursS (pl, me, ins, n, kp, rg, nk, dr, nc, wd) h) (vi, lt, su, la, pw, sh, cp, ha, co)).2.2.2.2.1)), (k4, aI d 6 ((yi (j1 + 1) (hoursS (pl, me, ins, n, kp, rg, nk, dr, nc, wd) h) (vi, lt, su, la, pw, sh, cp, ha, co)).2.2.2.2.2.1)), (e0, .inr (1, [.ref e1, .ref e2, .ref e3, .ref e4, .int (nI nc)])), (e1, aI d 20 ((yi (j1 + 1) (hoursS (pl, me, ins, n, kp, rg, nk, dr, nc, wd) h) (vi, lt, su, la, pw, sh, cp, ha, co)).2.2.2.2.2.2.1)), (e2, aI d 20 dr), (e3, aI d 20 ((yi (j1 + 1) (hoursS (pl, me, ins, n, kp, rg, nk, dr, nc, wd) h) (vi, lt, su, la, pw, sh, cp, ha, co)).2.2.2.2.2.2.2.1)), (e4, aZ d 20 (gnF ((yi (j1 + 1) (hoursS (pl, me, ins, n, kp, rg, nk, dr, nc, wd) h) (vi, lt, su, la, pw, sh, cp, ha, co)).2.2.2.2.2.2.1))), (w0, aI d 6 wd)] rfl ?_
      exact ihj1 (j1 + 1) (by omega)
  refine y_lv [(2, .int 0), (0, .ref l0), (1, .int (nI m))] [0, 1, 2] rfl ?_
  exact lpj1 m 0 (by omega)
theorem n_X2_goBy : yyN yX2_goBy RX2 1 := by refine ⟨rfl, ?_, ?_, ?_⟩ <;> decide +kernel
set_option maxHeartbeats 4000000 in
set_option maxRecDepth 100000 in
theorem c_X2_total (l : Launch) (d : yyD) (l0 : Nat) (a0 : Nat) (a1 : Nat) (a2 : Nat) (a3 : Nat) (a4 : Nat) (a5 : Nat) (a6 : Nat) (a7 : Nat) (k0 : Nat) (k1 : Nat) (k2 : Nat) (k3 : Nat) (k4 : Nat) (e0 : Nat) (e1 : Nat) (e2 : Nat) (e3 : Nat) (e4 : Nat) (w0 : Nat) (pl : fI) (vi : fI) (me : fB) (ins : fB) (lt : fI) (su : fI) (la : fI) (kp : fI) (rg : fI) (pw : fI) (sh : fI) (cp : fI) (dr : fI) (ha : fI) (wd : fI) (co : Int32) (h : Nat) (n : Nat) (nk : Nat) (nc : Nat) (w : Nat) (hn : n ≤ 10) (hk : nk ≤ 6) (hc : nc ≤ 20) (hh : h < 1000000) (hw : w ≤ 9) : yyI l yX2_total cX2_total 2 (some .int) { frames := 2, cells := 0, slots := 0, locals := 43 } d [.ref l0, .int (nI w)] [(l0, .inr (2, [.ref a0, .ref k0, .ref e0, .ref w0, .int (nI h), .int co])), (a0, .inr (3, [.ref a1, .ref a2, .ref a3, .ref a4, .ref a5, .ref a6, .ref a7, .int (nI n)])), (a1, aI d 10 pl), (a2, aI d 10 vi), (a3, aZ d 10 me), (a4, aZ d 10 ins), (a5, aI d 10 lt), (a6, aI d 10 su), (a7, aI d 10 la), (k0, .inr (0, [.ref k1, .ref k2, .ref k3, .ref k4, .int (nI nk)])), (k1, aI d 6 kp), (k2, aI d 6 rg), (k3, aI d 6 pw), (k4, aI d 6 sh), (e0, .inr (1, [.ref e1, .ref e2, .ref e3, .ref e4, .int (nI nc)])), (e1, aI d 20 cp), (e2, aI d 20 dr), (e3, aI d 20 ha), (e4, aZ d 20 (gnF cp)), (w0, aI d 6 wd)] [(l0, .inr (2, [.ref a0, .ref k0, .ref e0, .ref w0, .int (nI h), .int co])), (a0, .inr (3, [.ref a1, .ref a2, .ref a3, .ref a4, .ref a5, .ref a6, .ref a7, .int (nI n)])), (a1, aI d 10 pl), (a2, aI d 10 vi), (a3, aZ d 10 me), (a4, aZ d 10 ins), (a5, aI d 10 lt), (a6, aI d 10 su), (a7, aI d 10 la), (k0, .inr (0, [.ref k1, .ref k2, .ref k3, .ref k4, .int (nI nk)])), (k1, aI d 6 kp), (k2, aI d 6 rg), (k3, aI d 6 pw), (k4, aI d 6 sh), (e0, .inr (1, [.ref e1, .ref e2, .ref e3, .ref e4, .int (nI nc)])), (e1, aI d 20 cp), (e2, aI d 20 dr), (e3, aI d 20 ha), (e4, aZ d 20 (gnF cp)), (w0, aI d 6 wd)] (totF (pl, me, ins, n, kp, rg, nk, dr, nc, wd) h (vi, lt, su, la, pw, sh, cp, ha, co) w) := by
  refine yyI_of (own := RX2) [(0, .ref l0), (1, .int (nI w))] (by decide +kernel) rfl (Nat.le_of_ble_eq_true rfl) rfl ?_
  intro G Q hQ hGL hC hGA
  refine y_iload_n (pc := 0) hC 1 dX2_total_0 rfl ?_
  have hs1 : w = 0 ∨ w = 1 ∨ w = 2 ∨ w = 3 ∨ w = 4 ∨ w = 5 ∨ w = 6 ∨ w = 7 ∨ w = 8 ∨ w = 9 := by omega
  rcases hs1 with rfl | rfl | rfl | rfl | rfl | rfl | rfl | rfl | rfl | rfl
  · refine y_tsw (pc := 1) (off := 51) hC dX2_total_1 52 (by decide +kernel) (by decide +kernel) (by decide +kernel) (by decide) ?_
    refine y_aload_n (pc := 52) hC 0 dX2_total_52 rfl ?_
    refine y_get (pc := 53) hC 0 4 dX2_total_53 rfl rfl inX2 (by decide) kw_1_120 rfl rfl ?_
    exact y_iret hC hQ rfl rfl rfl (nb rfl) (nb rfl) dX2_total_56
  · refine y_tsw (pc := 1) (off := 56) hC dX2_total_1 57 (by decide +kernel) (by decide +kernel) (by decide +kernel) (by decide) ?_
    refine y_aload_n (pc := 57) hC 0 dX2_total_57 rfl ?_
    refine y_get (pc := 58) hC 0 4 dX2_total_58 rfl rfl inX2 (by decide) kw_1_120 rfl rfl ?_
    refine y_bipush (pc := 61) hC dX2_total_61 24 (by decide) ?_
    refine y_irem (pc := 63) hC dX2_total_63 (nI (h % 24)) (pk_rem (by omega) (by decide) (by decide)) (by decide) ?_
    exact y_iret hC hQ rfl rfl rfl (nb rfl) (nb rfl) dX2_total_64
  · refine y_tsw (pc := 1) (off := 64) hC dX2_total_1 65 (by decide +kernel) (by decide +kernel) (by decide +kernel) (by decide) ?_
    refine y_aload_n (pc := 65) hC 0 dX2_total_65 rfl ?_
    refine y_get (pc := 66) hC 0 5 dX2_total_66 rfl rfl inX2 (by decide) kw_1_121 rfl rfl ?_
    exact y_iret hC hQ rfl rfl rfl (nb rfl) (nb rfl) dX2_total_69
  · refine y_tsw (pc := 1) (off := 69) hC dX2_total_1 70 (by decide +kernel) (by decide +kernel) (by decide +kernel) (by decide) ?_
    refine y_aload_n (pc := 70) hC 0 dX2_total_70 rfl ?_
    refine y_get (pc := 71) hC 0 0 dX2_total_71 rfl rfl inX2 (by decide) kw_1_112 rfl rfl ?_
    refine y_cI (pc := 74) (As := []) (st := []) hC (c_X3_sumOfVines (gL G) d a0 a1 a2 a3 a4 a5 a6 a7 vi n (by omega)) kw_1_150 kw_1_165 kw_1_148 kw_1_149 kw_1_3 n_X3_sumOfVines ⟨⟨nb rfl, nb rfl⟩, ⟨nb rfl, nb rfl⟩, nb rfl⟩ [1, 3] [0, 2, 4, 5, 6, 7, 8, 9, 10, 11, 12, 13, 14, 15, 16, 17, 18, 19] [0, 18, 1, 19, 2, 3, 4, 5, 6, 7, 8, 9, 10, 11, 12, 13, 14, 15, 16, 17] 0 [(l0, .inr (2, [.ref a0, .ref k0, .ref e0, .ref w0, .int (nI h), .int co])), (a1, aI d 10 pl), (a3, aZ d 10 me), (a4, aZ d 10 ins), (a5, aI d 10 lt), (a6, aI d 10 su), (a7, aI d 10 la), (k0, .inr (0, [.ref k1, .ref k2, .ref k3, .ref k4, .int (nI nk)])), (k1, aI d 6 kp), (k2, aI d 6 rg), (k3, aI d 6 pw), (k4, aI d 6 sh), (e0, .inr (1, [.ref e1, .ref e2, .ref e3, .ref e4, .int (nI nc)])), (e1, aI d 20 cp), (e2, aI d 20 dr), (e3, aI d 20 ha), (e4, aZ d 20 (gnF cp)), (w0, aI d 6 wd)] [(l0, .inr (2, [.ref a0, .ref k0, .ref e0, .ref w0, .int (nI h), .int co])), (a0, .inr (3, [.ref a1, .ref a2, .ref a3, .ref a4, .ref a5, .ref a6, .ref a7, .int (nI n)])), (a1, aI d 10 pl), (a2, aI d 10 vi), (a3, aZ d 10 me), (a4, aZ d 10 ins), (a5, aI d 10 lt), (a6, aI d 10 su), (a7, aI d 10 la), (k0, .inr (0, [.ref k1, .ref k2, .ref k3, .ref k4, .int (nI nk)])), (k1, aI d 6 kp), (k2, aI d 6 rg), (k3, aI d 6 pw), (k4, aI d 6 sh), (e0, .inr (1, [.ref e1, .ref e2, .ref e3, .ref e4, .int (nI nc)])), (e1, aI d 20 cp), (e2, aI d 20 dr), (e3, aI d 20 ha), (e4, aZ d 20 (gnF cp)), (w0, aI d 6 wd)] rfl rfl ⟨rfl, by decide, rfl, by decide, by decide⟩ ⟨rfl, by decide⟩ rfl dX2_total_74 ?_
    exact y_iret hC hQ rfl rfl rfl (nb rfl) (nb rfl) dX2_total_77
  · refine y_tsw (pc := 1) (off := 77) hC dX2_total_1 78 (by decide +kernel) (by decide +kernel) (by decide +kernel) (by decide) ?_
    refine y_aload_n (pc := 78) hC 0 dX2_total_78 rfl ?_
    refine y_get (pc := 79) hC 0 0 dX2_total_79 rfl rfl inX2 (by decide) kw_1_112 rfl rfl ?_
    refine y_cI (pc := 82) (As := []) (st := []) hC (c_X3_sumOfLostInAll (gL G) d a0 a1 a2 a3 a4 a5 a6 a7 la n (by omega)) kw_1_169 kw_1_166 kw_1_167 kw_1_168 kw_1_3 n_X3_sumOfLostInAll ⟨⟨nb rfl, nb rfl⟩, ⟨nb rfl, nb rfl⟩, nb rfl⟩ [1, 8] [0, 2, 3, 4, 5, 6, 7, 9, 10, 11, 12, 13, 14, 15, 16, 17, 18, 19] [0, 18, 1, 2, 3, 4, 5, 6, 19, 7, 8, 9, 10, 11, 12, 13, 14, 15, 16, 17] 0 [(l0, .inr (2, [.ref a0, .ref k0, .ref e0, .ref w0, .int (nI h), .int co])), (a1, aI d 10 pl), (a2, aI d 10 vi), (a3, aZ d 10 me), (a4, aZ d 10 ins), (a5, aI d 10 lt), (a6, aI d 10 su), (k0, .inr (0, [.ref k1, .ref k2, .ref k3, .ref k4, .int (nI nk)])), (k1, aI d 6 kp), (k2, aI d 6 rg), (k3, aI d 6 pw), (k4, aI d 6 sh), (e0, .inr (1, [.ref e1, .ref e2, .ref e3, .ref e4, .int (nI nc)])), (e1, aI d 20 cp), (e2, aI d 20 dr), (e3, aI d 20 ha), (e4, aZ d 20 (gnF cp)), (w0, aI d 6 wd)] [(l0, .inr (2, [.ref a0, .ref k0, .ref e0, .ref w0, .int (nI h), .int co])), (a0, .inr (3, [.ref a1, .ref a2, .ref a3, .ref a4, .ref a5, .ref a6, .ref a7, .int (nI n)])), (a1, aI d 10 pl), (a2, aI d 10 vi), (a3, aZ d 10 me), (a4, aZ d 10 ins), (a5, aI d 10 lt), (a6, aI d 10 su), (a7, aI d 10 la), (k0, .inr (0, [.ref k1, .ref k2, .ref k3, .ref k4, .int (nI nk)])), (k1, aI d 6 kp), (k2, aI d 6 rg), (k3, aI d 6 pw), (k4, aI d 6 sh), (e0, .inr (1, [.ref e1, .ref e2, .ref e3, .ref e4, .int (nI nc)])), (e1, aI d 20 cp), (e2, aI d 20 dr), (e3, aI d 20 ha), (e4, aZ d 20 (gnF cp)), (w0, aI d 6 wd)] rfl rfl ⟨rfl, by decide, rfl, by decide, by decide⟩ ⟨rfl, by decide⟩ rfl dX2_total_82 ?_
    exact y_iret hC hQ rfl rfl rfl (nb rfl) (nb rfl) dX2_total_85
  · refine y_tsw (pc := 1) (off := 85) hC dX2_total_1 86 (by decide +kernel) (by decide +kernel) (by decide +kernel) (by decide) ?_
    refine y_aload_n (pc := 86) hC 0 dX2_total_86 rfl ?_
    refine y_get (pc := 87) hC 0 0 dX2_total_87 rfl rfl inX2 (by decide) kw_1_112 rfl rfl ?_
    refine y_cI (pc := 90) (As := []) (st := []) hC (c_X3_sumOfSuits (gL G) d a0 a1 a2 a3 a4 a5 a6 a7 su n (by omega)) kw_1_173 kw_1_170 kw_1_171 kw_1_172 kw_1_3 n_X3_sumOfSuits ⟨⟨nb rfl, nb rfl⟩, ⟨nb rfl, nb rfl⟩, nb rfl⟩ [1, 7] [0, 2, 3, 4, 5, 6, 8, 9, 10, 11, 12, 13, 14, 15, 16, 17, 18, 19] [0, 18, 1, 2, 3, 4, 5, 19, 6, 7, 8, 9, 10, 11, 12, 13, 14, 15, 16, 17] 0 [(l0, .inr (2, [.ref a0, .ref k0, .ref e0, .ref w0, .int (nI h), .int co])), (a1, aI d 10 pl), (a2, aI d 10 vi), (a3, aZ d 10 me), (a4, aZ d 10 ins), (a5, aI d 10 lt), (a7, aI d 10 la), (k0, .inr (0, [.ref k1, .ref k2, .ref k3, .ref k4, .int (nI nk)])), (k1, aI d 6 kp), (k2, aI d 6 rg), (k3, aI d 6 pw), (k4, aI d 6 sh), (e0, .inr (1, [.ref e1, .ref e2, .ref e3, .ref e4, .int (nI nc)])), (e1, aI d 20 cp), (e2, aI d 20 dr), (e3, aI d 20 ha), (e4, aZ d 20 (gnF cp)), (w0, aI d 6 wd)] [(l0, .inr (2, [.ref a0, .ref k0, .ref e0, .ref w0, .int (nI h), .int co])), (a0, .inr (3, [.ref a1, .ref a2, .ref a3, .ref a4, .ref a5, .ref a6, .ref a7, .int (nI n)])), (a1, aI d 10 pl), (a2, aI d 10 vi), (a3, aZ d 10 me), (a4, aZ d 10 ins), (a5, aI d 10 lt), (a6, aI d 10 su), (a7, aI d 10 la), (k0, .inr (0, [.ref k1, .ref k2, .ref k3, .ref k4, .int (nI nk)])), (k1, aI d 6 kp), (k2, aI d 6 rg), (k3, aI d 6 pw), (k4, aI d 6 sh), (e0, .inr (1, [.ref e1, .ref e2, .ref e3, .ref e4, .int (nI nc)])), (e1, aI d 20 cp), (e2, aI d 20 dr), (e3, aI d 20 ha), (e4, aZ d 20 (gnF cp)), (w0, aI d 6 wd)] rfl rfl ⟨rfl, by decide, rfl, by decide, by decide⟩ ⟨rfl, by decide⟩ rfl dX2_total_90 ?_
    exact y_iret hC hQ rfl rfl rfl (nb rfl) (nb rfl) dX2_total_93
  · refine y_tsw (pc := 1) (off := 93) hC dX2_total_1 94 (by decide +kernel) (by decide +kernel) (by decide +kernel) (by decide) ?_
    refine y_aload_n (pc := 94) hC 0 dX2_total_94 rfl ?_
    refine y_get (pc := 95) hC 0 0 dX2_total_95 rfl rfl inX2 (by decide) kw_1_112 rfl rfl ?_
    refine y_cI (pc := 98) (As := []) (st := []) hC (c_X3_members (gL G) d a0 a1 a2 a3 a4 a5 a6 a7 me n (by omega)) kw_1_177 kw_1_174 kw_1_175 kw_1_176 kw_1_3 n_X3_members ⟨⟨nb rfl, nb rfl⟩, ⟨nb rfl, nb rfl⟩, nb rfl⟩ [1, 4] [0, 2, 3, 5, 6, 7, 8, 9, 10, 11, 12, 13, 14, 15, 16, 17, 18, 19] [0, 18, 1, 2, 19, 3, 4, 5, 6, 7, 8, 9, 10, 11, 12, 13, 14, 15, 16, 17] 0 [(l0, .inr (2, [.ref a0, .ref k0, .ref e0, .ref w0, .int (nI h), .int co])), (a1, aI d 10 pl), (a2, aI d 10 vi), (a4, aZ d 10 ins), (a5, aI d 10 lt), (a6, aI d 10 su), (a7, aI d 10 la), (k0, .inr (0, [.ref k1, .ref k2, .ref k3, .ref k4, .int (nI nk)])), (k1, aI d 6 kp), (k2, aI d 6 rg), (k3, aI d 6 pw), (k4, aI d 6 sh), (e0, .inr (1, [.ref e1, .ref e2, .ref e3, .ref e4, .int (nI nc)])), (e1, aI d 20 cp), (e2, aI d 20 dr), (e3, aI d 20 ha), (e4, aZ d 20 (gnF cp)), (w0, aI d 6 wd)] [(l0, .inr (2, [.ref a0, .ref k0, .ref e0, .ref w0, .int (nI h), .int co])), (a0, .inr (3, [.ref a1, .ref a2, .ref a3, .ref a4, .ref a5, .ref a6, .ref a7, .int (nI n)])), (a1, aI d 10 pl), (a2, aI d 10 vi), (a3, aZ d 10 me), (a4, aZ d 10 ins), (a5, aI d 10 lt), (a6, aI d 10 su), (a7, aI d 10 la), (k0, .inr (0, [.ref k1, .ref k2, .ref k3, .ref k4, .int (nI nk)])), (k1, aI d 6 kp), (k2, aI d 6 rg), (k3, aI d 6 pw), (k4, aI d 6 sh), (e0, .inr (1, [.ref e1, .ref e2, .ref e3, .ref e4, .int (nI nc)])), (e1, aI d 20 cp), (e2, aI d 20 dr), (e3, aI d 20 ha), (e4, aZ d 20 (gnF cp)), (w0, aI d 6 wd)] rfl rfl ⟨rfl, by decide, rfl, by decide, by decide⟩ ⟨rfl, by decide⟩ rfl dX2_total_98 ?_
    exact y_iret hC hQ rfl rfl rfl (nb rfl) (nb rfl) dX2_total_101
  · refine y_tsw (pc := 1) (off := 101) hC dX2_total_1 102 (by decide +kernel) (by decide +kernel) (by decide +kernel) (by decide) ?_
    refine y_aload_n (pc := 102) hC 0 dX2_total_102 rfl ?_
    refine y_get (pc := 103) hC 0 0 dX2_total_103 rfl rfl inX2 (by decide) kw_1_112 rfl rfl ?_
    refine y_cI (pc := 106) (As := []) (st := []) hC (c_X3_insuredOnes (gL G) d a0 a1 a2 a3 a4 a5 a6 a7 ins n (by omega)) kw_1_185 kw_1_182 kw_1_183 kw_1_184 kw_1_3 n_X3_insuredOnes ⟨⟨nb rfl, nb rfl⟩, ⟨nb rfl, nb rfl⟩, nb rfl⟩ [1, 5] [0, 2, 3, 4, 6, 7, 8, 9, 10, 11, 12, 13, 14, 15, 16, 17, 18, 19] [0, 18, 1, 2, 3, 19, 4, 5, 6, 7, 8, 9, 10, 11, 12, 13, 14, 15, 16, 17] 0 [(l0, .inr (2, [.ref a0, .ref k0, .ref e0, .ref w0, .int (nI h), .int co])), (a1, aI d 10 pl), (a2, aI d 10 vi), (a3, aZ d 10 me), (a5, aI d 10 lt), (a6, aI d 10 su), (a7, aI d 10 la), (k0, .inr (0, [.ref k1, .ref k2, .ref k3, .ref k4, .int (nI nk)])), (k1, aI d 6 kp), (k2, aI d 6 rg), (k3, aI d 6 pw), (k4, aI d 6 sh), (e0, .inr (1, [.ref e1, .ref e2, .ref e3, .ref e4, .int (nI nc)])), (e1, aI d 20 cp), (e2, aI d 20 dr), (e3, aI d 20 ha), (e4, aZ d 20 (gnF cp)), (w0, aI d 6 wd)] [(l0, .inr (2, [.ref a0, .ref k0, .ref e0, .ref w0, .int (nI h), .int co])), (a0, .inr (3, [.ref a1, .ref a2, .ref a3, .ref a4, .ref a5, .ref a6, .ref a7, .int (nI n)])), (a1, aI d 10 pl), (a2, aI d 10 vi), (a3, aZ d 10 me), (a4, aZ d 10 ins), (a5, aI d 10 lt), (a6, aI d 10 su), (a7, aI d 10 la), (k0, .inr (0, [.ref k1, .ref k2, .ref k3, .ref k4, .int (nI nk)])), (k1, aI d 6 kp), (k2, aI d 6 rg), (k3, aI d 6 pw), (k4, aI d 6 sh), (e0, .inr (1, [.ref e1, .ref e2, .ref e3, .ref e4, .int (nI nc)])), (e1, aI d 20 cp), (e2, aI d 20 dr), (e3, aI d 20 ha), (e4, aZ d 20 (gnF cp)), (w0, aI d 6 wd)] rfl rfl ⟨rfl, by decide, rfl, by decide, by decide⟩ ⟨rfl, by decide⟩ rfl dX2_total_106 ?_
    exact y_iret hC hQ rfl rfl rfl (nb rfl) (nb rfl) dX2_total_109
  · refine y_tsw (pc := 1) (off := 109) hC dX2_total_1 110 (by decide +kernel) (by decide +kernel) (by decide +kernel) (by decide) ?_
    refine y_aload_n (pc := 110) hC 0 dX2_total_110 rfl ?_
    refine y_get (pc := 111) hC 0 2 dX2_total_111 rfl rfl inX2 (by decide) kw_1_116 rfl rfl ?_
    refine y_cI (pc := 114) (As := []) (st := []) hC (c_X1_there (gL G) d e0 e1 e2 e3 e4 cp nc (by omega)) kw_1_189 kw_1_186 kw_1_187 kw_1_188 kw_1_5 n_X1_there ⟨⟨nb rfl, nb rfl⟩, ⟨nb rfl, nb rfl⟩, nb rfl⟩ [14, 18] [0, 1, 2, 3, 4, 5, 6, 7, 8, 9, 10, 11, 12, 13, 15, 16, 17, 19] [0, 1, 2, 3, 4, 5, 6, 7, 8, 9, 10, 11, 12, 13, 18, 14, 15, 16, 19, 17] 0 [(l0, .inr (2, [.ref a0, .ref k0, .ref e0, .ref w0, .int (nI h), .int co])), (a0, .inr (3, [.ref a1, .ref a2, .ref a3, .ref a4, .ref a5, .ref a6, .ref a7, .int (nI n)])), (a1, aI d 10 pl), (a2, aI d 10 vi), (a3, aZ d 10 me), (a4, aZ d 10 ins), (a5, aI d 10 lt), (a6, aI d 10 su), (a7, aI d 10 la), (k0, .inr (0, [.ref k1, .ref k2, .ref k3, .ref k4, .int (nI nk)])), (k1, aI d 6 kp), (k2, aI d 6 rg), (k3, aI d 6 pw), (k4, aI d 6 sh), (e1, aI d 20 cp), (e2, aI d 20 dr), (e3, aI d 20 ha), (w0, aI d 6 wd)] [(l0, .inr (2, [.ref a0, .ref k0, .ref e0, .ref w0, .int (nI h), .int co])), (a0, .inr (3, [.ref a1, .ref a2, .ref a3, .ref a4, .ref a5, .ref a6, .ref a7, .int (nI n)])), (a1, aI d 10 pl), (a2, aI d 10 vi), (a3, aZ d 10 me), (a4, aZ d 10 ins), (a5, aI d 10 lt), (a6, aI d 10 su), (a7, aI d 10 la), (k0, .inr (0, [.ref k1, .ref k2, .ref k3, .ref k4, .int (nI nk)])), (k1, aI d 6 kp), (k2, aI d 6 rg), (k3, aI d 6 pw), (k4, aI d 6 sh), (e0, .inr (1, [.ref e1, .ref e2, .ref e3, .ref e4, .int (nI nc)])), (e1, aI d 20 cp), (e2, aI d 20 dr), (e3, aI d 20 ha), (e4, aZ d 20 (gnF cp)), (w0, aI d 6 wd)] rfl rfl ⟨rfl, by decide, rfl, by decide, by decide⟩ ⟨rfl, by decide⟩ rfl dX2_total_114 ?_
    exact y_iret hC hQ rfl rfl rfl (nb rfl) (nb rfl) dX2_total_117
  · refine y_tsd (pc := 1) hC dX2_total_1 118 (by decide +kernel) (by decide) ?_
    refine y_aload_n (pc := 118) hC 0 dX2_total_118 rfl ?_
    refine y_get (pc := 119) hC 0 1 dX2_total_119 rfl rfl inX2 (by decide) kw_1_114 rfl rfl ?_
    refine y_cI (pc := 122) (As := []) (st := []) hC (c_X0_sumOfShots (gL G) d k0 k1 k2 k3 k4 sh nk (by omega)) kw_1_193 kw_1_190 kw_1_191 kw_1_192 kw_1_4 n_X0_sumOfShots ⟨⟨nb rfl, nb rfl⟩, ⟨nb rfl, nb rfl⟩, nb rfl⟩ [9, 13] [0, 1, 2, 3, 4, 5, 6, 7, 8, 10, 11, 12, 14, 15, 16, 17, 18, 19] [0, 1, 2, 3, 4, 5, 6, 7, 8, 18, 9, 10, 11, 19, 12, 13, 14, 15, 16, 17] 0 [(l0, .inr (2, [.ref a0, .ref k0, .ref e0, .ref w0, .int (nI h), .int co])), (a0, .inr (3, [.ref a1, .ref a2, .ref a3, .ref a4, .ref a5, .ref a6, .ref a7, .int (nI n)])), (a1, aI d 10 pl), (a2, aI d 10 vi), (a3, aZ d 10 me), (a4, aZ d 10 ins), (a5, aI d 10 lt), (a6, aI d 10 su), (a7, aI d 10 la), (k1, aI d 6 kp), (k2, aI d 6 rg), (k3, aI d 6 pw), (e0, .inr (1, [.ref e1, .ref e2, .ref e3, .ref e4, .int (nI nc)])), (e1, aI d 20 cp), (e2, aI d 20 dr), (e3, aI d 20 ha), (e4, aZ d 20 (gnF cp)), (w0, aI d 6 wd)] [(l0, .inr (2, [.ref a0, .ref k0, .ref e0, .ref w0, .int (nI h), .int co])), (a0, .inr (3, [.ref a1, .ref a2, .ref a3, .ref a4, .ref a5, .ref a6, .ref a7, .int (nI n)])), (a1, aI d 10 pl), (a2, aI d 10 vi), (a3, aZ d 10 me), (a4, aZ d 10 ins), (a5, aI d 10 lt), (a6, aI d 10 su), (a7, aI d 10 la), (k0, .inr (0, [.ref k1, .ref k2, .ref k3, .ref k4, .int (nI nk)])), (k1, aI d 6 kp), (k2, aI d 6 rg), (k3, aI d 6 pw), (k4, aI d 6 sh), (e0, .inr (1, [.ref e1, .ref e2, .ref e3, .ref e4, .int (nI nc)])), (e1, aI d 20 cp), (e2, aI d 20 dr), (e3, aI d 20 ha), (e4, aZ d 20 (gnF cp)), (w0, aI d 6 wd)] rfl rfl ⟨rfl, by decide, rfl, by decide, by decide⟩ ⟨rfl, by decide⟩ rfl dX2_total_122 ?_
    exact y_iret hC hQ rfl rfl rfl (nb rfl) (nb rfl) dX2_total_125
theorem n_X2_total : yyN yX2_total RX2 1 := by refine ⟨rfl, ?_, ?_, ?_⟩ <;> decide +kernel
set_option maxHeartbeats 4000000 in
set_option maxRecDepth 100000 in
theorem c_X2_copyFrom (l : Launch) (d : yyD) (l0 : Nat) (a0 : Nat) (a1 : Nat) (a2 : Nat) (a3 : Nat) (a4 : Nat) (a5 : Nat) (a6 : Nat) (a7 : Nat) (k0 : Nat) (k1 : Nat) (k2 : Nat) (k3 : Nat) (k4 : Nat) (e0 : Nat) (e1 : Nat) (e2 : Nat) (e3 : Nat) (e4 : Nat) (w0 : Nat) (pl : fI) (vi : fI) (me : fB) (ins : fB) (lt : fI) (su : fI) (la : fI) (kp : fI) (rg : fI) (pw : fI) (sh : fI) (cp : fI) (dr : fI) (ha : fI) (wd : fI) (co : Int32) (h : Nat) (n : Nat) (nk : Nat) (nc : Nat) (zl0 : Nat) (za0 : Nat) (za1 : Nat) (za2 : Nat) (za3 : Nat) (za4 : Nat) (za5 : Nat) (za6 : Nat) (za7 : Nat) (zk0 : Nat) (zk1 : Nat) (zk2 : Nat) (zk3 : Nat) (zk4 : Nat) (ze0 : Nat) (ze1 : Nat) (ze2 : Nat) (ze3 : Nat) (ze4 : Nat) (zw0 : Nat) (zpl : fI) (zvi : fI) (zme : fB) (zins : fB) (zlt : fI) (zsu : fI) (zla : fI) (zkp : fI) (zrg : fI) (zpw : fI) (zsh : fI) (zcp : fI) (zdr : fI) (zha : fI) (zwd : fI) (zco : Int32) (zh : Nat) (zn : Nat) (znk : Nat) (znc : Nat)  : yyV (S := Unit) l yX2_copyFrom cX2_copyFrom 2 { frames := 2, cells := 0, slots := 0, locals := 39 } d [.ref l0, .ref zl0] [(l0, .inr (2, [.ref a0, .ref k0, .ref e0, .ref w0, .int (nI h), .int co])), (a0, .inr (3, [.ref a1, .ref a2, .ref a3, .ref a4, .ref a5, .ref a6, .ref a7, .int (nI n)])), (a1, aI d 10 pl), (a2, aI d 10 vi), (a3, aZ d 10 me), (a4, aZ d 10 ins), (a5, aI d 10 lt), (a6, aI d 10 su), (a7, aI d 10 la), (k0, .inr (0, [.ref k1, .ref k2, .ref k3, .ref k4, .int (nI nk)])), (k1, aI d 6 kp), (k2, aI d 6 rg), (k3, aI d 6 pw), (k4, aI d 6 sh), (e0, .inr (1, [.ref e1, .ref e2, .ref e3, .ref e4, .int (nI nc)])), (e1, aI d 20 cp), (e2, aI d 20 dr), (e3, aI d 20 ha), (e4, aZ d 20 (gnF cp)), (w0, aI d 6 wd), (zl0, .inr (2, [.ref za0, .ref zk0, .ref ze0, .ref zw0, .int (nI zh), .int zco])), (za0, .inr (3, [.ref za1, .ref za2, .ref za3, .ref za4, .ref za5, .ref za6, .ref za7, .int (nI zn)])), (za1, aI d 10 zpl), (za2, aI d 10 zvi), (za3, aZ d 10 zme), (za4, aZ d 10 zins), (za5, aI d 10 zlt), (za6, aI d 10 zsu), (za7, aI d 10 zla), (zk0, .inr (0, [.ref zk1, .ref zk2, .ref zk3, .ref zk4, .int (nI znk)])), (zk1, aI d 6 zkp), (zk2, aI d 6 zrg), (zk3, aI d 6 zpw), (zk4, aI d 6 zsh), (ze0, .inr (1, [.ref ze1, .ref ze2, .ref ze3, .ref ze4, .int (nI znc)])), (ze1, aI d 20 zcp), (ze2, aI d 20 zdr), (ze3, aI d 20 zha), (ze4, aZ d 20 (gnF zcp)), (zw0, aI d 6 zwd)] (fun _ => True) (fun _ => [(l0, .inr (2, [.ref a0, .ref k0, .ref e0, .ref w0, .int (nI zh), .int zco])), (a0, .inr (3, [.ref a1, .ref a2, .ref a3, .ref a4, .ref a5, .ref a6, .ref a7, .int (nI zn)])), (a1, aI d 10 zpl), (a2, aI d 10 zvi), (a3, aZ d 10 zme), (a4, aZ d 10 zins), (a5, aI d 10 zlt), (a6, aI d 10 zsu), (a7, aI d 10 zla), (k0, .inr (0, [.ref k1, .ref k2, .ref k3, .ref k4, .int (nI znk)])), (k1, aI d 6 zkp), (k2, aI d 6 zrg), (k3, aI d 6 zpw), (k4, aI d 6 zsh), (e0, .inr (1, [.ref e1, .ref e2, .ref e3, .ref e4, .int (nI znc)])), (e1, aI d 20 zcp), (e2, aI d 20 zdr), (e3, aI d 20 zha), (e4, aZ d 20 (gnF zcp)), (w0, aI d 6 zwd), (zl0, .inr (2, [.ref za0, .ref zk0, .ref ze0, .ref zw0, .int (nI zh), .int zco])), (za0, .inr (3, [.ref za1, .ref za2, .ref za3, .ref za4, .ref za5, .ref za6, .ref za7, .int (nI zn)])), (za1, aI d 10 zpl), (za2, aI d 10 zvi), (za3, aZ d 10 zme), (za4, aZ d 10 zins), (za5, aI d 10 zlt), (za6, aI d 10 zsu), (za7, aI d 10 zla), (zk0, .inr (0, [.ref zk1, .ref zk2, .ref zk3, .ref zk4, .int (nI znk)])), (zk1, aI d 6 zkp), (zk2, aI d 6 zrg), (zk3, aI d 6 zpw), (zk4, aI d 6 zsh), (ze0, .inr (1, [.ref ze1, .ref ze2, .ref ze3, .ref ze4, .int (nI znc)])), (ze1, aI d 20 zcp), (ze2, aI d 20 zdr), (ze3, aI d 20 zha), (ze4, aZ d 20 (gnF zcp)), (zw0, aI d 6 zwd)]) := by
  refine yyV_of (own := RX2) [(0, .ref l0), (1, .ref zl0)] (by decide +kernel) rfl (Nat.le_of_ble_eq_true rfl) rfl ?_
  intro G Q hQ hGL hC hGA hin
  refine y_aload_n (pc := 0) hC 0 dX2_copyFrom_0 rfl ?_
  refine y_get (pc := 1) hC 0 0 dX2_copyFrom_1 rfl rfl inX2 (by decide) kw_1_112 rfl rfl ?_
  refine y_aload_n (pc := 4) hC 1 dX2_copyFrom_4 rfl ?_
  refine y_get (pc := 5) hC 20 0 dX2_copyFrom_5 rfl rfl inX2 (by decide) kw_1_112 rfl rfl ?_
  refine y_cV (pc := 8) (As := [.ref za0]) (st := []) hC (c_X3_copyFrom (gL G) d a0 a1 a2 a3 a4 a5 a6 a7 za0 za1 za2 za3 za4 za5 za6 za7 pl vi me ins lt su la zpl zvi zme zins zlt zsu zla n zn) kw_3_18 kw_3_15 kw_3_16 kw_3_17 kw_1_3 n_X3_copyFrom ⟨⟨nb rfl, nb rfl⟩, ⟨nb rfl, nb rfl⟩, nb rfl⟩ [1, 2, 3, 4, 5, 6, 7, 8, 21, 22, 23, 24, 25, 26, 27, 28] [0, 9, 10, 11, 12, 13, 14, 15, 16, 17, 18, 19, 20, 29, 30, 31, 32, 33, 34, 35, 36, 37, 38, 39] [0, 24, 25, 26, 27, 28, 29, 30, 31, 1, 2, 3, 4, 5, 6, 7, 8, 9, 10, 11, 12, 32, 33, 34, 35, 36, 37, 38, 39, 13, 14, 15, 16, 17, 18, 19, 20, 21, 22, 23] 0 [(l0, .inr (2, [.ref a0, .ref k0, .ref e0, .ref w0, .int (nI h), .int co])), (k0, .inr (0, [.ref k1, .ref k2, .ref k3, .ref k4, .int (nI nk)])), (k1, aI d 6 kp), (k2, aI d 6 rg), (k3, aI d 6 pw), (k4, aI d 6 sh), (e0, .inr (1, [.ref e1, .ref e2, .ref e3, .ref e4, .int (nI nc)])), (e1, aI d 20 cp), (e2, aI d 20 dr), (e3, aI d 20 ha), (e4, aZ d 20 (gnF cp)), (w0, aI d 6 wd), (zl0, .inr (2, [.ref za0, .ref zk0, .ref ze0, .ref zw0, .int (nI zh), .int zco])), (zk0, .inr (0, [.ref zk1, .ref zk2, .ref zk3, .ref zk4, .int (nI znk)])), (zk1, aI d 6 zkp), (zk2, aI d 6 zrg), (zk3, aI d 6 zpw), (zk4, aI d 6 zsh), (ze0, .inr (1, [.ref ze1, .ref ze2, .ref ze3, .ref ze4, .int (nI znc)])), (ze1, aI d 20 zcp), (ze2, aI d 20 zdr), (ze3, aI d 20 zha), (ze4, aZ d 20 (gnF zcp)), (zw0, aI d 6 zwd)] (fun _ => [(l0, .inr (2, [.ref a0, .ref k0, .ref e0, .ref w0, .int (nI h), .int co])), (a0, .inr (3, [.ref a1, .ref a2, .ref a3, .ref a4, .ref a5, .ref a6, .ref a7, .int (nI zn)])), (a1, aI d 10 zpl), (a2, aI d 10 zvi), (a3, aZ d 10 zme), (a4, aZ d 10 zins), (a5, aI d 10 zlt), (a6, aI d 10 zsu), (a7, aI d 10 zla), (k0, .inr (0, [.ref k1, .ref k2, .ref k3, .ref k4, .int (nI nk)])), (k1, aI d 6 kp), (k2, aI d 6 rg), (k3, aI d 6 pw), (k4, aI d 6 sh), (e0, .inr (1, [.ref e1, .ref e2, .ref e3, .ref e4, .int (nI nc)])), (e1, aI d 20 cp), (e2, aI d 20 dr), (e3, aI d 20 ha), (e4, aZ d 20 (gnF cp)), (w0, aI d 6 wd), (zl0, .inr (2, [.ref za0, .ref zk0, .ref ze0, .ref zw0, .int (nI zh), .int zco])), (za0, .inr (3, [.ref za1, .ref za2, .ref za3, .ref za4, .ref za5, .ref za6, .ref za7, .int (nI zn)])), (za1, aI d 10 zpl), (za2, aI d 10 zvi), (za3, aZ d 10 zme), (za4, aZ d 10 zins), (za5, aI d 10 zlt), (za6, aI d 10 zsu), (za7, aI d 10 zla), (zk0, .inr (0, [.ref zk1, .ref zk2, .ref zk3, .ref zk4, .int (nI znk)])), (zk1, aI d 6 zkp), (zk2, aI d 6 zrg), (zk3, aI d 6 zpw), (zk4, aI d 6 zsh), (ze0, .inr (1, [.ref ze1, .ref ze2, .ref ze3, .ref ze4, .int (nI znc)])), (ze1, aI d 20 zcp), (ze2, aI d 20 zdr), (ze3, aI d 20 zha), (ze4, aZ d 20 (gnF zcp)), (zw0, aI d 6 zwd)]) rfl rfl ⟨rfl, by decide, rfl, by decide, by decide⟩ (fun _ => ⟨rfl, by decide⟩) rfl dX2_copyFrom_8 ?_
  intro _ _
  refine y_aload_n (pc := 11) hC 0 dX2_copyFrom_11 rfl ?_
  refine y_get (pc := 12) hC 0 1 dX2_copyFrom_12 rfl rfl inX2 (by decide) kw_1_114 rfl rfl ?_
  refine y_aload_n (pc := 15) hC 1 dX2_copyFrom_15 rfl ?_
  refine y_get (pc := 16) hC 20 1 dX2_copyFrom_16 rfl rfl inX2 (by decide) kw_1_114 rfl rfl ?_
  refine y_cV (pc := 19) (As := [.ref zk0]) (st := []) hC (c_X0_copyFrom (gL G) d k0 k1 k2 k3 k4 zk0 zk1 zk2 zk3 zk4 kp rg pw sh zkp zrg zpw zsh nk znk) kw_3_25 kw_3_22 kw_3_23 kw_3_24 kw_1_4 n_X0_copyFrom ⟨⟨nb rfl, nb rfl⟩, ⟨nb rfl, nb rfl⟩, nb rfl⟩ [9, 10, 11, 12, 13, 29, 30, 31, 32, 33] [0, 1, 2, 3, 4, 5, 6, 7, 8, 14, 15, 16, 17, 18, 19, 20, 21, 22, 23, 24, 25, 26, 27, 28, 34, 35, 36, 37, 38, 39] [0, 1, 2, 3, 4, 5, 6, 7, 8, 30, 31, 32, 33, 34, 9, 10, 11, 12, 13, 14, 15, 16, 17, 18, 19, 20, 21, 22, 23, 35, 36, 37, 38, 39, 24, 25, 26, 27, 28, 29] 0 [(l0, .inr (2, [.ref a0, .ref k0, .ref e0, .ref w0, .int (nI h), .int co])), (a0, .inr (3, [.ref a1, .ref a2, .ref a3, .ref a4, .ref a5, .ref a6, .ref a7, .int (nI zn)])), (a1, aI d 10 zpl), (a2, aI d 10 zvi), (a3, aZ d 10 zme), (a4, aZ d 10 zins), (a5, aI d 10 zlt), (a6, aI d 10 zsu), (a7, aI d 10 zla), (e0, .inr (1, [.ref e1, .ref e2, .ref e3, .ref e4, .int (nI nc)])), (e1, aI d 20 cp), (e2, aI d 20 dr), (e3, aI d 20 ha), (e4, aZ d 20 (gnF cp)), (w0, aI d 6 wd), (zl0, .inr (2, [.ref za0, .ref zk0, .ref ze0, .ref zw0, .int (nI zh), .int zco])), (za0, .inr (3, [.ref za1, .ref za2, .ref za3, .ref za4, .ref za5, .ref za6, .ref za7, .int (nI zn)])), (za1, aI d 10 zpl), (za2, aI d 10 zvi), (za3, aZ d 10 zme), (za4, aZ d 10 zins), (za5, aI d 10 zlt), (za6, aI d 10 zsu), (za7, aI d 10 zla), (ze0, .inr (1, [.ref ze1, .ref ze2, .ref ze3, .ref ze4, .int (nI znc)])), (ze1, aI d 20 zcp), (ze2, aI d 20 zdr), (ze3, aI d 20 zha), (ze4, aZ d 20 (gnF zcp)), (zw0, aI d 6 zwd)] (fun _ => [(l0, .inr (2, [.ref a0, .ref k0, .ref e0, .ref w0, .int (nI h), .int co])), (a0, .inr (3, [.ref a1, .ref a2, .ref a3, .ref a4, .ref a5, .ref a6, .ref a7, .int (nI zn)])), (a1, aI d 10 zpl), (a2, aI d 10 zvi), (a3, aZ d 10 zme), (a4, aZ d 10 zins), (a5, aI d 10 zlt), (a6, aI d 10 zsu), (a7, aI d 10 zla), (k0, .inr (0, [.ref k1, .ref k2, .ref k3, .ref k4, .int (nI znk)])), (k1, aI d 6 zkp), (k2, aI d 6 zrg), (k3, aI d 6 zpw), (k4, aI d 6 zsh), (e0, .inr (1, [.ref e1, .ref e2, .ref e3, .ref e4, .int (nI nc)])), (e1, aI d 20 cp), (e2, aI d 20 dr), (e3, aI d 20 ha), (e4, aZ d 20 (gnF cp)), (w0, aI d 6 wd), (zl0, .inr (2, [.ref za0, .ref zk0, .ref ze0, .ref zw0, .int (nI zh), .int zco])), (za0, .inr (3, [.ref za1, .ref za2, .ref za3, .ref za4, .ref za5, .ref za6, .ref za7, .int (nI zn)])), (za1, aI d 10 zpl), (za2, aI d 10 zvi), (za3, aZ d 10 zme), (za4, aZ d 10 zins), (za5, aI d 10 zlt), (za6, aI d 10 zsu), (za7, aI d 10 zla), (zk0, .inr (0, [.ref zk1, .ref zk2, .ref zk3, .ref zk4, .int (nI znk)])), (zk1, aI d 6 zkp), (zk2, aI d 6 zrg), (zk3, aI d 6 zpw), (zk4, aI d 6 zsh), (ze0, .inr (1, [.ref ze1, .ref ze2, .ref ze3, .ref ze4, .int (nI znc)])), (ze1, aI d 20 zcp), (ze2, aI d 20 zdr), (ze3, aI d 20 zha), (ze4, aZ d 20 (gnF zcp)), (zw0, aI d 6 zwd)]) rfl rfl ⟨rfl, by decide, rfl, by decide, by decide⟩ (fun _ => ⟨rfl, by decide⟩) rfl dX2_copyFrom_19 ?_
  intro _ _
  refine y_aload_n (pc := 22) hC 0 dX2_copyFrom_22 rfl ?_
  refine y_get (pc := 23) hC 0 2 dX2_copyFrom_23 rfl rfl inX2 (by decide) kw_1_116 rfl rfl ?_
  refine y_aload_n (pc := 26) hC 1 dX2_copyFrom_26 rfl ?_
  refine y_get (pc := 27) hC 20 2 dX2_copyFrom_27 rfl rfl inX2 (by decide) kw_1_116 rfl rfl ?_
  refine y_cV (pc := 30) (As := [.ref ze0]) (st := []) hC (c_X1_copyFrom (gL G) d e0 e1 e2 e3 e4 ze0 ze1 ze2 ze3 ze4 cp dr ha zcp zdr zha nc znc) kw_3_30 kw_3_27 kw_3_28 kw_3_29 kw_1_5 n_X1_copyFrom ⟨⟨nb rfl, nb rfl⟩, ⟨nb rfl, nb rfl⟩, nb rfl⟩ [14, 15, 16, 17, 18, 34, 35, 36, 37, 38] [0, 1, 2, 3, 4, 5, 6, 7, 8, 9, 10, 11, 12, 13, 19, 20, 21, 22, 23, 24, 25, 26, 27, 28, 29, 30, 31, 32, 33, 39] [0, 1, 2, 3, 4, 5, 6, 7, 8, 9, 10, 11, 12, 13, 30, 31, 32, 33, 34, 14, 15, 16, 17, 18, 19, 20, 21, 22, 23, 24, 25, 26, 27, 28, 35, 36, 37, 38, 39, 29] 0 [(l0, .inr (2, [.ref a0, .ref k0, .ref e0, .ref w0, .int (nI h), .int co])), (a0, .inr (3, [.ref a1, .ref a2, .ref a3, .ref a4, .ref a5, .ref a6, .ref a7, .int (nI zn)])), (a1, aI d 10 zpl), (a2, aI d 10 zvi), (a3, aZ d 10 zme), (a4, aZ d 10 zins), (a5, aI d 10 zlt), (a6, aI d 10 zsu), (a7, aI d 10 zla), (k0, .inr (0, [.ref k1, .ref k2, .ref k3, .ref k4, .int (nI znk)])), (k1, aI d 6 zkp), (k2, aI d 6 zrg), (k3, aI d 6 zpw), (k4, aI d 6 zsh), (w0, aI d 6 wd), (zl0, .inr (2, [.ref za0, .ref zk0, .ref ze0, .ref zw0, .int (nI zh), .int zco])), (za0, .inr (3, [.ref za1, .ref za2, .ref za3, .ref za4, .ref za5, .ref za6, .ref za7, .int (nI zn)])), (za1, aI d 10 zpl), (za2, aI d 10 zvi), (za3, aZ d 10 zme), (za4, aZ d 10 zins), (za5, aI d 10 zlt), (za6, aI d 10 zsu), (za7, aI d 10 zla), (zk0, .inr (0, [.ref zk1, .ref zk2, .ref zk3, .ref zk4, .int (nI znk)])), (zk1, aI d 6 zkp), (zk2, aI d 6 zrg), (zk3, aI d 6 zpw), (zk4, aI d 6 zsh), (zw0, aI d 6 zwd)] (fun _ => [(l0, .inr (2, [.ref a0, .ref k0, .ref e0, .ref w0, .int (nI h), .int co])), (a0, .inr (3, [.ref a1, .ref a2, .ref a3, .ref a4, .ref a5, .ref a6, .ref a7, .int (nI zn)])), (a1, aI d 10 zpl), (a2, aI d 10 zvi), (a3, aZ d 10 zme), (a4, aZ d 10 zins), (a5, aI d 10 zlt), (a6, aI d 10 zsu), (a7, aI d 10 zla), (k0, .inr (0, [.ref k1, .ref k2, .ref k3, .ref k4, .int (nI znk)])), (k1, aI d 6 zkp), (k2, aI d 6 zrg), (k3, aI d 6 zpw), (k4, aI d 6 zsh), (e0, .inr (1, [.ref e1, .ref e2, .ref e3, .ref e4, .int (nI znc)])), (e1, aI d 20 zcp), (e2, aI d 20 zdr), (e3, aI d 20 zha), (e4, aZ d 20 (gnF zcp)), (w0, aI d 6 wd), (zl0, .inr (2, [.ref za0, .ref zk0, .ref ze0, .ref zw0, .int (nI zh), .int zco])), (za0, .inr (3, [.ref za1, .ref za2, .ref za3, .ref za4, .ref za5, .ref za6, .ref za7, .int (nI zn)])), (za1, aI d 10 zpl), (za2, aI d 10 zvi), (za3, aZ d 10 zme), (za4, aZ d 10 zins), (za5, aI d 10 zlt), (za6, aI d 10 zsu), (za7, aI d 10 zla), (zk0, .inr (0, [.ref zk1, .ref zk2, .ref zk3, .ref zk4, .int (nI znk)])), (zk1, aI d 6 zkp), (zk2, aI d 6 zrg), (zk3, aI d 6 zpw), (zk4, aI d 6 zsh), (ze0, .inr (1, [.ref ze1, .ref ze2, .ref ze3, .ref ze4, .int (nI znc)])), (ze1, aI d 20 zcp), (ze2, aI d 20 zdr), (ze3, aI d 20 zha), (ze4, aZ d 20 (gnF zcp)), (zw0, aI d 6 zwd)]) rfl rfl ⟨rfl, by decide, rfl, by decide, by decide⟩ (fun _ => ⟨rfl, by decide⟩) rfl dX2_copyFrom_30 ?_
  intro _ _
  refine y_aload_n (pc := 33) hC 1 dX2_copyFrom_33 rfl ?_
  refine y_get (pc := 34) hC 20 3 dX2_copyFrom_34 rfl rfl inX2 (by decide) kw_1_118 rfl rfl ?_
  refine y_iconst (pc := 37) hC dX2_copyFrom_37 0 (by decide) ?_
  refine y_aload_n (pc := 38) hC 0 dX2_copyFrom_38 rfl ?_
  refine y_get (pc := 39) hC 0 3 dX2_copyFrom_39 rfl rfl inX2 (by decide) kw_1_118 rfl rfl ?_
  refine y_iconst (pc := 42) hC dX2_copyFrom_42 0 (by decide) ?_
  refine y_bipush (pc := 43) hC dX2_copyFrom_43 6 (by decide) ?_
  refine y_copyI (pc := 45) hC dX2_copyFrom_45 39 19 [(l0, .inr (2, [.ref a0, .ref k0, .ref e0, .ref w0, .int (nI h), .int co])), (a0, .inr (3, [.ref a1, .ref a2, .ref a3, .ref a4, .ref a5, .ref a6, .ref a7, .int (nI zn)])), (a1, aI d 10 zpl), (a2, aI d 10 zvi), (a3, aZ d 10 zme), (a4, aZ d 10 zins), (a5, aI d 10 zlt), (a6, aI d 10 zsu), (a7, aI d 10 zla), (k0, .inr (0, [.ref k1, .ref k2, .ref k3, .ref k4, .int (nI znk)])), (k1, aI d 6 zkp), (k2, aI d 6 zrg), (k3, aI d 6 zpw), (k4, aI d 6 zsh), (e0, .inr (1, [.ref e1, .ref e2, .ref e3, .ref e4, .int (nI znc)])), (e1, aI d 20 zcp), (e2, aI d 20 zdr), (e3, aI d 20 zha), (e4, aZ d 20 (gnF zcp)), (w0, aI d 6 zwd), (zl0, .inr (2, [.ref za0, .ref zk0, .ref ze0, .ref zw0, .int (nI zh), .int zco])), (za0, .inr (3, [.ref za1, .ref za2, .ref za3, .ref za4, .ref za5, .ref za6, .ref za7, .int (nI zn)])), (za1, aI d 10 zpl), (za2, aI d 10 zvi), (za3, aZ d 10 zme), (za4, aZ d 10 zins), (za5, aI d 10 zlt), (za6, aI d 10 zsu), (za7, aI d 10 zla), (zk0, .inr (0, [.ref zk1, .ref zk2, .ref zk3, .ref zk4, .int (nI znk)])), (zk1, aI d 6 zkp), (zk2, aI d 6 zrg), (zk3, aI d 6 zpw), (zk4, aI d 6 zsh), (ze0, .inr (1, [.ref ze1, .ref ze2, .ref ze3, .ref ze4, .int (nI znc)])), (ze1, aI d 20 zcp), (ze2, aI d 20 zdr), (ze3, aI d 20 zha), (ze4, aZ d 20 (gnF zcp)), (zw0, aI d 6 zwd)] rfl rfl rfl rfl rfl rfl rfl kw_3_32 kw_3_21 kw_3_20 kw_1_15 ⟨nb rfl, nb rfl⟩ ?_
  refine y_aload_n (pc := 48) hC 0 dX2_copyFrom_48 rfl ?_
  refine y_aload_n (pc := 49) hC 1 dX2_copyFrom_49 rfl ?_
  refine y_get (pc := 50) hC 20 4 dX2_copyFrom_50 rfl rfl inX2 (by decide) kw_1_120 rfl rfl ?_
  refine y_put (pc := 53) hC 0 4 .int dX2_copyFrom_53 tyX2 [(l0, .inr (2, [.ref a0, .ref k0, .ref e0, .ref w0, .int (nI zh), .int co])), (a0, .inr (3, [.ref a1, .ref a2, .ref a3, .ref a4, .ref a5, .ref a6, .ref a7, .int (nI zn)])), (a1, aI d 10 zpl), (a2, aI d 10 zvi), (a3, aZ d 10 zme), (a4, aZ d 10 zins), (a5, aI d 10 zlt), (a6, aI d 10 zsu), (a7, aI d 10 zla), (k0, .inr (0, [.ref k1, .ref k2, .ref k3, .ref k4, .int (nI znk)])), (k1, aI d 6 zkp), (k2, aI d 6 zrg), (k3, aI d 6 zpw), (k4, aI d 6 zsh), (e0, .inr (1, [.ref e1, .ref e2, .ref e3, .ref e4, .int (nI znc)])), (e1, aI d 20 zcp), (e2, aI d 20 zdr), (e3, aI d 20 zha), (e4, aZ d 20 (gnF zcp)), (w0, aI d 6 zwd), (zl0, .inr (2, [.ref za0, .ref zk0, .ref ze0, .ref zw0, .int (nI zh), .int zco])), (za0, .inr (3, [.ref za1, .ref za2, .ref za3, .ref za4, .ref za5, .ref za6, .ref za7, .int (nI zn)])), (za1, aI d 10 zpl), (za2, aI d 10 zvi), (za3, aZ d 10 zme), (za4, aZ d 10 zins), (za5, aI d 10 zlt), (za6, aI d 10 zsu), (za7, aI d 10 zla), (zk0, .inr (0, [.ref zk1, .ref zk2, .ref zk3, .ref zk4, .int (nI znk)])), (zk1, aI d 6 zkp), (zk2, aI d 6 zrg), (zk3, aI d 6 zpw), (zk4, aI d 6 zsh), (ze0, .inr (1, [.ref ze1, .ref ze2, .ref ze3, .ref ze4, .int (nI znc)])), (ze1, aI d 20 zcp), (ze2, aI d 20 zdr), (ze3, aI d 20 zha), (ze4, aZ d 20 (gnF zcp)), (zw0, aI d 6 zwd)] rfl rfl rfl inX2 tyX2_ok nmX2 (by decide) kw_1_120 rfl rfl (by decide +kernel) rfl rfl (Nat.le_of_ble_eq_true rfl) ?_
  refine y_aload_n (pc := 56) hC 0 dX2_copyFrom_56 rfl ?_
  refine y_aload_n (pc := 57) hC 1 dX2_copyFrom_57 rfl ?_
  refine y_get (pc := 58) hC 20 5 dX2_copyFrom_58 rfl rfl inX2 (by decide) kw_1_121 rfl rfl ?_
  refine y_put (pc := 61) hC 0 5 .int dX2_copyFrom_61 tyX2 [(l0, .inr (2, [.ref a0, .ref k0, .ref e0, .ref w0, .int (nI zh), .int zco])), (a0, .inr (3, [.ref a1, .ref a2, .ref a3, .ref a4, .ref a5, .ref a6, .ref a7, .int (nI zn)])), (a1, aI d 10 zpl), (a2, aI d 10 zvi), (a3, aZ d 10 zme), (a4, aZ d 10 zins), (a5, aI d 10 zlt), (a6, aI d 10 zsu), (a7, aI d 10 zla), (k0, .inr (0, [.ref k1, .ref k2, .ref k3, .ref k4, .int (nI znk)])), (k1, aI d 6 zkp), (k2, aI d 6 zrg), (k3, aI d 6 zpw), (k4, aI d 6 zsh), (e0, .inr (1, [.ref e1, .ref e2, .ref e3, .ref e4, .int (nI znc)])), (e1, aI d 20 zcp), (e2, aI d 20 zdr), (e3, aI d 20 zha), (e4, aZ d 20 (gnF zcp)), (w0, aI d 6 zwd), (zl0, .inr (2, [.ref za0, .ref zk0, .ref ze0, .ref zw0, .int (nI zh), .int zco])), (za0, .inr (3, [.ref za1, .ref za2, .ref za3, .ref za4, .ref za5, .ref za6, .ref za7, .int (nI zn)])), (za1, aI d 10 zpl), (za2, aI d 10 zvi), (za3, aZ d 10 zme), (za4, aZ d 10 zins), (za5, aI d 10 zlt), (za6, aI d 10 zsu), (za7, aI d 10 zla), (zk0, .inr (0, [.ref zk1, .ref zk2, .ref zk3, .ref zk4, .int (nI znk)])), (zk1, aI d 6 zkp), (zk2, aI d 6 zrg), (zk3, aI d 6 zpw), (zk4, aI d 6 zsh), (ze0, .inr (1, [.ref ze1, .ref ze2, .ref ze3, .ref ze4, .int (nI znc)])), (ze1, aI d 20 zcp), (ze2, aI d 20 zdr), (ze3, aI d 20 zha), (ze4, aZ d 20 (gnF zcp)), (zw0, aI d 6 zwd)] rfl rfl rfl inX2 tyX2_ok nmX2 (by decide) kw_1_121 rfl rfl (by decide +kernel) rfl rfl (Nat.le_of_ble_eq_true rfl) ?_
  exact y_vret (()) hC hQ (trivial) rfl (nb rfl) (nb rfl) dX2_copyFrom_64
theorem n_X2_copyFrom : yyN yX2_copyFrom RX2 1 := by refine ⟨rfl, ?_, ?_, ?_⟩ <;> decide +kernel
set_option maxHeartbeats 4000000 in
set_option maxRecDepth 100000 in
theorem c_X2_init (l : Launch) (d : yyD) (l0 : Nat)  : yyV (S := Nat → Nat) l yX2_init cX2_init 1 { frames := 2, cells := 19, slots := 198, locals := 32 } d [.ref l0] [(l0, .inr (2, [.null, .null, .null, .null, .int 0, .int 0]))] (fun _ => True) (fun u => [(l0, .inr (2, [.ref (u 1), .ref (u 9), .ref (u 14), .ref (u 19), .int (nI 0), .int 50])), (u 1, .inr (3, [.ref (u 2), .ref (u 3), .ref (u 4), .ref (u 5), .ref (u 6), .ref (u 7), .ref (u 8), .int (nI 0)])), (u 2, aI d 10 (fun _ => 0)), (u 3, aI d 10 (fun _ => 0)), (u 4, aZ d 10 (fun _ => false)), (u 5, aZ d 10 (fun _ => false)), (u 6, aI d 10 (fun _ => 0)), (u 7, aI d 10 (fun _ => 0)), (u 8, aI d 10 (fun _ => 0)), (u 9, .inr (0, [.ref (u 10), .ref (u 11), .ref (u 12), .ref (u 13), .int (nI 0)])), (u 10, aI d 6 (fun _ => 0)), (u 11, aI d 6 (fun _ => 0)), (u 12, aI d 6 (fun _ => 0)), (u 13, aI d 6 (fun _ => 0)), (u 14, .inr (1, [.ref (u 15), .ref (u 16), .ref (u 17), .ref (u 18), .int (nI 0)])), (u 15, aI d 20 (fun _ => 0)), (u 16, aI d 20 (fun _ => 0)), (u 17, aI d 20 (fun _ => 0)), (u 18, aZ d 20 (gnF (fun _ => 0))), (u 19, aI d 6 (fun _ => 0))]) := by
  refine yyV_of (own := RX2) [(0, .ref l0)] (by decide +kernel) rfl (Nat.le_of_ble_eq_true rfl) rfl ?_
  intro G Q hQ hGL hC hGA hin
  refine y_aload_n (pc := 0) hC 0 dX2_init_0 rfl ?_
  refine y_obj (pc := 1) hC kw_1_29 kw_1_22 kw_1_23 ⟨nb rfl, nb rfl⟩ dX2_init_1 ?_
  refine y_aload_n (pc := 4) hC 0 dX2_init_4 rfl ?_
  refine y_new (pc := 5) hC (ci := 3) dX2_init_5 [.null, .null, .null, .null, .null, .null, .null, .int 0] tyX3 (fun q1 => [(l0, .inr (2, [.null, .null, .null, .null, .int 0, .int 0])), (q1, .inr (3, [.null, .null, .null, .null, .null, .null, .null, .int 0]))]) rfl inX3 tyX3_ok kw_1_30 kw_1_31 kw_1_3 (fun j hj => by rcases (show j = 0 ∨ j = 1 ∨ j = 2 ∨ j = 3 ∨ j = 4 ∨ j = 5 ∨ j = 6 ∨ j = 7 by omega) with rfl | rfl | rfl | rfl | rfl | rfl | rfl | rfl <;> rfl) ⟨nb rfl, nb rfl⟩ (fun _ => rfl) (fun q1 => ?_)
  refine y_dup (pc := 8) hC dX2_init_8 rfl ?_
  refine y_iV (pc := 9) (As := []) (st := [.ref q1, .ref l0]) hC (c_X3_init (gL G) d q1) kw_1_34 kw_1_32 kw_1_33 kw_1_3 rfl n_X3_init ⟨⟨nb rfl, nb rfl⟩, ⟨nb rfl, nb rfl⟩, nb rfl⟩ [1] [0] [0, 1, 2, 3, 4, 5, 6, 7, 8] [(l0, .inr (2, [.null, .null, .null, .null, .int 0, .int 0]))] (fun u2 => [(l0, .inr (2, [.null, .null, .null, .null, .int 0, .int 0])), (q1, .inr (3, [.ref (u2 1), .ref (u2 2), .ref (u2 3), .ref (u2 4), .ref (u2 5), .ref (u2 6), .ref (u2 7), .int (nI 0)])), (u2 1, aI d 10 (fun _ => 0)), (u2 2, aI d 10 (fun _ => 0)), (u2 3, aZ d 10 (fun _ => false)), (u2 4, aZ d 10 (fun _ => false)), (u2 5, aI d 10 (fun _ => 0)), (u2 6, aI d 10 (fun _ => 0)), (u2 7, aI d 10 (fun _ => 0))]) ⟨rfl, by decide, rfl, by decide, by decide⟩ (fun _ => ⟨rfl, by decide⟩) rfl dX2_init_9 ?_
  intro u2 hu2
  refine y_putF (pc := 12) hC hin 0 0 (.object "HailLeague$Vineyards") dX2_init_12 tyX2 [(l0, .inr (2, [.ref q1, .null, .null, .null, .int 0, .int 0])), (q1, .inr (3, [.ref (u2 1), .ref (u2 2), .ref (u2 3), .ref (u2 4), .ref (u2 5), .ref (u2 6), .ref (u2 7), .int (nI 0)])), (u2 1, aI d 10 (fun _ => 0)), (u2 2, aI d 10 (fun _ => 0)), (u2 3, aZ d 10 (fun _ => false)), (u2 4, aZ d 10 (fun _ => false)), (u2 5, aI d 10 (fun _ => 0)), (u2 6, aI d 10 (fun _ => 0)), (u2 7, aI d 10 (fun _ => 0))] rfl rfl rfl inX2 tyX2_ok nmX2 (by decide) kw_1_112 rfl rfl rfl (by decide +kernel) rfl rfl (Nat.le_of_ble_eq_true rfl) ?_
  refine y_aload_n (pc := 15) hC 0 dX2_init_15 rfl ?_
  refine y_new (pc := 16) hC (ci := 0) dX2_init_16 [.null, .null, .null, .null, .int 0] tyX0 (fun q3 => [(l0, .inr (2, [.ref q1, .null, .null, .null, .int 0, .int 0])), (q1, .inr (3, [.ref (u2 1), .ref (u2 2), .ref (u2 3), .ref (u2 4), .ref (u2 5), .ref (u2 6), .ref (u2 7), .int (nI 0)])), (u2 1, aI d 10 (fun _ => 0)), (u2 2, aI d 10 (fun _ => 0)), (u2 3, aZ d 10 (fun _ => false)), (u2 4, aZ d 10 (fun _ => false)), (u2 5, aI d 10 (fun _ => 0)), (u2 6, aI d 10 (fun _ => 0)), (u2 7, aI d 10 (fun _ => 0)), (q3, .inr (0, [.null, .null, .null, .null, .int 0]))]) rfl inX0 tyX0_ok kw_1_65 kw_1_66 kw_1_4 (fun j hj => by rcases (show j = 0 ∨ j = 1 ∨ j = 2 ∨ j = 3 ∨ j = 4 by omega) with rfl | rfl | rfl | rfl | rfl <;> rfl) ⟨nb rfl, nb rfl⟩ (fun _ => rfl) (fun q3 => ?_)
  refine y_dup (pc := 19) hC dX2_init_19 rfl ?_
  refine y_iV (pc := 20) (As := []) (st := [.ref q3, .ref l0]) hC (c_X0_init (gL G) d q3) kw_1_69 kw_1_67 kw_1_68 kw_1_4 rfl n_X0_init ⟨⟨nb rfl, nb rfl⟩, ⟨nb rfl, nb rfl⟩, nb rfl⟩ [9] [0, 1, 2, 3, 4, 5, 6, 7, 8] [0, 1, 2, 3, 4, 5, 6, 7, 8, 9, 10, 11, 12, 13] [(l0, .inr (2, [.ref q1, .null, .null, .null, .int 0, .int 0])), (q1, .inr (3, [.ref (u2 1), .ref (u2 2), .ref (u2 3), .ref (u2 4), .ref (u2 5), .ref (u2 6), .ref (u2 7), .int (nI 0)])), (u2 1, aI d 10 (fun _ => 0)), (u2 2, aI d 10 (fun _ => 0)), (u2 3, aZ d 10 (fun _ => false)), (u2 4, aZ d 10 (fun _ => false)), (u2 5, aI d 10 (fun _ => 0)), (u2 6, aI d 10 (fun _ => 0)), (u2 7, aI d 10 (fun _ => 0))] (fun u4 => [(l0, .inr (2, [.ref q1, .null, .null, .null, .int 0, .int 0])), (q1, .inr (3, [.ref (u2 1), .ref (u2 2), .ref (u2 3), .ref (u2 4), .ref (u2 5), .ref (u2 6), .ref (u2 7), .int (nI 0)])), (u2 1, aI d 10 (fun _ => 0)), (u2 2, aI d 10 (fun _ => 0)), (u2 3, aZ d 10 (fun _ => false)), (u2 4, aZ d 10 (fun _ => false)), (u2 5, aI d 10 (fun _ => 0)), (u2 6, aI d 10 (fun _ => 0)), (u2 7, aI d 10 (fun _ => 0)), (q3, .inr (0, [.ref (u4 1), .ref (u4 2), .ref (u4 3), .ref (u4 4), .int (nI 0)])), (u4 1, aI d 6 (fun _ => 0)), (u4 2, aI d 6 (fun _ => 0)), (u4 3, aI d 6 (fun _ => 0)), (u4 4, aI d 6 (fun _ => 0))]) ⟨rfl, by decide, rfl, by decide, by decide⟩ (fun _ => ⟨rfl, by decide⟩) rfl dX2_init_20 ?_
  intro u4 hu4
  refine y_putF (pc := 23) hC hin 0 1 (.object "HailLeague$Cannons") dX2_init_23 tyX2 [(l0, .inr (2, [.ref q1, .ref q3, .null, .null, .int 0, .int 0])), (q1, .inr (3, [.ref (u2 1), .ref (u2 2), .ref (u2 3), .ref (u2 4), .ref (u2 5), .ref (u2 6), .ref (u2 7), .int (nI 0)])), (u2 1, aI d 10 (fun _ => 0)), (u2 2, aI d 10 (fun _ => 0)), (u2 3, aZ d 10 (fun _ => false)), (u2 4, aZ d 10 (fun _ => false)), (u2 5, aI d 10 (fun _ => 0)), (u2 6, aI d 10 (fun _ => 0)), (u2 7, aI d 10 (fun _ => 0)), (q3, .inr (0, [.ref (u4 1), .ref (u4 2), .ref (u4 3), .ref (u4 4), .int (nI 0)])), (u4 1, aI d 6 (fun _ => 0)), (u4 2, aI d 6 (fun _ => 0)), (u4 3, aI d 6 (fun _ => 0)), (u4 4, aI d 6 (fun _ => 0))] rfl rfl rfl inX2 tyX2_ok nmX2 (by decide) kw_1_114 rfl rfl rfl (by decide +kernel) rfl rfl (Nat.le_of_ble_eq_true rfl) ?_
  refine y_aload_n (pc := 26) hC 0 dX2_init_26 rfl ?_
  refine y_new (pc := 27) hC (ci := 1) dX2_init_27 [.null, .null, .null, .null, .int 0] tyX1 (fun q5 => [(l0, .inr (2, [.ref q1, .ref q3, .null, .null, .int 0, .int 0])), (q1, .inr (3, [.ref (u2 1), .ref (u2 2), .ref (u2 3), .ref (u2 4), .ref (u2 5), .ref (u2 6), .ref (u2 7), .int (nI 0)])), (u2 1, aI d 10 (fun _ => 0)), (u2 2, aI d 10 (fun _ => 0)), (u2 3, aZ d 10 (fun _ => false)), (u2 4, aZ d 10 (fun _ => false)), (u2 5, aI d 10 (fun _ => 0)), (u2 6, aI d 10 (fun _ => 0)), (u2 7, aI d 10 (fun _ => 0)), (q3, .inr (0, [.ref (u4 1), .ref (u4 2), .ref (u4 3), .ref (u4 4), .int (nI 0)])), (u4 1, aI d 6 (fun _ => 0)), (u4 2, aI d 6 (fun _ => 0)), (u4 3, aI d 6 (fun _ => 0)), (u4 4, aI d 6 (fun _ => 0)), (q5, .inr (1, [.null, .null, .null, .null, .int 0]))]) rfl inX1 tyX1_ok kw_1_89 kw_1_90 kw_1_5 (fun j hj => by rcases (show j = 0 ∨ j = 1 ∨ j = 2 ∨ j = 3 ∨ j = 4 by omega) with rfl | rfl | rfl | rfl | rfl <;> rfl) ⟨nb rfl, nb rfl⟩ (fun _ => rfl) (fun q5 => ?_)
  refine y_dup (pc := 30) hC dX2_init_30 rfl ?_
  refine y_iV (pc := 31) (As := []) (st := [.ref q5, .ref l0]) hC (c_X1_init (gL G) d q5) kw_1_93 kw_1_91 kw_1_92 kw_1_5 rfl n_X1_init ⟨⟨nb rfl, nb rfl⟩, ⟨nb rfl, nb rfl⟩, nb rfl⟩ [14] [0, 1, 2, 3, 4, 5, 6, 7, 8, 9, 10, 11, 12, 13] [0, 1, 2, 3, 4, 5, 6, 7, 8, 9, 10, 11, 12, 13, 14, 15, 16, 17, 18] [(l0, .inr (2, [.ref q1, .ref q3, .null, .null, .int 0, .int 0])), (q1, .inr (3, [.ref (u2 1), .ref (u2 2), .ref (u2 3), .ref (u2 4), .ref (u2 5), .ref (u2 6), .ref (u2 7), .int (nI 0)])), (u2 1, aI d 10 (fun _ => 0)), (u2 2, aI d 10 (fun _ => 0)), (u2 3, aZ d 10 (fun _ => false)), (u2 4, aZ d 10 (fun _ => false)), (u2 5, aI d 10 (fun _ => 0)), (u2 6, aI d 10 (fun _ => 0)), (u2 7, aI d 10 (fun _ => 0)), (q3, .inr (0, [.ref (u4 1), .ref (u4 2), .ref (u4 3), .ref (u4 4), .int (nI 0)])), (u4 1, aI d 6 (fun _ => 0)), (u4 2, aI d 6 (fun _ => 0)), (u4 3, aI d 6 (fun _ => 0)), (u4 4, aI d 6 (fun _ => 0))] (fun u6 => [(l0, .inr (2, [.ref q1, .ref q3, .null, .null, .int 0, .int 0])), (q1, .inr (3, [.ref (u2 1), .ref (u2 2), .ref (u2 3), .ref (u2 4), .ref (u2 5), .ref (u2 6), .ref (u2 7), .int (nI 0)])), (u2 1, aI d 10 (fun _ => 0)), (u2 2, aI d 10 (fun _ => 0)), (u2 3, aZ d 10 (fun _ => false)), (u2 4, aZ d 10 (fun _ => false)), (u2 5, aI d 10 (fun _ => 0)), (u2 6, aI d 10 (fun _ => 0)), (u2 7, aI d 10 (fun _ => 0)), (q3, .inr (0, [.ref (u4 1), .ref (u4 2), .ref (u4 3), .ref (u4 4), .int (nI 0)])), (u4 1, aI d 6 (fun _ => 0)), (u4 2, aI d 6 (fun _ => 0)), (u4 3, aI d 6 (fun _ => 0)), (u4 4, aI d 6 (fun _ => 0)), (q5, .inr (1, [.ref (u6 1), .ref (u6 2), .ref (u6 3), .ref (u6 4), .int (nI 0)])), (u6 1, aI d 20 (fun _ => 0)), (u6 2, aI d 20 (fun _ => 0)), (u6 3, aI d 20 (fun _ => 0)), (u6 4, aZ d 20 (fun _ => false))]) ⟨rfl, by decide, rfl, by decide, by decide⟩ (fun _ => ⟨rfl, by decide⟩) rfl dX2_init_31 ?_
  intro u6 hu6
  refine y_putF (pc := 34) hC hin 0 2 (.object "HailLeague$Clouds") dX2_init_34 tyX2 [(l0, .inr (2, [.ref q1, .ref q3, .ref q5, .null, .int 0, .int 0])), (q1, .inr (3, [.ref (u2 1), .ref (u2 2), .ref (u2 3), .ref (u2 4), .ref (u2 5), .ref (u2 6), .ref (u2 7), .int (nI 0)])), (u2 1, aI d 10 (fun _ => 0)), (u2 2, aI d 10 (fun _ => 0)), (u2 3, aZ d 10 (fun _ => false)), (u2 4, aZ d 10 (fun _ => false)), (u2 5, aI d 10 (fun _ => 0)), (u2 6, aI d 10 (fun _ => 0)), (u2 7, aI d 10 (fun _ => 0)), (q3, .inr (0, [.ref (u4 1), .ref (u4 2), .ref (u4 3), .ref (u4 4), .int (nI 0)])), (u4 1, aI d 6 (fun _ => 0)), (u4 2, aI d 6 (fun _ => 0)), (u4 3, aI d 6 (fun _ => 0)), (u4 4, aI d 6 (fun _ => 0)), (q5, .inr (1, [.ref (u6 1), .ref (u6 2), .ref (u6 3), .ref (u6 4), .int (nI 0)])), (u6 1, aI d 20 (fun _ => 0)), (u6 2, aI d 20 (fun _ => 0)), (u6 3, aI d 20 (fun _ => 0)), (u6 4, aZ d 20 (fun _ => false))] rfl rfl rfl inX2 tyX2_ok nmX2 (by decide) kw_1_116 rfl rfl rfl (by decide +kernel) rfl rfl (Nat.le_of_ble_eq_true rfl) ?_
  refine y_aload_n (pc := 37) hC 0 dX2_init_37 rfl ?_
  refine y_bipush (pc := 38) hC dX2_init_38 6 (by decide) ?_
  refine y_newaI (pc := 40) hC dX2_init_40 6 (fun q7 => [(l0, .inr (2, [.ref q1, .ref q3, .ref q5, .null, .int 0, .int 0])), (q1, .inr (3, [.ref (u2 1), .ref (u2 2), .ref (u2 3), .ref (u2 4), .ref (u2 5), .ref (u2 6), .ref (u2 7), .int (nI 0)])), (u2 1, aI d 10 (fun _ => 0)), (u2 2, aI d 10 (fun _ => 0)), (u2 3, aZ d 10 (fun _ => false)), (u2 4, aZ d 10 (fun _ => false)), (u2 5, aI d 10 (fun _ => 0)), (u2 6, aI d 10 (fun _ => 0)), (u2 7, aI d 10 (fun _ => 0)), (q3, .inr (0, [.ref (u4 1), .ref (u4 2), .ref (u4 3), .ref (u4 4), .int (nI 0)])), (u4 1, aI d 6 (fun _ => 0)), (u4 2, aI d 6 (fun _ => 0)), (u4 3, aI d 6 (fun _ => 0)), (u4 4, aI d 6 (fun _ => 0)), (q5, .inr (1, [.ref (u6 1), .ref (u6 2), .ref (u6 3), .ref (u6 4), .int (nI 0)])), (u6 1, aI d 20 (fun _ => 0)), (u6 2, aI d 20 (fun _ => 0)), (u6 3, aI d 20 (fun _ => 0)), (u6 4, aZ d 20 (fun _ => false)), (q7, aI d 6 (fun _ => 0))]) rfl rfl kw_1_63 ⟨nb rfl, nb rfl⟩ (fun _ => rfl) (fun q7 => ?_)
  refine y_putF (pc := 42) hC hin 0 3 (.array .int) dX2_init_42 tyX2 [(l0, .inr (2, [.ref q1, .ref q3, .ref q5, .ref q7, .int 0, .int 0])), (q1, .inr (3, [.ref (u2 1), .ref (u2 2), .ref (u2 3), .ref (u2 4), .ref (u2 5), .ref (u2 6), .ref (u2 7), .int (nI 0)])), (u2 1, aI d 10 (fun _ => 0)), (u2 2, aI d 10 (fun _ => 0)), (u2 3, aZ d 10 (fun _ => false)), (u2 4, aZ d 10 (fun _ => false)), (u2 5, aI d 10 (fun _ => 0)), (u2 6, aI d 10 (fun _ => 0)), (u2 7, aI d 10 (fun _ => 0)), (q3, .inr (0, [.ref (u4 1), .ref (u4 2), .ref (u4 3), .ref (u4 4), .int (nI 0)])), (u4 1, aI d 6 (fun _ => 0)), (u4 2, aI d 6 (fun _ => 0)), (u4 3, aI d 6 (fun _ => 0)), (u4 4, aI d 6 (fun _ => 0)), (q5, .inr (1, [.ref (u6 1), .ref (u6 2), .ref (u6 3), .ref (u6 4), .int (nI 0)])), (u6 1, aI d 20 (fun _ => 0)), (u6 2, aI d 20 (fun _ => 0)), (u6 3, aI d 20 (fun _ => 0)), (u6 4, aZ d 20 (fun _ => false)), (q7, aI d 6 (fun _ => 0))] rfl rfl rfl inX2 tyX2_ok nmX2 (by decide) kw_1_118 rfl rfl rfl (by decide +kernel) rfl rfl (Nat.le_of_ble_eq_true rfl) ?_
  refine y_aload_n (pc := 45) hC 0 dX2_init_45 rfl ?_
  refine y_iconst (pc := 46) hC dX2_init_46 0 (by decide) ?_
  refine y_put (pc := 47) hC 0 4 .int dX2_init_47 tyX2 [(l0, .inr (2, [.ref q1, .ref q3, .ref q5, .ref q7, .int 0, .int 0])), (q1, .inr (3, [.ref (u2 1), .ref (u2 2), .ref (u2 3), .ref (u2 4), .ref (u2 5), .ref (u2 6), .ref (u2 7), .int (nI 0)])), (u2 1, aI d 10 (fun _ => 0)), (u2 2, aI d 10 (fun _ => 0)), (u2 3, aZ d 10 (fun _ => false)), (u2 4, aZ d 10 (fun _ => false)), (u2 5, aI d 10 (fun _ => 0)), (u2 6, aI d 10 (fun _ => 0)), (u2 7, aI d 10 (fun _ => 0)), (q3, .inr (0, [.ref (u4 1), .ref (u4 2), .ref (u4 3), .ref (u4 4), .int (nI 0)])), (u4 1, aI d 6 (fun _ => 0)), (u4 2, aI d 6 (fun _ => 0)), (u4 3, aI d 6 (fun _ => 0)), (u4 4, aI d 6 (fun _ => 0)), (q5, .inr (1, [.ref (u6 1), .ref (u6 2), .ref (u6 3), .ref (u6 4), .int (nI 0)])), (u6 1, aI d 20 (fun _ => 0)), (u6 2, aI d 20 (fun _ => 0)), (u6 3, aI d 20 (fun _ => 0)), (u6 4, aZ d 20 (fun _ => false)), (q7, aI d 6 (fun _ => 0))] rfl rfl rfl inX2 tyX2_ok nmX2 (by decide) kw_1_120 rfl rfl (by decide +kernel) rfl rfl (Nat.le_of_ble_eq_true rfl) ?_
  refine y_aload_n (pc := 50) hC 0 dX2_init_50 rfl ?_
  refine y_bipush (pc := 51) hC dX2_init_51 50 (by decide) ?_
  refine y_put (pc := 53) hC 0 5 .int dX2_init_53 tyX2 [(l0, .inr (2, [.ref q1, .ref q3, .ref q5, .ref q7, .int 0, .int 50])), (q1, .inr (3, [.ref (u2 1), .ref (u2 2), .ref (u2 3), .ref (u2 4), .ref (u2 5), .ref (u2 6), .ref (u2 7), .int (nI 0)])), (u2 1, aI d 10 (fun _ => 0)), (u2 2, aI d 10 (fun _ => 0)), (u2 3, aZ d 10 (fun _ => false)), (u2 4, aZ d 10 (fun _ => false)), (u2 5, aI d 10 (fun _ => 0)), (u2 6, aI d 10 (fun _ => 0)), (u2 7, aI d 10 (fun _ => 0)), (q3, .inr (0, [.ref (u4 1), .ref (u4 2), .ref (u4 3), .ref (u4 4), .int (nI 0)])), (u4 1, aI d 6 (fun _ => 0)), (u4 2, aI d 6 (fun _ => 0)), (u4 3, aI d 6 (fun _ => 0)), (u4 4, aI d 6 (fun _ => 0)), (q5, .inr (1, [.ref (u6 1), .ref (u6 2), .ref (u6 3), .ref (u6 4), .int (nI 0)])), (u6 1, aI d 20 (fun _ => 0)), (u6 2, aI d 20 (fun _ => 0)), (u6 3, aI d 20 (fun _ => 0)), (u6 4, aZ d 20 (fun _ => false)), (q7, aI d 6 (fun _ => 0))] rfl rfl rfl inX2 tyX2_ok nmX2 (by decide) kw_1_121 rfl rfl (by decide +kernel) rfl rfl (Nat.le_of_ble_eq_true rfl) ?_
  refine y_drop [(l0, .inr (2, [.ref q1, .ref q3, .ref q5, .ref q7, .int 0, .int 50])), (q1, .inr (3, [.ref (u2 1), .ref (u2 2), .ref (u2 3), .ref (u2 4), .ref (u2 5), .ref (u2 6), .ref (u2 7), .int (nI 0)])), (u2 1, aI d 10 (fun _ => 0)), (u2 2, aI d 10 (fun _ => 0)), (u2 3, aZ d 10 (fun _ => false)), (u2 4, aZ d 10 (fun _ => false)), (u2 5, aI d 10 (fun _ => 0)), (u2 6, aI d 10 (fun _ => 0)), (u2 7, aI d 10 (fun _ => 0)), (q3, .inr (0, [.ref (u4 1), .ref (u4 2), .ref (u4 3), .ref (u4 4), .int (nI 0)])), (u4 1, aI d 6 (fun _ => 0)), (u4 2, aI d 6 (fun _ => 0)), (u4 3, aI d 6 (fun _ => 0)), (u4 4, aI d 6 (fun _ => 0)), (q5, .inr (1, [.ref (u6 1), .ref (u6 2), .ref (u6 3), .ref (u6 4), .int (nI 0)])), (u6 1, aI d 20 (fun _ => 0)), (u6 2, aI d 20 (fun _ => 0)), (u6 3, aI d 20 (fun _ => 0)), (u6 4, aZ d 20 (fun _ => false)), (q7, aI d 6 (fun _ => 0))] [0, 1, 2, 3, 4, 5, 6, 7, 8, 9, 10, 11, 12, 13, 14, 15, 16, 17, 18, 19] rfl rfl rfl ?_
  exact y_vret (fun i => match i with | 1 => q1 | 2 => u2 1 | 3 => u2 2 | 4 => u2 3 | 5 => u2 4 | 6 => u2 5 | 7 => u2 6 | 8 => u2 7 | 9 => q3 | 10 => u4 1 | 11 => u4 2 | 12 => u4 3 | 13 => u4 4 | 14 => q5 | 15 => u6 1 | 16 => u6 2 | 17 => u6 3 | 18 => u6 4 | 19 => q7 | _ => l0) hC hQ (trivial) (by rw [gnF_0]; rfl) (nb rfl) (nb rfl) dX2_init_56
theorem n_X2_init : yyN yX2_init RX2 0 := by refine ⟨rfl, ?_, ?_, ?_⟩ <;> decide +kernel
end
section
-- METHODS THAT THROW: contracts of the calls that end so, over the layer
theorem vx142 : ∀ w ∈ (vx_at0 RX4 142 "java/lang/IllegalArgumentException" ["java/lang/RuntimeException", "java/lang/Exception"]).filter goodWord, w ∈ lw_tbl := by decide +kernel
theorem vx145 : ∀ w ∈ (vx_at0 RX4 145 "java/lang/IllegalStateException" ["java/lang/RuntimeException", "java/lang/Exception"]).filter goodWord, w ∈ lw_tbl := by decide +kernel
theorem vx148 : ∀ w ∈ (vx_at0 RX4 148 "java/lang/IndexOutOfBoundsException" ["java/lang/RuntimeException", "java/lang/Exception"]).filter goodWord, w ∈ lw_tbl := by decide +kernel
theorem vx142b : ∀ w ∈ (vx_at0 RX4 142 "java/lang/IllegalArgumentException" ["java/lang/RuntimeException", "java/lang/Exception"]).filter (fun w => !goodWord w), w ∈ NL := by decide +kernel
theorem vx145b : ∀ w ∈ (vx_at0 RX4 145 "java/lang/IllegalStateException" ["java/lang/RuntimeException", "java/lang/Exception"]).filter (fun w => !goodWord w), w ∈ NL := by decide +kernel
theorem vx148b : ∀ w ∈ (vx_at0 RX4 148 "java/lang/IndexOutOfBoundsException" ["java/lang/RuntimeException", "java/lang/Exception"]).filter (fun w => !goodWord w), w ∈ NL := by decide +kernel
theorem vx142g : ∀ w ∈ Cond.classLink RX4 140 "java/lang/IllegalArgumentException" :: Cond.initialized "java/lang/IllegalArgumentException" :: vx_at0 RX4 142 "java/lang/IllegalArgumentException" ["java/lang/RuntimeException", "java/lang/Exception"], vx_ot w = true := by decide +kernel
theorem vx145g : ∀ w ∈ Cond.classLink RX4 143 "java/lang/IllegalStateException" :: Cond.initialized "java/lang/IllegalStateException" :: vx_at0 RX4 145 "java/lang/IllegalStateException" ["java/lang/RuntimeException", "java/lang/Exception"], vx_ot w = true := by decide +kernel
theorem vx148g : ∀ w ∈ Cond.classLink RX4 146 "java/lang/IndexOutOfBoundsException" :: Cond.initialized "java/lang/IndexOutOfBoundsException" :: vx_at0 RX4 148 "java/lang/IndexOutOfBoundsException" ["java/lang/RuntimeException", "java/lang/Exception"], vx_ot w = true := by decide +kernel
theorem vx_all {args : Array Value} {s : State} {L : List Cond} (h1 : ∀ w ∈ L.filter goodWord, w ∈ lw_tbl) (h2 : ∀ w ∈ L.filter (fun w => !goodWord w), w ∈ NL) (hW : ∀ w ∈ WW, w.before args s = true) (hN : ∀ w ∈ NL, va_Nw w s) : ∀ w ∈ L, w.before args s = true :=
  vx_hat (fun w h => hW w (List.mem_filter.mpr ⟨h1 w h, (List.mem_filter.mp h).2⟩)) h2 (fun w h => va_Nw.use (nest_on (NL_nest w h)) (hN w h))
/-- the two statics that a new Throwable reads lie outside the world -/
def yyZ (A : Nat → Prop) (U : State) (H : Heap) : Prop := vx_Zq Bundle.tN "UNASSIGNED_STACK" Bundle.steD A U H ∧ vx_Zq Bundle.tN "SUPPRESSED_SENTINEL" Bundle.listD A U H
def yyPreT (d : yyD) (av : List Value) (w0 : va_W) (sz : Nat) : Array Value → State → Prop := va_Pc av (fun U => U.heap.size = sz ∧ va_P d.1 vwCl w0 U.heap ∧ yyK d U ∧ va_D (fun _ => True) w0 ∧ yyZ (va_A w0 sz) U U.heap)
theorem yyPreT.blind (d : yyD) (av : List Value) (w0 : va_W) (sz : Nat) : FrameBlind (yyPreT d av w0 sz) := by
  intro a U g mk q
  obtain ⟨q0, q1, qP, qK, qD, qZ⟩ := q
  exact ⟨q0, q1, qP, qK.same rfl, qD, vx_Zq.moved (U := U.calling g mk a) (Vm.Alike.refl U.vm) qZ.1, vx_Zq.moved (U := U.calling g mk a) (Vm.Alike.refl U.vm) qZ.2⟩
/-- thrown: an E, the world as it was -/
def yyXC (d : yyD) (A : Nat → Prop) (w0 : va_W) (E : String) : String → State → State → Prop := vx_X (fun _ : Unit => True) (fun E' _ t => E' = E ∧ yyB d A w0 t) A
def yyTV (l : Launch) (y : MethodName) (cc : ByteArray) (mL : Nat) (rm : Room) (d : yyD) (av : List Value) (w0 : va_W) (E : String) : Prop :=
  ∀ sz : Nat, vx_Met l y (Cond.code y cc mL none :: WW) rm (yyPreT d av w0 sz) (va_Qv (fun _ : Unit => False) (fun _ _ => True) (va_A w0 sz)) (yyXC d (va_A w0 sz) w0 E) rm.cells rm.slots (va_A w0 sz)
def yyTI (l : Launch) (y : MethodName) (cc : ByteArray) (mL : Nat) (ret : Option FieldType) (rm : Room) (d : yyD) (av : List Value) (w0 : va_W) (E : String) : Prop :=
  ∀ sz : Nat, vx_Met l y (Cond.code y cc mL ret :: WW) rm (yyPreT d av w0 sz) (va_Qi (fun _ (_ : Unit) => False) (fun _ _ => True) (va_A w0 sz)) (yyXC d (va_A w0 sz) w0 E) rm.cells rm.slots (va_A w0 sz)
def yyQTV (d : yyD) (G : yyG) (R : Room) (w0 : va_W) (E : String) : State → Prop := vx_MQ (gB G) (va_Qv (fun _ : Unit => False) (fun _ _ => True) (gA G)) (yyXC d (gA G) w0 E) (gV G) (gS G) R.cells R.slots (gA G)
def yyQTI (d : yyD) (G : yyG) (R : Room) (w0 : va_W) (E : String) : State → Prop := vx_MQ (gB G) (va_Qi (fun _ (_ : Unit) => False) (fun _ _ => True) (gA G)) (yyXC d (gA G) w0 E) (gV G) (gS G) R.cells R.slots (gA G)
def yyNX (G : yyG) : Prop := ∀ x ∈ (gC G).exceptionTable.toList, False
section YT
variable {l : Launch} {y : MethodName} {cc : ByteArray} {mL : Nat} {ret : Option FieldType} {rm : Room} {d : yyD} {av : List Value} {w0 : va_W} {own : String}
theorem yyTV_of {E : String} (lv0 : List (Nat × Value)) (hy : plainName y.cls = true) (ho : y.cls = own) (hl : (lg_sl av).length ≤ mL) (hlv : lv_args 0 av = lv0)
    (body : ∀ (G : yyG) (Q : State → Prop), Q = yyQTV d G rm w0 E → gL G = l → yyC d G cc own rm mL none → yyZ (gA G) (gS G) (gS G).heap → yyNX G → yyW d G 0 0 Q w0 lv0 0 []) : yyTV l y cc mL rm d av w0 E := by
  intro sz
  refine vx_ofW (cc := cc) (maxL := mL) (ret := none) hy rfl ?_
  intro p e s m args below meth c s₁ B hml hex hv
  obtain ⟨rfl, hsz, hP, hK, hD0, hZ⟩ := hv
  subst hsz
  have hts := atoms_spec (ws := Cond.code y cc mL none :: WW) B.pre
  have hown : s.vm.findClass own = some m.cls := ho ▸ findClass_of_methodNamed B.named
  rw [lg_entry_eq]
  exact body (p, l, e, rm, s, m, av.toArray, below, meth, c, va_A w0 s.heap.size, mL) _ rfl rfl ⟨B.exec, B.bytes, hml, hown, fun w h => hts w (List.mem_cons_of_mem _ h), hK, B.notSynchronized, fun q h => Or.inr h, rfl, rfl, B.returns⟩ hZ hex s.heap [] _ hP hD0.self va_S.rf (hlv ▸ lv_entry av hl)
theorem yyTI_of {E : String} (lv0 : List (Nat × Value)) (hy : plainName y.cls = true) (ho : y.cls = own) (hl : (lg_sl av).length ≤ mL) (hlv : lv_args 0 av = lv0)
    (body : ∀ (G : yyG) (Q : State → Prop), Q = yyQTI d G rm w0 E → gL G = l → yyC d G cc own rm mL ret → yyZ (gA G) (gS G) (gS G).heap → yyNX G → yyW d G 0 0 Q w0 lv0 0 []) : yyTI l y cc mL ret rm d av w0 E := by
  intro sz
  refine vx_ofW (cc := cc) (maxL := mL) (ret := ret) hy rfl ?_
  intro p e s m args below meth c s₁ B hml hex hv
  obtain ⟨rfl, hsz, hP, hK, hD0, hZ⟩ := hv
  subst hsz
  have hts := atoms_spec (ws := Cond.code y cc mL ret :: WW) B.pre
  have hown : s.vm.findClass own = some m.cls := ho ▸ findClass_of_methodNamed B.named
  rw [lg_entry_eq]
  exact body (p, l, e, rm, s, m, av.toArray, below, meth, c, va_A w0 s.heap.size, mL) _ rfl rfl ⟨B.exec, B.bytes, hml, hown, fun w h => hts w (List.mem_cons_of_mem _ h), hK, B.notSynchronized, fun q h => Or.inr h, rfl, rfl, B.returns⟩ hZ hex s.heap [] _ hP hD0.self va_S.rf (hlv ▸ lv_entry av hl)
end YT
section YU
variable {d : yyD} {G : yyG} {cc : ByteArray} {own : String} {R : Room} {nL : Nat} {ret : Option FieldType} {k n : Nat} {Q : State → Prop} {ws : va_W} {lv : List (Nat × Value)} {pc : Nat} {st st0 : List Value} {wc wr : va_W} {is rs : List Nat} {H : Heap} {locs : List Loc}
theorem yyZ.at (hZ : yyZ (gA G) (gS G) (gS G).heap) (hC : yyC d G cc own R nL ret) (hcut : yyCut ws wc wr is rs) (hD : va_D (gA G) ws) (hS : va_S (gA G) (gS G).heap H locs) {U : State} (hU : U.heap = H) (hW : (gS G).WarmedH U.vm) : yyZ (va_A wc H.size) U U.heap := by
  have hFc := va_free (wc := wc) hD hS hC.A is hcut.1
  rw [hU]
  exact ⟨vx_Zq.moved hW.alike ((hZ.1.kept hS.2.1).narrow hFc), vx_Zq.moved hW.alike ((hZ.2.kept hS.2.1).narrow hFc)⟩
/-- a new exception, thrown where no table covers it -/
theorem y_throw {E : String} {w0 : va_W} {names : List String} {ik ic : Nat} (hC : yyC d G cc own R nL none) (hl : (gL G).stackTraces = false) (hQ : Q = yyQTV d G R w0 E) (hZ : yyZ (gA G) (gS G) (gS G).heap) (hX : yyNX G) (hcls : Bundle.fit E = true) (hnames : ∀ n ∈ names, Bundle.fit n = true)
    (k1 : Cond.classLink own ik E ∈ WW) (k2 : Cond.initialized E ∈ WW) (h1 : ∀ w ∈ (vx_at0 own ic E names).filter goodWord, w ∈ lw_tbl) (h2 : ∀ w ∈ (vx_at0 own ic E names).filter (fun w => !goodWord w), w ∈ NL) (hg : ∀ w ∈ Cond.classLink own ik E :: Cond.initialized E :: vx_at0 own ic E names, vx_ot w = true)
    (hw : ws = w0) (d0 : decode cc pc = .ok (.new ik, 3)) (d3 : decode cc (pc + 3) = .ok (.dup, 1)) (d4 : decode cc (pc + 4) = .ok (.invokespecial ic, 3)) (d7 : decode cc (pc + 7) = .ok (.athrow, 1)) (hR : names.length + 3 < R.frames ∧ (st.map fun v => v.category).sum + (13 * (names.length + 1) + 42) ≤ R.locals ∧ k + 1 ≤ R.cells ∧ n + 6 ≤ R.slots) : yyW d G k n Q ws lv pc st := by
  intro H locs ls hP hD hS hls
  subst hw; subst hQ
  have hRR := hC.rm
  subst hRR
  refine vx_throw0 hC.1 hC.2.1 hl hC.2.2.2.1 hcls hnames (hC.w k1) (hC.w k2) (vx_all h1 h2 (fun w h => hC.w h) hC.kw.2) hg hZ.1 hZ.2 hS ((hls.1.trans hC.n).trans hC.2.2.1.symm) d0 d3 d4 d7 (fun x hx => absurd (hX x hx) id) hR.1 hR.2.1 hR.2.2.1 hR.2.2.2 hC.lk ?_ hS.2.2 hR.2.2.1 hR.2.2.2
  intro t hvm hsz hkeep
  refine ⟨(), trivial, ⟨rfl, hP.kept (fun k q hq => hkeep q.1 (hP k q hq).lt), hD⟩, Nat.le_trans hS.1 hsz, fun q hq hn => ?_⟩
  rw [hkeep q (Nat.lt_of_lt_of_le hq hS.1)]
  exact hS.2.1 q hq hn
/-- a static callee that throws, nothing here catching it -/
theorem yy_outT {E : String} {w0 : va_W} {mc ms : Nat} {pc' : Nat} {Qc : Array Value → State → Outcome → State → Prop} {rest : List Value} {ls : Array Slot} (hC : yyC d G cc own R nL ret) (hX : yyNX G) (hcut : yyCut ws wc wr is rs) {pm : List Nat} (hput : yyPut wr wc w0 pm) (hP : va_P d.1 vwCl ws H) (hD : va_D (gA G) ws) (hS : va_S (gA G) (gS G).heap H locs)
    (hc : k + mc ≤ R.cells) (hs : n + ms ≤ R.slots) {E' : String} {ce : Cell} {q9 : Addr} {t : State} {H1 : Heap} {locs1 : List Loc} (ht : t.heap = H1) (hB : E' = E ∧ yyB d (va_A wc H.size) wc t) (hk1 : ∀ q : Nat, q < H.size → ¬ va_A wc H.size q → H1[q]? = H[q]?) (hS1 : va_S (gA G) (gS G).heap H1 locs1) (hce : H1[q9]? = some ce) (hv : ce.vm = .none) (hcl : (gS G).vm.findClass E' = some ce.cls) :
    vx_W (gP G) (gL G) (gE G) (gR G) (gS G) (gM G) (gV G) (gB G) (gT G) (gC G) H1 locs1 (k + mc) (n + ms) (vx_MQ (gB G) Qc (yyXC d (gA G) w0 E) (gV G) (gS G) R.cells R.slots (gA G)) (F0 (gM G) pc' ls rest) q9 := by
  have hFc := va_free (wc := wc) hD hS hC.A is hcut.1
  obtain ⟨e1, hP1, hD1⟩ := hB
  subst e1
  rw [ht] at hP1
  obtain ⟨hP2, hD2⟩ := va_join (wr := wr) (w1 := wc) hP hD is rs hcut.1 hcut.2.2.1 hcut.2.2.2.1 hcut.2.2.2.2 hk1 hFc hP1 hD1
  refine vx_out (fun x hx => absurd (hX x hx) id) hC.lk hce hv hcl (fun u hu hal => ?_) hS1.2.2 hc hs
  exact ⟨(), trivial, ⟨rfl, by rw [hu]; exact hP2.sub pm (fm_of hput.1), hD2.sub pm hput.2 hput.1⟩, by rw [hu]; exact hS1.1, fun q hq hn => by rw [hu]; exact hS1.2.1 q hq hn⟩
variable {y : MethodName} {cy : ByteArray} {mL : Nat} {rt : Option FieldType} {rm : Room} {b : Nat} {As : List Value} {i : Nat} {C host : String} {E : String} {w0 : va_W}
/-- in a method that answers an int: a static void callee throws -/
theorem y_sTV (hC : yyC d G cc own R nL ret) (hQ : Q = yyQTI d G R w0 E) (hZ : yyZ (gA G) (gS G) (gS G).heap) (hX : yyNX G) (hM : yyTV (gL G) y cy mL rm d As wc E) (kc : Cond.code y cy mL none ∈ WW) (kl : Cond.methodLink own i y ∈ WW) (ki : Cond.static y ∈ WW) (kn : Cond.initialized y.cls ∈ WW)
    (hy : yyN y C As.length) (hR : yyR rm R mL k n st) (is rs pm : List Nat) (wr : va_W) (hcut : yyCut ws wc wr is rs) (hput : yyPut wr wc w0 pm) (hs0 : st0 = As.reverse ++ st)
    (hdg : decode cc pc = .ok (.invokestatic i, 3)) : yyW d G k n Q ws lv pc st0 := by
  intro H locs ls hP hD hS hls
  subst hs0; subst hQ
  have hRR := hC.rm
  subst hRR
  have hFc := va_free (wc := wc) hD hS hC.A is hcut.1
  refine vx_callv (vx_runS (As := As) (rest := st) ⟨hC.1, hC.2.1, hC.2.2.1, hC.2.2.2.1, hC.2.2.2.2.1⟩ (hM H.size) (va_cwS As.length hC.2.2.2.2.1 (gwS kl ki kn (gww kc)) rfl rfl rfl hy.2 hR.1) ⟨yyPreT.blind _ _ _ _, fun U hU hW => ⟨rfl, by rw [hU], by rw [hU]; exact hP.sub is (fm_of hcut.1), hC.kw.warm hW, (hD.sub is hcut.2.1 hcut.1).weaken (fun _ _ _ _ => trivial), hZ.at hC hcut hD hS hU hW⟩⟩ rfl rfl (hls.1.trans hC.n) rfl (lv_room hR.2.2) hdg hR.2.1) hS (fun q _ h => hFc q h) hFc (fun q _ h => hFc q h) ?_ (fun u t H1 locs1 _ _ hf => hf.elim)
  intro E' ce q9 u t H1 locs1 ht hvm _ hB hz1 hk1 hS1 hce hv hcl
  exact yy_outT hC hX hcut hput hP hD hS hR.2.1.1 hR.2.1.2 ht hB hk1 hS1 hce hv hcl
end YU
-- the four that refuse
set_option maxRecDepth 100000 in
theorem vxnm : ∀ n ∈ ["java/lang/RuntimeException", "java/lang/Exception"], Bundle.fit n = true := by decide +kernel
end
section
-- rows for what refuses; contracts whose end leaves something open
section YV
variable {d : yyD} {G : yyG} {cc : ByteArray} {own : String} {R : Room} {nL : Nat} {ret : Option FieldType} {k n : Nat} {Q : State → Prop} {ws : va_W} {lv : List (Nat × Value)} {pc : Nat} {st st0 : List Value}
theorem y_if_lt_f (hC : yyC d G cc own R nL ret) {x : Int32} {off : Int} (hdg : decode cc pc = .ok (.ifCond .lt off, 3)) (tgt : Nat) (ht : (pc : Int) + off = (tgt : Int)) (h : ¬ x < 0) (kf : yyW d G k n Q ws lv (pc + 3) st) : yyW d G k n Q ws lv pc (.int x :: st) :=
  y_if_lt hC hdg tgt ht (fun c => absurd c h) (fun _ => kf)
theorem y_cmp_lt_t (hC : yyC d G cc own R nL ret) {x y : Int32} {off : Int} (hdg : decode cc pc = .ok (.if_icmp .lt off, 3)) (tgt : Nat) (ht : (pc : Int) + off = (tgt : Int)) (h : x < y) (kt : yyW d G k n Q ws lv tgt st) : yyW d G k n Q ws lv pc (.int y :: .int x :: st) :=
  y_cmp_lt hC hdg tgt ht (fun _ => kt) (fun c => absurd h c)
theorem y_bne_t (hC : yyC d G cc own R nL ret) {off : Int} (hdg : decode cc pc = .ok (.ifCond .ne off, 3)) (tgt : Nat) (ht : (pc : Int) + off = (tgt : Int)) (kt : yyW d G k n Q ws lv tgt st) : yyW d G k n Q ws lv pc (.int (bI true) :: st) :=
  y_if_ne hC hdg tgt ht (fun _ => kt) (fun c => absurd c (by decide))
theorem y_bne_f (hC : yyC d G cc own R nL ret) {off : Int} (hdg : decode cc pc = .ok (.ifCond .ne off, 3)) (tgt : Nat) (ht : (pc : Int) + off = (tgt : Int)) (kf : yyW d G k n Q ws lv (pc + 3) st) : yyW d G k n Q ws lv pc (.int (bI false) :: st) :=
  y_if_ne hC hdg tgt ht (fun c => absurd rfl c) (fun _ => kf)
end YV
/-- an int is answered, and the cells behind are one of many pictures -/
def yyIE {S : Type} (l : Launch) (y : MethodName) (cc : ByteArray) (mL : Nat) (ret : Option FieldType) (rm : Room) (d : yyD) (av : List Value) (w0 : va_W) (w1 : S → va_W) (rv : Int32) : Prop :=
  ∀ sz : Nat, Met l y (Cond.code y cc mL ret :: WW) rm (yyPre d av w0 sz) (va_Qi (fun r (_ : S) => r = rv) (fun u => yyB d (va_A w0 sz) (w1 u)) (va_A w0 sz)) rm.cells rm.slots (va_A w0 sz)
def yyQIE {S : Type} (d : yyD) (G : yyG) (R : Room) (w1 : S → va_W) (rv : Int32) : State → Prop := MQ (gB G) (va_Qi (fun r (_ : S) => r = rv) (fun u => yyB d (gA G) (w1 u)) (gA G)) (gV G) (gS G) R.cells R.slots (gA G)
theorem yyIE_of {S : Type} {l : Launch} {y : MethodName} {cc : ByteArray} {mL : Nat} {ret : Option FieldType} {rm : Room} {d : yyD} {av : List Value} {w0 : va_W} {own : String} {w1 : S → va_W} {rv : Int32} (lv0 : List (Nat × Value)) (hy : plainFor y = true) (ho : y.cls = own) (hl : (lg_sl av).length ≤ mL) (hlv : lv_args 0 av = lv0)
    (body : ∀ (G : yyG) (Q : State → Prop), Q = yyQIE d G rm w1 rv → gL G = l → yyC d G cc own rm mL ret → (gA G = va_A w0 (gS G).heap.size) → yyW d G 0 0 Q w0 lv0 0 []) : yyIE l y cc mL ret rm d av w0 w1 rv := by
  intro sz
  refine yy_ofWF (cc := cc) (maxL := mL) (ret := ret) hy rfl ?_
  intro p e s m args below meth c s₁ B hml hv
  obtain ⟨rfl, hsz, hP, hK, hD0⟩ := hv
  subst hsz
  have hts := atoms_spec (ws := Cond.code y cc mL ret :: WW) B.pre
  have hown : s.vm.findClass own = some m.cls := ho ▸ findClass_of_methodNamed B.named
  rw [lg_entry_eq]
  exact body (p, l, e, rm, s, m, av.toArray, below, meth, c, va_A w0 s.heap.size, mL) _ rfl rfl ⟨B.exec, B.bytes, hml, hown, fun w h => hts w (List.mem_cons_of_mem _ h), hK, B.notSynchronized, fun q h => Or.inr h, rfl, rfl, B.returns⟩ rfl s.heap [] _ hP hD0.self va_S.rf (hlv ▸ lv_entry av hl)
section YW
variable {d : yyD} {G : yyG} {cc : ByteArray} {own : String} {R : Room} {nL : Nat} {ret : Option FieldType} {k n : Nat} {Q : State → Prop} {ws : va_W} {lv : List (Nat × Value)} {pc : Nat} {st st0 : List Value} {wc wr : va_W} {is rs : List Nat}
variable {y : MethodName} {cy : ByteArray} {mL : Nat} {rt : Option FieldType} {rm : Room} {b : Nat} {As : List Value} {i : Nat} {C host : String}
theorem y_cIE {S : Type} {w1 : S → va_W} {rv : Int32} (hC : yyC d G cc own R nL ret) (hM : yyIE (gL G) y cy mL rt rm d (.ref b :: As) wc w1 rv) (kc : Cond.code y cy mL rt ∈ WW) (kl : Cond.methodLink own i y ∈ WW) (ki : Cond.instanceMethod y ∈ WW) (ks : Cond.selects C y y ∈ WW) (kn : Cond.initialized C ∈ WW)
    (hy : yyN y C As.length) (hR : yyR rm R mL k n st) (is rs pm : List Nat) (q0 : Nat) {ci N : Nat} {fs : List Value} {T : u_T} (wr : va_W) (ws' : S → va_W) (hq : wc[q0]? = some (b, .inr (ci, fs))) (hc : vwCl[ci]? = some (C, T, N)) (hcut : yyCut ws wc wr is rs) (hput : ∀ u, yyPut wr (w1 u) (ws' u) pm) (hs0 : st0 = As.reverse ++ .ref b :: st)
    (hdg : decode cc pc = .ok (.invokevirtual i, 3)) (kk : ∀ u, yyW d G (k + rm.cells) (n + rm.slots) Q (ws' u) lv (pc + 3) (.int rv :: st)) : yyW d G k n Q ws lv pc st0 := by
  intro H locs ls hP hD hS hl
  subst hs0
  have hRR := hC.rm
  subst hRR
  have hFc := va_free (wc := wc) hD hS hC.A is hcut.1
  refine va_calli (va_runV (As := As) (rest := st) ⟨hC.1, hC.2.1, hC.2.2.1, hC.2.2.2.1, hC.2.2.2.2.1⟩ (hM H.size) (cwV As.length hC.2.2.2.2.1 (gwV kl ki ks kn (gww kc)) rfl rfl rfl hy hR.1) (yy_preV hC hcut hP hD As q0 hq hc) rfl rfl (hl.1.trans hC.n) rfl (lv_room hR.2.2) hdg hR.2.1) hS (fun q _ h => hFc q h) hFc (fun r u t H1 locs1 ht hvm hw hB hz1 hk1 hS1 => ?_)
  obtain ⟨hP1, hD1⟩ := hB
  rw [ht] at hP1
  obtain ⟨hP2, hD2⟩ := va_join (wr := wr) (w1 := w1 u) hP hD is rs hcut.1 hcut.2.2.1 hcut.2.2.2.1 hcut.2.2.2.2 hk1 hFc hP1 hD1
  have hw' : r = rv := hw
  rw [hw']
  exact kk u H1 locs1 ls (hP2.sub pm (fm_of (hput u).1)) (hD2.sub pm (hput u).2 (hput u).1) hS1 hl
theorem y_iretE {S : Type} {ty : FieldType} {w1 : S → va_W} {rv v : Int32} (u : S) (hC : yyC d G cc own R nL (some ty)) (hQ : Q = yyQIE d G R w1 rv) (hty : narrow ty (.int v) = .int v) (hw : ws = w1 u) (hv : v = rv) (hk : k ≤ R.cells) (hn : n ≤ R.slots) (hdg : decode cc pc = .ok (.ireturn, 1)) : yyW d G k n Q ws lv pc [.int v] := by
  subst hw; subst hv; subst hQ
  intro H locs ls hP hD hS h
  refine W.widen hk hn ?_
  exact W.zret hC.1 hC.2.1 hC.r hty (fun t ht hW => ⟨⟨v, u, rfl, rfl, by rw [ht]; exact hP, hD⟩, hS.F ht⟩) hS.2.2 hdg hC.lk
end YW
end
section
-- PURE: without hail no vine is lost any more
theorem have_none {cp ha : fI} {n : Nat} (h : haveF cp ha n = false) : ∀ k, k < n → hvP cp ha k = false := by
  induction n with
  | zero => intro k hk; omega
  | succ n ih =>
    have h2 : (haveF cp ha n || hvP cp ha n) = false := h
    rw [Bool.or_eq_false_iff] at h2
    intro k hk
    by_cases e : k = n
    · rw [e]; exact h2.2
    · exact ih h2.1 k (by omega)
theorem hvP_f {cp ha : fI} {k : Nat} : hvP cp ha k = false ↔ gn (cp k) = true ∨ ha k ≤ 0 := by
  unfold hvP gnF
  cases gn (cp k) with
  | true => simp
  | false =>
    rw [cond_false]
    by_cases h : ha k ≤ 0
    · simp [h]
    · simp [h]
theorem drive_at (dr : fI) (w : Int32) (cp : fI) : ∀ n k, driveF dr w n cp k = if k < n then (cond (gn (cp k)) (cp k) (cp k + (dr k + w))) else cp k := by
  intro n
  induction n with
  | zero => intro k; rw [if_neg (Nat.not_lt_zero k)]; rfl
  | succ n ih =>
    intro k
    show driveS dr w n (driveF dr w n cp) k = _
    have e : driveF dr w n cp n = cp n := by rw [ih, if_neg (Nat.lt_irrefl n)]
    unfold driveS gnF
    rw [e]
    by_cases hk : k = n
    · rw [hk, if_pos (Nat.lt_succ_self n)]
      cases gn (cp n) with
      | true => rw [cond_true, cond_true]; exact e
      | false => rw [cond_false, cond_false]; exact pk_us
    · have e2 : (if k < n + 1 then (cond (gn (cp k)) (cp k) (cp k + (dr k + w))) else cp k) = if k < n then (cond (gn (cp k)) (cp k) (cp k + (dr k + w))) else cp k := by
        by_cases h1 : k < n
        · rw [if_pos h1, if_pos (by omega)]
        · rw [if_neg h1, if_neg (by omega)]
      rw [e2, ← ih k]
      cases gn (cp n) with
      | true => rw [cond_true]
      | false => rw [cond_false, pk_un hk]
theorem near_none {cp ha : fI} {p r : Int32} {n : Nat} (h : ∀ k, k < n → hvP cp ha k = false) : yi n (nearS cp ha p) (-1, r + 1) = (-1, r + 1) := by
  induction n with
  | zero => rfl
  | succ n ih =>
    show nearS cp ha p n (yi n (nearS cp ha p) (-1, r + 1)) = _
    rw [ih (fun k hk => h k (by omega))]
    unfold nearS gnF
    rcases hvP_f.mp (h n (by omega)) with q | q
    · rw [q, cond_true]
    · cases gn (cp n) with
      | true => rw [cond_true]
      | false => rw [cond_false, if_pos q]
theorem targ_none {kp rg pw cp ha : fI} {nc j : Nat} (h : ∀ k, k < nc → hvP cp ha k = false) : targF kp rg pw cp ha nc j = -1 := by
  unfold targF nearF
  rw [near_none h]
  split <;> rfl
theorem shoot_none {kp rg cp pl : fI} {me : fB} {nc ny nk : Nat} {w : fI × fI × fI × fI} (h : ∀ k, k < nc → hvP cp w.2.2.1 k = false) : shootF kp rg cp pl me nc ny nk w = w := by
  unfold shootF
  induction nk with
  | zero => rfl
  | succ n ih =>
    show shootS kp rg cp pl me nc ny n (yi n (shootS kp rg cp pl me nc ny) w) = _
    rw [ih]
    unfold shootS
    rw [targ_none h, if_pos (by decide)]
theorem drop_none {cp pl : fI} {ny n nc : Nat} {w : fI × fI × fI × fI} (hn : n ≤ nc) (h : ∀ k, k < nc → hvP cp w.1 k = false) : dropF cp pl ny n w = w := by
  unfold dropF
  induction n with
  | zero => rfl
  | succ n ih =>
    show dropS cp pl ny n (yi n (dropS cp pl ny) w) = _
    rw [ih (by omega)]
    unfold dropS gnF
    rcases hvP_f.mp (h n (by omega)) with q | q
    · rw [q, cond_true]
    · cases gn (cp n) with
      | true => rw [cond_true]
      | false => rw [cond_false, if_pos q]
abbrev sLa (s : DS) : fI := s.2.2.2.1
abbrev sCp (s : DS) : fI := s.2.2.2.2.2.2.1
abbrev sHa (s : DS) : fI := s.2.2.2.2.2.2.2.1
abbrev eNc (e : ES) : Nat := e.2.2.2.2.2.2.2.2.1
theorem hour_none {e : ES} {h : Nat} {s : DS} (hn : ∀ k, k < eNc e → hvP (sCp s) (sHa s) k = false) : sLa (hourF e h s) = sLa s ∧ ∀ k, k < eNc e → hvP (sCp (hourF e h s)) (sHa (hourF e h s)) k = false := by
  have hd : ∀ k, k < eNc e → hvP (driveF e.2.2.2.2.2.2.2.1 (e.2.2.2.2.2.2.2.2.2 (h % 6)) e.2.2.2.2.2.2.2.2.1 s.2.2.2.2.2.2.1) (sHa s) k = false := by
    intro k hk
    rcases hvP_f.mp (hn k hk) with q | q
    · refine hvP_f.mpr (Or.inl ?_)
      rw [drive_at, if_pos hk, show gn (s.2.2.2.2.2.2.1 k) = true from q, cond_true]
      exact q
    · exact hvP_f.mpr (Or.inr q)
  have e1 : shootF e.2.2.2.2.1 e.2.2.2.2.2.1 (driveF e.2.2.2.2.2.2.2.1 (e.2.2.2.2.2.2.2.2.2 (h % 6)) e.2.2.2.2.2.2.2.2.1 s.2.2.2.2.2.2.1) e.1 e.2.1 e.2.2.2.2.2.2.2.2.1 e.2.2.2.1 e.2.2.2.2.2.2.1 (s.2.2.2.2.1, s.2.2.2.2.2.1, s.2.2.2.2.2.2.2.1, s.2.2.1) = (s.2.2.2.2.1, s.2.2.2.2.2.1, s.2.2.2.2.2.2.2.1, s.2.2.1) := shoot_none hd
  have e2 : dropF (driveF e.2.2.2.2.2.2.2.1 (e.2.2.2.2.2.2.2.2.2 (h % 6)) e.2.2.2.2.2.2.2.2.1 s.2.2.2.2.2.2.1) e.1 e.2.2.2.1 e.2.2.2.2.2.2.2.2.1 (s.2.2.2.2.2.2.2.1, s.1, s.2.1, s.2.2.2.1) = (s.2.2.2.2.2.2.2.1, s.1, s.2.1, s.2.2.2.1) := drop_none (Nat.le_refl _) hd
  unfold hourF
  dsimp only
  rw [e1]
  dsimp only
  rw [e2]
  split
  · exact ⟨rfl, hd⟩
  · exact ⟨rfl, hd⟩
theorem hours_still {e : ES} {h : Nat} {s : DS} {i : Nat} (h0 : ∀ k, k < eNc e → hvP (sCp (hoursF e h i s)) (sHa (hoursF e h i s)) k = false) : ∀ r, sLa (hoursF e h (i + r) s) = sLa (hoursF e h i s) ∧ ∀ k, k < eNc e → hvP (sCp (hoursF e h (i + r) s)) (sHa (hoursF e h (i + r) s)) k = false := by
  intro r
  induction r with
  | zero => exact ⟨rfl, h0⟩
  | succ r ih =>
    have := hour_none (e := e) (h := h + (i + r)) (s := hoursF e h (i + r) s) ih.2
    exact ⟨this.1.trans ih.1, this.2⟩
theorem lost_still {e : ES} {h : Nat} {s : DS} {i m n : Nat} (hi : i ≤ m) (h0 : haveF (sCp (hoursF e h i s)) (sHa (hoursF e h i s)) (eNc e) = false) : sumF (sLa (hoursF e h i s)) n = sumF (sLa (hoursF e h m s)) n := by
  have := (hours_still (have_none h0) (m - i)).1
  rw [show i + (m - i) = m by omega] at this
  rw [this]
-- the first of some hours
def firstF (P : Nat → Bool) : Nat → Nat → Int32
  | _, 0 => -1
  | i, r + 1 => cond (P i) (nI i) (firstF P (i + 1) r)
theorem first_hit {P : Nat → Bool} {i r : Nat} (hr : 0 < r) (h : P i = true) : firstF P i r = nI i := by
  obtain ⟨q, rfl⟩ : ∃ q, r = q + 1 := ⟨r - 1, by omega⟩
  show cond (P i) (nI i) _ = _
  rw [h, cond_true]
theorem first_miss {P : Nat → Bool} {i r q : Nat} (hr : r = q + 1) (h : P i = false) : firstF P i r = firstF P (i + 1) q := by
  subst hr
  show cond (P i) (nI i) _ = _
  rw [h, cond_false]
theorem first_none {P : Nat → Bool} : ∀ (r i : Nat), (∀ k, i ≤ k → P k = false) → firstF P i r = -1 := by
  intro r
  induction r with
  | zero => intro i _; rfl
  | succ r ih =>
    intro i h
    rw [first_miss rfl (h i (Nat.le_refl i))]
    exact ih (i + 1) (fun k hk => h k (by omega))
def hitP (e : ES) (h : Nat) (s : DS) (v i : Nat) : Bool := if sLa (hoursF e h i s) v ≤ sLa s v then false else true
def hitF (e : ES) (h : Nat) (s : DS) (v : Nat) : Int32 := firstF (hitP e h s v) 1 60
theorem hit_still {e : ES} {h : Nat} {s : DS} {v j : Nat} (hle : sLa (hoursF e h j s) v ≤ sLa s v) (h0 : haveF (sCp (hoursF e h j s)) (sHa (hoursF e h j s)) (eNc e) = false) (r : Nat) : firstF (hitP e h s v) (j + 1) r = -1 := by
  refine first_none r (j + 1) (fun k hk => ?_)
  have := (hours_still (have_none h0) (k - j)).1
  rw [show j + (k - j) = k by omega] at this
  unfold hitP
  rw [this, if_pos hle]
end
