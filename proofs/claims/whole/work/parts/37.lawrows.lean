-- ROWS FOR THE LAW'S OWN WALK
def nz (x : Int32) : Bool := if x = 0 then false else true
def yyX (G : yyG) (b L : Nat) (xs : Nat → Int32) : Prop := (va_X b L xs (gS G) (gS G).heap ∧ b < (gS G).heap.size ∧ ¬ gA G b) ∧ L ≤ 2560
theorem and31 (x : Int32) : ∃ w, w < 32 ∧ x &&& 31 = nI w := by
  refine ⟨(x.toBitVec &&& 31#32).toNat, ?_, ?_⟩
  · rw [BitVec.toNat_and]
    exact Nat.lt_of_le_of_lt Nat.and_le_right (by decide)
  · apply Int32.toBitVec_inj.1
    show x.toBitVec &&& 31#32 = BitVec.ofNat 32 (x.toBitVec &&& 31#32).toNat
    rw [BitVec.ofNat_toNat, BitVec.setWidth_eq]
theorem gwwH {y : MethodName} {cc : ByteArray} {mL : Nat} {ret : Option FieldType} {hh : List (Nat × Nat × Nat × Nat)} (hk : Cond.codeWith y cc mL ret hh ∈ WW) : GoodIn WW (Cond.codeWith y cc mL ret hh :: WW) := by
  intro w hw
  have h : w ∈ WW := by
    rcases List.mem_cons.mp hw with h | h
    · rw [h]; exact hk
    · exact h
  exact ⟨h, good_of_word (List.mem_filter.mp h).2⟩
section YL
variable {d : yyD} {G : yyG} {cc : ByteArray} {own : String} {R : Room} {nL : Nat} {ret : Option FieldType} {k n : Nat} {Q : State → Prop} {ws : va_W} {lv : List (Nat × Value)} {pc : Nat} {st st0 : List Value} {wc wr : va_W} {is rs : List Nat} {b L : Nat} {xs : Nat → Int32}
variable {y : MethodName} {cy : ByteArray} {mL : Nat} {rt : Option FieldType} {rm : Room} {As : List Value} {i : Nat} {C : String}
theorem y_sld (hC : yyC d G cc own R nL ret) (hX : yyX G b L xs) {j : Nat} (hdg : decode cc pc = .ok (.iaload, 1)) (v : Int32) (hj : j < L) (hv : xs j = v) (kk : yyW d G k n Q ws lv (pc + 1) (.int v :: st)) : yyW d G k n Q ws lv pc (.int (nI j) :: .ref b :: st) := by
  intro H locs ls hP hD hS h
  have hL := hX.2
  refine va_sld hC.1 hC.2.1 hX.1.1 hX.1.2.1 hX.1.2.2 hS (vp_in_nI hj (by omega)) hdg ?_
  rw [nI_clamp (by omega), hv]
  exact kk H locs ls hP hD hS h
theorem y_slen (hC : yyC d G cc own R nL ret) (hX : yyX G b L xs) (hdg : decode cc pc = .ok (.arraylength, 1)) (kk : yyW d G k n Q ws lv (pc + 1) (.int (nI L) :: st)) : yyW d G k n Q ws lv pc (.ref b :: st) :=
  fun H locs ls hP hD hS h => va_slen hC.1 hC.2.1 hX.1.1 hX.1.2.1 hX.1.2.2 hS hdg (kk H locs ls hP hD hS h)
/-- 'v != 0', put on the stack as 1 or 0 -/
theorem y_nzb (hC : yyC d G cc own R nL ret) {x : Int32} (d0 : decode cc pc = .ok (.ifCond .eq 7, 3)) (d3 : decode cc (pc + 3) = .ok (.iconst 1, 1)) (d4 : decode cc (pc + 4) = .ok (.goto 4, 3)) (d7 : decode cc (pc + 7) = .ok (.iconst 0, 1)) (kk : yyW d G k n Q ws lv (pc + 8) (.int (bI (nz x)) :: st)) : yyW d G k n Q ws lv pc (.int x :: st) := by
  refine y_if_eq hC d0 (pc + 7) (by omega) (fun h => ?_) (fun h => ?_)
  · refine y_iconst (pc := pc + 7) hC d7 0 (by decide) ?_
    have e : bI (nz x) = 0 := by unfold nz; rw [if_pos h]; rfl
    rw [e] at kk
    exact kk
  · refine y_iconst (pc := pc + 3) hC d3 1 (by decide) ?_
    refine y_goto (pc := pc + 4) hC d4 (pc + 8) (by omega) ?_
    have e : bI (nz x) = 1 := by unfold nz; rw [if_neg h]; rfl
    rw [e] at kk
    exact kk
theorem y_dstore (hC : yyC d G cc own R nL ret) {i : Nat} {x : UInt64} (hdg : decode cc pc = .ok (.dstore i, 2)) (lv' : List (Nat × Value)) (hl : (i, Value.double x) :: lv.filter (fun q => !(q.1 == i) && (!(q.1 == i + 1) && !(q.1 + 1 == i && q.2.category == 2))) = lv') (hn : i + 1 < nL) (kk : yyW d G k n Q ws lv' (pc + 2) st) : yyW d G k n Q ws lv pc (.double x :: st) :=
  fun H locs _ hP hD hS h => lv_dstore hC.1 hC.2.1 hdg h (hC.n ▸ hn) hl (fun ls' h' => kk H locs ls' hP hD hS h')
theorem y_dload (hC : yyC d G cc own R nL ret) (j : Nat) {i : Nat} {x : UInt64} (hdg : decode cc pc = .ok (.dload i, 2)) (hl : lv[j]? = some (i, .double x)) (kk : yyW d G k n Q ws lv (pc + 2) (.double x :: st)) : yyW d G k n Q ws lv pc st :=
  fun H locs ls hP hD hS h => lv_dload hC.1 hC.2.1 hdg (lv_at h j hl) (kk H locs ls hP hD hS h)
theorem y_dcmp (hC : yyC d G cc own R nL ret) {x y : UInt64} {op : CmpOp} (hdg : decode cc pc = .ok (.dcmp op, 1)) (kk : yyW d G k n Q ws lv (pc + 1) (.int (Op.cmpValue (FP.dcmp x y) op) :: st)) : yyW d G k n Q ws lv pc (.double y :: .double x :: st) :=
  fun H locs ls hP hD hS h => lv_dcmp hC.1 hC.2.1 hdg (kk H locs ls hP hD hS h)
theorem y_lcmp_e (hC : yyC d G cc own R nL ret) {x y : Int64} (hdg : decode cc pc = .ok (.lcmp, 1)) (h : x = y) (kk : yyW d G k n Q ws lv (pc + 1) (.int 0 :: st)) : yyW d G k n Q ws lv pc (.long y :: .long x :: st) := by
  subst h
  intro H locs ls hP hD hS hl
  refine W.lcmp hC.1 hC.2.1 hdg ?_
  have e : lg_cmp x x = 0 := by simp [lg_cmp]
  rw [e]
  exact kk H locs ls hP hD hS hl
/-- the law calls a helper -/
theorem y_sH {S : Type} {w1 : S → va_W} {rv : Int32} {hh : List (Nat × Nat × Nat × Nat)} (hC : yyC d G cc own R nL ret) (hZ : yyZ (gA G) (gS G) (gS G).heap) (hE : yyE (gS G)) (hM : yyH (gL G) y cy mL rt hh rm d As wc w1 rv) (kc : Cond.codeWith y cy mL rt hh ∈ WW) (kl : Cond.methodLink own i y ∈ WW) (ki : Cond.static y ∈ WW) (kn : Cond.initialized y.cls ∈ WW)
    (hy : yyN y C As.length) (hR : yyR rm R mL k n st) (is rs pm : List Nat) (wr : va_W) (ws' : S → va_W) (hcut : yyCut ws wc wr is rs) (hput : ∀ u, yyPut wr (w1 u) (ws' u) pm) (hs0 : st0 = As.reverse ++ st)
    (hdg : decode cc pc = .ok (.invokestatic i, 3)) (kk : ∀ u, yyW d G (k + rm.cells) (n + rm.slots) Q (ws' u) lv (pc + 3) (.int rv :: st)) : yyW d G k n Q ws lv pc st0 := by
  intro H locs ls hP hD hS hl
  subst hs0
  have hRR := hC.rm
  subst hRR
  have hFc := va_free (wc := wc) hD hS hC.A is hcut.1
  refine va_calli (vx_runSW (As := As) (rest := st) ⟨hC.1, hC.2.1, hC.2.2.1, hC.2.2.2.1, hC.2.2.2.2.1⟩ (hM H.size) (vx_cwSW As.length hC.2.2.2.2.1 (gwS kl ki kn (gwwH kc)) rfl rfl rfl hy.2 hR.1) ⟨yyPreH.blind _ _ _ _, fun U hU hW => ⟨rfl, by rw [hU], by rw [hU]; exact hP.sub is (fm_of hcut.1), hC.kw.warm hW, (hD.sub is hcut.2.1 hcut.1).weaken (fun _ _ _ _ => trivial), hZ.at hC hcut hD hS hU hW, hE.moved hW.alike⟩⟩ rfl rfl (hl.1.trans hC.n) rfl (lv_room hR.2.2) hdg hR.2.1) hS (fun q _ h => hFc q h) hFc (fun r u t H1 locs1 ht hvm hw hB hz1 hk1 hS1 => ?_)
  obtain ⟨hP1, hD1⟩ := hB
  rw [ht] at hP1
  obtain ⟨hP2, hD2⟩ := va_join (wr := wr) (w1 := w1 u) hP hD is rs hcut.1 hcut.2.2.1 hcut.2.2.2.1 hcut.2.2.2.2 hk1 hFc hP1 hD1
  have hw' : r = rv := hw
  rw [hw']
  exact kk u H1 locs1 ls (hP2.sub pm (fm_of (hput u).1)) (hD2.sub pm (hput u).2 (hput u).1) hS1 hl
/-- a call that answers a double -/
theorem y_cM {b : Nat} {w1 : va_W} {rv : UInt64} (hC : yyC d G cc own R nL ret) (hM : yyM (gL G) y cy mL rt rm d (.ref b :: As) wc w1 rv) (kc : Cond.code y cy mL rt ∈ WW) (kl : Cond.methodLink own i y ∈ WW) (ki : Cond.instanceMethod y ∈ WW) (ks : Cond.selects C y y ∈ WW) (kn : Cond.initialized C ∈ WW)
    (hy : yyN y C As.length) (hR : yyR rm R mL k n st) (is rs pm : List Nat) (q0 : Nat) {ci N : Nat} {fs : List Value} {T : u_T} (wr ws' : va_W) (hq : wc[q0]? = some (b, .inr (ci, fs))) (hc : vwCl[ci]? = some (C, T, N)) (hcut : yyCut ws wc wr is rs) (hput : yyPut wr w1 ws' pm) (hs0 : st0 = As.reverse ++ .ref b :: st)
    (hdg : decode cc pc = .ok (.invokevirtual i, 3)) (kk : yyW d G (k + rm.cells) (n + rm.slots) Q ws' lv (pc + 3) (.double rv :: st)) : yyW d G k n Q ws lv pc st0 := by
  intro H locs ls hP hD hS hl
  subst hs0
  have hRR := hC.rm
  subst hRR
  have hFc := va_free (wc := wc) hD hS hC.A is hcut.1
  refine va_calld (va_runV (As := As) (rest := st) ⟨hC.1, hC.2.1, hC.2.2.1, hC.2.2.2.1, hC.2.2.2.2.1⟩ (hM H.size) (cwV As.length hC.2.2.2.2.1 (gwV kl ki ks kn (gww kc)) rfl rfl rfl hy hR.1) (yy_preV hC hcut hP hD As q0 hq hc) rfl rfl (hl.1.trans hC.n) rfl (lv_room hR.2.2) hdg hR.2.1) hS (fun q _ h => hFc q h) hFc (fun r u t H1 locs1 ht hvm hw hB hz1 hk1 hS1 => ?_)
  obtain ⟨hP1, hD1⟩ := hB
  rw [ht] at hP1
  obtain ⟨hP2, hD2⟩ := va_join (wr := wr) (w1 := w1) hP hD is rs hcut.1 hcut.2.2.1 hcut.2.2.2.1 hcut.2.2.2.2 hk1 hFc hP1 hD1
  have hw' : r = rv := hw
  rw [hw']
  exact kk H1 locs1 ls (hP2.sub pm (fm_of hput.1)) (hD2.sub pm hput.2 hput.1) hS1 hl
end YL
