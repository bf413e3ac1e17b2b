-- mean, both sides: no quotient here is a NaN, for the divisor is a number that is not 0
theorem fp_no (a m : Int32) (h : ¬ m = 0) : vf_n64 (FP.ddiv (FP.i2d a) (FP.i2d m)) := by
  have hb : FP.Core.DFin (FP.Core.i2d m) := FP.Core.i2d_fin m
  have hz : ¬ FP.Core.DZero (FP.Core.i2d m) := fun z => FP.Core.i2d_ne_zero h ((FP.Core.zero_bits2 _).mp z)
  have ha : FP.Core.dIsNaN (FP.Core.i2d a) = false := by
    have := (FP.Core.fin_bits _).mp (FP.Core.i2d_fin a)
    have q := mt (FP.Core.isNaN_bits (FP.Core.i2d a)).mp (by omega)
    exact Bool.not_eq_true _ ▸ q
  have hn : ¬ FP.Core.dIsNaN (FP.Core.ddiv (FP.Core.i2d a) (FP.Core.i2d m)) = true := by
    rw [FP.Core.ddiv_out ha hb hz]
    decide
  have e : FP.ddiv (FP.i2d a) (FP.i2d m) = FP.Core.ddiv (FP.Core.i2d a) (FP.Core.i2d m) := by rw [FP.ddiv_core, FP.i2d_core]
  rw [e]
  unfold vf_n64
  rw [UInt64.le_iff_toNat_le, UInt64.toNat_and]
  have h1 : (0x7fffffffffffffff : UInt64).toNat = 2 ^ 63 - 1 := by decide
  have h2 : (0x7ff0000000000000 : UInt64).toNat = 9218868437227405312 := by decide
  rw [h1, h2, Nat.and_two_pow_sub_one_eq_mod]
  have := mt (FP.Core.isNaN_bits _).mpr hn
  omega
def meanF (vi : fI) (n : Nat) : UInt64 := if nI n = 0 then FP.dconst0 else FP.ddiv (FP.i2d (sumF vi n)) (FP.i2d (nI n))
def yyM (l : Launch) (y : MethodName) (cc : ByteArray) (mL : Nat) (ret : Option FieldType) (rm : Room) (d : yyD) (av : List Value) (w0 w1 : va_W) (rv : UInt64) : Prop :=
  ∀ sz : Nat, Met l y (Cond.code y cc mL ret :: WW) rm (yyPre d av w0 sz) (va_Qd (fun r (_ : Unit) => r = rv) (fun _ => yyB d (va_A w0 sz) w1) (va_A w0 sz)) rm.cells rm.slots (va_A w0 sz)
def yyQM (d : yyD) (G : yyG) (R : Room) (w1 : va_W) (rv : UInt64) : State → Prop := MQ (gB G) (va_Qd (fun r (_ : Unit) => r = rv) (fun _ => yyB d (gA G) w1) (gA G)) (gV G) (gS G) R.cells R.slots (gA G)
section YD
variable {l : Launch} {y : MethodName} {cc : ByteArray} {mL : Nat} {ret : Option FieldType} {rm : Room} {d : yyD} {av : List Value} {w0 : va_W} {own : String}
theorem yyM_of {w1 : va_W} {rv : UInt64} (lv0 : List (Nat × Value)) (hy : plainFor y = true) (ho : y.cls = own) (hl : (lg_sl av).length ≤ mL) (hlv : lv_args 0 av = lv0)
    (body : ∀ (G : yyG) (Q : State → Prop), Q = yyQM d G rm w1 rv → gL G = l → yyC d G cc own rm mL ret → (gA G = va_A w0 (gS G).heap.size) → yyW d G 0 0 Q w0 lv0 0 []) : yyM l y cc mL ret rm d av w0 w1 rv := by
  intro sz
  refine yy_ofWF (cc := cc) (maxL := mL) (ret := ret) hy rfl ?_
  intro p e s m args below meth c s₁ B hml hv
  obtain ⟨rfl, hsz, hP, hK, hD0⟩ := hv
  subst hsz
  have hts := atoms_spec (ws := Cond.code y cc mL ret :: WW) B.pre
  have hown : s.vm.findClass own = some m.cls := ho ▸ findClass_of_methodNamed B.named
  rw [lg_entry_eq]
  exact body (p, l, e, rm, s, m, av.toArray, below, meth, c, va_A w0 s.heap.size, mL) _ rfl rfl ⟨B.exec, B.bytes, hml, hown, fun w h => hts w (List.mem_cons_of_mem _ h), hK, B.notSynchronized, fun q h => Or.inr h, rfl, rfl, B.returns⟩ rfl s.heap [] _ hP hD0.self va_S.rf (hlv ▸ lv_entry av hl)
end YD
section YR
variable {d : yyD} {G : yyG} {cc : ByteArray} {own : String} {R : Room} {nL : Nat} {ret : Option FieldType} {k n : Nat} {Q : State → Prop} {ws : va_W} {lv : List (Nat × Value)} {pc : Nat} {st : List Value}
theorem y_dconst0 (hC : yyC d G cc own R nL ret) (hdg : decode cc pc = .ok (.dconst 0, 1)) (kk : yyW d G k n Q ws lv (pc + 1) (.double FP.dconst0 :: st)) : yyW d G k n Q ws lv pc st :=
  fun H locs ls hP hD hS h => lv_dconst0 hC.1 hC.2.1 hdg (kk H locs ls hP hD hS h)
theorem y_i2d (hC : yyC d G cc own R nL ret) {x : Int32} (hdg : decode cc pc = .ok (.i2d, 1)) (kk : yyW d G k n Q ws lv (pc + 1) (.double (FP.i2d x) :: st)) : yyW d G k n Q ws lv pc (.int x :: st) :=
  fun H locs ls hP hD hS h => lv_i2d hC.1 hC.2.1 hdg (kk H locs ls hP hD hS h)
theorem y_ddiv (hC : yyC d G cc own R nL ret) {x y : UInt64} (hdg : decode cc pc = .ok (.ddiv, 1)) (hne : vf_n64 (FP.ddiv x y)) (kk : yyW d G k n Q ws lv (pc + 1) (.double (FP.ddiv x y) :: st)) : yyW d G k n Q ws lv pc (.double y :: .double x :: st) :=
  fun H locs ls hP hD hS h => lv_ddiv hC.1 hC.2.1 hdg hne (kk H locs ls hP hD hS h)
theorem y_dret {w1 : va_W} {rv v : UInt64} (hC : yyC d G cc own R nL (some .double)) (hQ : Q = yyQM d G R w1 rv) (hw : ws = w1) (hv : v = rv) (hk : k ≤ R.cells) (hn : n ≤ R.slots) (hdg : decode cc pc = .ok (.dreturn, 1)) : yyW d G k n Q ws lv pc [.double v] := by
  subst hw; subst hv; subst hQ
  intro H locs ls hP hD hS h
  refine W.widen hk hn ?_
  exact W.dret hC.1 hC.2.1 hC.r (fun t ht hW => ⟨⟨v, (), rfl, rfl, by rw [ht]; exact hP, hD⟩, hS.F ht⟩) hS.2.2 hdg hC.lk
end YR
set_option maxHeartbeats 4000000 in
set_option maxRecDepth 100000 in
theorem c_X4_mean (l : Launch) (d : yyD) (x0 : Nat) (zl0 : Nat) (l0 : Nat) (a0 : Nat) (a1 : Nat) (a2 : Nat) (a3 : Nat) (a4 : Nat) (a5 : Nat) (a6 : Nat) (a7 : Nat) (k0 : Nat) (k1 : Nat) (k2 : Nat) (k3 : Nat) (k4 : Nat) (e0 : Nat) (e1 : Nat) (e2 : Nat) (e3 : Nat) (e4 : Nat) (w0 : Nat) (pl : fI) (vi : fI) (me : fB) (ins : fB) (lt : fI) (su : fI) (la : fI) (kp : fI) (rg : fI) (pw : fI) (sh : fI) (cp : fI) (dr : fI) (ha : fI) (wd : fI) (co : Int32) (h : Nat) (n : Nat) (nk : Nat) (nc : Nat) (hn : n ≤ 10) : yyM l yX4_mean cX4_mean 1 (some .double) { frames := 2, cells := 0, slots := 0, locals := 43 } d [.ref x0] [(x0, .inr (4, [.ref l0, .ref zl0])), (l0, .inr (2, [.ref a0, .ref k0, .ref e0, .ref w0, .int (nI h), .int co])), (a0, .inr (3, [.ref a1, .ref a2, .ref a3, .ref a4, .ref a5, .ref a6, .ref a7, .int (nI n)])), (a1, aI d 10 pl), (a2, aI d 10 vi), (a3, aZ d 10 me), (a4, aZ d 10 ins), (a5, aI d 10 lt), (a6, aI d 10 su), (a7, aI d 10 la), (k0, .inr (0, [.ref k1, .ref k2, .ref k3, .ref k4, .int (nI nk)])), (k1, aI d 6 kp), (k2, aI d 6 rg), (k3, aI d 6 pw), (k4, aI d 6 sh), (e0, .inr (1, [.ref e1, .ref e2, .ref e3, .ref e4, .int (nI nc)])), (e1, aI d 20 cp), (e2, aI d 20 dr), (e3, aI d 20 ha), (e4, aZ d 20 (gnF cp)), (w0, aI d 6 wd)] [(x0, .inr (4, [.ref l0, .ref zl0])), (l0, .inr (2, [.ref a0, .ref k0, .ref e0, .ref w0, .int (nI h), .int co])), (a0, .inr (3, [.ref a1, .ref a2, .ref a3, .ref a4, .ref a5, .ref a6, .ref a7, .int (nI n)])), (a1, aI d 10 pl), (a2, aI d 10 vi), (a3, aZ d 10 me), (a4, aZ d 10 ins), (a5, aI d 10 lt), (a6, aI d 10 su), (a7, aI d 10 la), (k0, .inr (0, [.ref k1, .ref k2, .ref k3, .ref k4, .int (nI nk)])), (k1, aI d 6 kp), (k2, aI d 6 rg), (k3, aI d 6 pw), (k4, aI d 6 sh), (e0, .inr (1, [.ref e1, .ref e2, .ref e3, .ref e4, .int (nI nc)])), (e1, aI d 20 cp), (e2, aI d 20 dr), (e3, aI d 20 ha), (e4, aZ d 20 (gnF cp)), (w0, aI d 6 wd)] (meanF vi n) := by
  refine yyM_of (own := RX4) [(0, .ref x0)] (by decide +kernel) rfl (Nat.le_of_ble_eq_true rfl) rfl ?_
  intro G Q hQ hGL hC hGA
  refine y_aload_n (pc := 0) hC 0 dX4_mean_0 rfl ?_
  refine y_get (pc := 1) hC 0 0 dX4_mean_1 rfl rfl inX4 (by decide) kw_1_135 rfl rfl ?_
  refine y_get (pc := 4) hC 1 0 dX4_mean_4 rfl rfl inX2 (by decide) kw_1_112 rfl rfl ?_
  refine y_get (pc := 7) hC 2 7 dX4_mean_7 rfl rfl inX3 (by decide) kw_1_44 rfl rfl ?_
  refine y_if_ne (pc := 10) hC dX4_mean_10 15 (by decide) (fun c_1 => ?_) (fun c_1 => ?_)
  · refine y_aload_n (pc := 15) hC 0 dX4_mean_15 rfl ?_
    refine y_get (pc := 16) hC 0 0 dX4_mean_16 rfl rfl inX4 (by decide) kw_1_135 rfl rfl ?_
    refine y_get (pc := 19) hC 1 0 dX4_mean_19 rfl rfl inX2 (by decide) kw_1_112 rfl rfl ?_
    refine y_cI (pc := 22) (As := []) (st := []) hC (c_X3_sumOfVines (gL G) d a0 a1 a2 a3 a4 a5 a6 a7 vi n (by omega)) kw_2_14 kw_2_212 kw_2_12 kw_2_13 kw_1_3 n_X3_sumOfVines ⟨⟨nb rfl, nb rfl⟩, ⟨nb rfl, nb rfl⟩, nb rfl⟩ [2, 4] [0, 1, 3, 5, 6, 7, 8, 9, 10, 11, 12, 13, 14, 15, 16, 17, 18, 19, 20] [0, 1, 19, 2, 20, 3, 4, 5, 6, 7, 8, 9, 10, 11, 12, 13, 14, 15, 16, 17, 18] 0 [(x0, .inr (4, [.ref l0, .ref zl0])), (l0, .inr (2, [.ref a0, .ref k0, .ref e0, .ref w0, .int (nI h), .int co])), (a1, aI d 10 pl), (a3, aZ d 10 me), (a4, aZ d 10 ins), (a5, aI d 10 lt), (a6, aI d 10 su), (a7, aI d 10 la), (k0, .inr (0, [.ref k1, .ref k2, .ref k3, .ref k4, .int (nI nk)])), (k1, aI d 6 kp), (k2, aI d 6 rg), (k3, aI d 6 pw), (k4, aI d 6 sh), (e0, .inr (1, [.ref e1, .ref e2, .ref e3, .ref e4, .int (nI nc)])), (e1, aI d 20 cp), (e2, aI d 20 dr), (e3, aI d 20 ha), (e4, aZ d 20 (gnF cp)), (w0, aI d 6 wd)] [(x0, .inr (4, [.ref l0, .ref zl0])), (l0, .inr (2, [.ref a0, .ref k0, .ref e0, .ref w0, .int (nI h), .int co])), (a0, .inr (3, [.ref a1, .ref a2, .ref a3, .ref a4, .ref a5, .ref a6, .ref a7, .int (nI n)])), (a1, aI d 10 pl), (a2, aI d 10 vi), (a3, aZ d 10 me), (a4, aZ d 10 ins), (a5, aI d 10 lt), (a6, aI d 10 su), (a7, aI d 10 la), (k0, .inr (0, [.ref k1, .ref k2, .ref k3, .ref k4, .int (nI nk)])), (k1, aI d 6 kp), (k2, aI d 6 rg), (k3, aI d 6 pw), (k4, aI d 6 sh), (e0, .inr (1, [.ref e1, .ref e2, .ref e3, .ref e4, .int (nI nc)])), (e1, aI d 20 cp), (e2, aI d 20 dr), (e3, aI d 20 ha), (e4, aZ d 20 (gnF cp)), (w0, aI d 6 wd)] rfl rfl ⟨rfl, by decide, rfl, by decide, by decide⟩ ⟨rfl, by decide⟩ rfl dX4_mean_22 ?_
    refine y_i2d (pc := 25) hC dX4_mean_25 ?_
    refine y_aload_n (pc := 26) hC 0 dX4_mean_26 rfl ?_
    refine y_get (pc := 27) hC 0 0 dX4_mean_27 rfl rfl inX4 (by decide) kw_1_135 rfl rfl ?_
    refine y_get (pc := 30) hC 1 0 dX4_mean_30 rfl rfl inX2 (by decide) kw_1_112 rfl rfl ?_
    refine y_get (pc := 33) hC 2 7 dX4_mean_33 rfl rfl inX3 (by decide) kw_1_44 rfl rfl ?_
    refine y_i2d (pc := 36) hC dX4_mean_36 ?_
    refine y_ddiv (pc := 37) hC dX4_mean_37 (fp_no _ _ c_1) ?_
    exact y_dret hC hQ rfl (if_neg c_1).symm (nb rfl) (nb rfl) dX4_mean_38
  · refine y_dconst0 (pc := 13) hC dX4_mean_13 ?_
    exact y_dret hC hQ rfl (if_pos c_1).symm (nb rfl) (nb rfl) dX4_mean_14
theorem n_X4_mean : yyN yX4_mean RX4 0 := by refine ⟨rfl, ?_, ?_, ?_⟩ <;> decide +kernel
