-- THE CLASS OVER PICTURES
abbrev ePl (e : ES) : fI := e.1
abbrev eMe (e : ES) : fB := e.2.1
abbrev eIn (e : ES) : fB := e.2.2.1
abbrev eN (e : ES) : Nat := e.2.2.2.1
abbrev eKp (e : ES) : fI := e.2.2.2.2.1
abbrev eRg (e : ES) : fI := e.2.2.2.2.2.1
abbrev eNk (e : ES) : Nat := e.2.2.2.2.2.2.1
abbrev eDr (e : ES) : fI := e.2.2.2.2.2.2.2.1
abbrev eWd (e : ES) : fI := e.2.2.2.2.2.2.2.2.2
abbrev sVi (s : DS) : fI := s.1
abbrev sLt (s : DS) : fI := s.2.1
abbrev sSu (s : DS) : fI := s.2.2.1
abbrev sPw (s : DS) : fI := s.2.2.2.2.1
abbrev sSh (s : DS) : fI := s.2.2.2.2.2.1
abbrev sCo (s : DS) : Int32 := s.2.2.2.2.2.2.2.2
def mN (d : yyD) (x0 : Nat) (u : Nat → Nat) (e : ES) (h : Nat) (s : DS) : va_W := [(x0, .inr (4, [.ref (u 1), .ref (u 21)])), (u 1, .inr (2, [.ref (u 2), .ref (u 10), .ref (u 15), .ref (u 20), .int (nI h), .int (sCo s)])), (u 2, .inr (3, [.ref (u 3), .ref (u 4), .ref (u 5), .ref (u 6), .ref (u 7), .ref (u 8), .ref (u 9), .int (nI ((eN e)))])), (u 3, aI d 10 (ePl e)), (u 4, aI d 10 (sVi s)), (u 5, aZ d 10 (eMe e)), (u 6, aZ d 10 (eIn e)), (u 7, aI d 10 (sLt s)), (u 8, aI d 10 (sSu s)), (u 9, aI d 10 (sLa s)), (u 10, .inr (0, [.ref (u 11), .ref (u 12), .ref (u 13), .ref (u 14), .int (nI ((eNk e)))])), (u 11, aI d 6 (eKp e)), (u 12, aI d 6 (eRg e)), (u 13, aI d 6 (sPw s)), (u 14, aI d 6 (sSh s)), (u 15, .inr (1, [.ref (u 16), .ref (u 17), .ref (u 18), .ref (u 19), .int (nI ((eNc e)))])), (u 16, aI d 20 (sCp s)), (u 17, aI d 20 (eDr e)), (u 18, aI d 20 (sHa s)), (u 19, aZ d 20 (gnF (sCp s))), (u 20, aI d 6 (eWd e))]
def mT (d : yyD) (u : Nat → Nat) (t : TS) : va_W := [(u 21, .inr (2, [.ref (u 22), .ref (u 30), .ref (u 35), .ref (u 40), .int (nI ((t.2.2.1 3))), .int (t.2.2.2)])), (u 22, .inr (3, [.ref (u 23), .ref (u 24), .ref (u 25), .ref (u 26), .ref (u 27), .ref (u 28), .ref (u 29), .int (nI ((t.2.2.1 0)))])), (u 23, aI d 10 (t.1 0)), (u 24, aI d 10 (t.1 1)), (u 25, aZ d 10 (t.2.1 0)), (u 26, aZ d 10 (t.2.1 1)), (u 27, aI d 10 (t.1 2)), (u 28, aI d 10 (t.1 3)), (u 29, aI d 10 (t.1 4)), (u 30, .inr (0, [.ref (u 31), .ref (u 32), .ref (u 33), .ref (u 34), .int (nI ((t.2.2.1 1)))])), (u 31, aI d 6 (t.1 5)), (u 32, aI d 6 (t.1 6)), (u 33, aI d 6 (t.1 7)), (u 34, aI d 6 (t.1 8)), (u 35, .inr (1, [.ref (u 36), .ref (u 37), .ref (u 38), .ref (u 39), .int (nI ((t.2.2.1 2)))])), (u 36, aI d 20 (t.1 9)), (u 37, aI d 20 (t.1 10)), (u 38, aI d 20 (t.1 11)), (u 39, aZ d 20 (gnF (t.1 9))), (u 40, aI d 6 (t.1 12))]
/-- what a vineyard, a cannon, a cloud tells -/
def yrow (e : ES) (s : DS) : fR := fun k w => vfact (ePl e) (sVi s) (eMe e) (eIn e) (sLt s) (sSu s) (sLa s) k w
def arow (e : ES) (s : DS) : fR := fun k w => kfact (eKp e) (eRg e) (sPw s) (sSh s) (sCp s) (sHa s) (eNc e) k w
def krow (e : ES) (s : DS) : fR := fun k w => if w = 0 then eKp e k else if w = 1 then eRg e k else if w = 2 then sPw s k else sSh s k
def crow (e : ES) (s : DS) : fR := fun k w => cfact (sCp s) (eDr e) (sHa s) k w
def digM (e : ES) (h : Nat) (s : DS) : Int64 := digF (fun w => totF e h s w) (eWd e) (fun j w => yrow e s j w) (fun j w => arow e s j w) (fun j w => crow e s j w) (eN e) (eNk e) (eNc e)
def plE (e : ES) (x : Int32) (p q : Bool) : ES := (upd (ePl e) (eN e) x, updB (eMe e) (eN e) p, updB (eIn e) (eN e) q, eN e + 1, eKp e, eRg e, eNk e, eDr e, eNc e, eWd e)
def plS (e : ES) (s : DS) (y : Int32) : DS := (upd (sVi s) (eN e) y, sLt s, sSu s, sLa s, sPw s, sSh s, sCp s, sHa s, sCo s)
def sgE (e : ES) (j : Nat) (p q : Bool) : ES := (ePl e, updB (eMe e) j p, updB (eIn e) j q, eN e, eKp e, eRg e, eNk e, eDr e, eNc e, eWd e)
def caE (e : ES) (x y : Int32) : ES := (ePl e, eMe e, eIn e, eN e, upd (eKp e) (eNk e) x, upd (eRg e) (eNk e) y, eNk e + 1, eDr e, eNc e, eWd e)
def caS (e : ES) (s : DS) (z : Int32) : DS := (sVi s, sLt s, sSu s, sLa s, upd (sPw s) (eNk e) z, sSh s, sCp s, sHa s, sCo s)
def loS (s : DS) (j : Nat) (x : Int32) : DS := (sVi s, sLt s, sSu s, sLa s, upd (sPw s) j (mn (sPw s j + x) 60), sSh s, sCp s, sHa s, sCo s - x / 5)
def gaE (e : ES) (y : Int32) : ES := (ePl e, eMe e, eIn e, eN e, eKp e, eRg e, eNk e, upd (eDr e) (eNc e) y, eNc e + 1, eWd e)
def gaS (e : ES) (s : DS) (x z : Int32) : DS := (sVi s, sLt s, sSu s, sLa s, sPw s, sSh s, upd (sCp s) (eNc e) x, upd (sHa s) (eNc e) z, sCo s)
def wiE (e : ES) (j : Nat) (x : Int32) : ES := (ePl e, eMe e, eIn e, eN e, eKp e, eRg e, eNk e, eDr e, eNc e, upd (eWd e) j x)
def moE (e : ES) (j : Nat) (x : Int32) : ES := (ePl e, eMe e, eIn e, eN e, upd (eKp e) j x, eRg e, eNk e, eDr e, eNc e, eWd e)
def moS (s : DS) : DS := (sVi s, sLt s, sSu s, sLa s, sPw s, sSh s, sCp s, sHa s, sCo s - 2)
theorem hours_1 (e : ES) (h : Nat) (s : DS) : hoursF e h 1 s = hourF e h s := rfl
def e00 : ES := (fun _ => 0, fun _ => false, fun _ => false, 0, fun _ => 0, fun _ => 0, 0, fun _ => 0, 0, fun _ => 0)
def s00 : DS := (fun _ => 0, fun _ => 0, fun _ => 0, fun _ => 0, fun _ => 0, fun _ => 0, fun _ => 0, fun _ => 0, 50)
def t00 : TS := (fun _ _ => 0, fun _ _ => false, fun _ => 0, 50)
set_option maxHeartbeats 4000000 in
set_option maxRecDepth 100000 in
theorem m_plant (l : Launch) (d : yyD) (x0 : Nat) (u : Nat → Nat) (e : ES) (h : Nat) (s : DS) (x : Int32) (y : Int32) (p : Bool) (q : Bool) (hok : okPlant x y = true) (hn : eN e < 10) : yyI l yX4_plant cX4_plant 5 (some .int) { frames := 1, cells := 0, slots := 0, locals := 25 } d [.ref x0, .int x, .int y, .int (bI p), .int (bI q)] (fl [mN d x0 u e h s]) (fl [mN d x0 u (plE e x p q) h (plS e s y)]) (nI (eN e)) := by
  obtain ⟨pl, me, ins, n, kp, rg, nk, dr, nc, wd⟩ := e
  obtain ⟨vi, lt, su, la, pw, sh, cp, ha, co⟩ := s
  simp only [fl_1]
  exact c_X4_plant l d x0 (u 21) (u 1) (u 2) (u 3) (u 4) (u 5) (u 6) (u 7) (u 8) (u 9) (u 10) (u 11) (u 12) (u 13) (u 14) (u 15) (u 16) (u 17) (u 18) (u 19) (u 20) pl vi me ins lt su la kp rg pw sh cp dr ha wd co h n nk nc x y p q hok hn
set_option maxHeartbeats 4000000 in
set_option maxRecDepth 100000 in
theorem m_plant_e (l : Launch) (d : yyD) (x0 : Nat) (u : Nat → Nat) (e : ES) (h : Nat) (s : DS) (x : Int32) (y : Int32) (p : Bool) (q : Bool) (hfl : l.stackTraces = false) (hok : okPlant x y = true) (hn : eN e = 10) : yyTI l yX4_plant cX4_plant 5 (some .int) { frames := 7, cells := 1, slots := 6, locals := 101 } d [.ref x0, .int x, .int y, .int (bI p), .int (bI q)] (fl [mN d x0 u e h s]) "java/lang/IllegalStateException" := by
  obtain ⟨pl, me, ins, n, kp, rg, nk, dr, nc, wd⟩ := e
  obtain ⟨vi, lt, su, la, pw, sh, cp, ha, co⟩ := s
  simp only [fl_1]
  exact c_X4_plant_e2 l d x0 (u 21) (u 1) (u 2) (u 3) (u 4) (u 5) (u 6) (u 7) (u 8) (u 9) (u 10) (u 11) (u 12) (u 13) (u 14) (u 15) (u 16) (u 17) (u 18) (u 19) (u 20) pl vi me ins lt su la kp rg pw sh cp dr ha wd co h n nk nc x y p q hfl hok hn
set_option maxHeartbeats 4000000 in
set_option maxRecDepth 100000 in
theorem m_sign (l : Launch) (d : yyD) (x0 : Nat) (u : Nat → Nat) (e : ES) (h : Nat) (s : DS) (j : Nat) (p : Bool) (q : Bool) (hn : eN e ≤ 10) (hj : j < eN e) : yyI l yX4_sign cX4_sign 4 (some .int) { frames := 1, cells := 0, slots := 0, locals := 24 } d [.ref x0, .int (nI j), .int (bI p), .int (bI q)] (fl [mN d x0 u e h s]) (fl [mN d x0 u (sgE e j p q) h s]) (cond (eMe e j) 1 0 + cond (eIn e j) 2 0) := by
  obtain ⟨pl, me, ins, n, kp, rg, nk, dr, nc, wd⟩ := e
  obtain ⟨vi, lt, su, la, pw, sh, cp, ha, co⟩ := s
  simp only [fl_1]
  exact c_X4_sign l d x0 (u 21) (u 1) (u 2) (u 3) (u 4) (u 5) (u 6) (u 7) (u 8) (u 9) (u 10) (u 11) (u 12) (u 13) (u 14) (u 15) (u 16) (u 17) (u 18) (u 19) (u 20) pl vi me ins lt su la kp rg pw sh cp dr ha wd co h n nk nc j p q hn hj
set_option maxHeartbeats 4000000 in
set_option maxRecDepth 100000 in
theorem m_cannon (l : Launch) (d : yyD) (x0 : Nat) (u : Nat → Nat) (e : ES) (h : Nat) (s : DS) (x : Int32) (y : Int32) (z : Int32) (hok : okCannon x y z = true) (hk : eNk e < 6) : yyI l yX4_cannon cX4_cannon 4 (some .int) { frames := 1, cells := 0, slots := 0, locals := 24 } d [.ref x0, .int x, .int y, .int z] (fl [mN d x0 u e h s]) (fl [mN d x0 u (caE e x y) h (caS e s z)]) (nI (eNk e)) := by
  obtain ⟨pl, me, ins, n, kp, rg, nk, dr, nc, wd⟩ := e
  obtain ⟨vi, lt, su, la, pw, sh, cp, ha, co⟩ := s
  simp only [fl_1]
  exact c_X4_cannon l d x0 (u 21) (u 1) (u 2) (u 3) (u 4) (u 5) (u 6) (u 7) (u 8) (u 9) (u 10) (u 11) (u 12) (u 13) (u 14) (u 15) (u 16) (u 17) (u 18) (u 19) (u 20) pl vi me ins lt su la kp rg pw sh cp dr ha wd co h n nk nc x y z hok hk
set_option maxHeartbeats 4000000 in
set_option maxRecDepth 100000 in
theorem m_cannon_e (l : Launch) (d : yyD) (x0 : Nat) (u : Nat → Nat) (e : ES) (h : Nat) (s : DS) (x : Int32) (y : Int32) (z : Int32) (hfl : l.stackTraces = false) (hok : okCannon x y z = true) (hk : eNk e = 6) : yyTI l yX4_cannon cX4_cannon 4 (some .int) { frames := 7, cells := 1, slots := 6, locals := 101 } d [.ref x0, .int x, .int y, .int z] (fl [mN d x0 u e h s]) "java/lang/IllegalStateException" := by
  obtain ⟨pl, me, ins, n, kp, rg, nk, dr, nc, wd⟩ := e
  obtain ⟨vi, lt, su, la, pw, sh, cp, ha, co⟩ := s
  simp only [fl_1]
  exact c_X4_cannon_e2 l d x0 (u 21) (u 1) (u 2) (u 3) (u 4) (u 5) (u 6) (u 7) (u 8) (u 9) (u 10) (u 11) (u 12) (u 13) (u 14) (u 15) (u 16) (u 17) (u 18) (u 19) (u 20) pl vi me ins lt su la kp rg pw sh cp dr ha wd co h n nk nc x y z hfl hok hk
set_option maxHeartbeats 4000000 in
set_option maxRecDepth 100000 in
theorem m_load (l : Launch) (d : yyD) (x0 : Nat) (u : Nat → Nat) (e : ES) (h : Nat) (s : DS) (j : Nat) (x : Int32) (hk : eNk e ≤ 6) (hj : j < eNk e) (hok : okLoad x = true) : yyI l yX4_load cX4_load 3 (some .int) { frames := 2, cells := 0, slots := 0, locals := 37 } d [.ref x0, .int (nI j), .int x] (fl [mN d x0 u e h s]) (fl [mN d x0 u e h (loS s j x)]) (mn (sPw s j + x) 60) := by
  obtain ⟨pl, me, ins, n, kp, rg, nk, dr, nc, wd⟩ := e
  obtain ⟨vi, lt, su, la, pw, sh, cp, ha, co⟩ := s
  simp only [fl_1]
  exact c_X4_load l d x0 (u 21) (u 1) (u 2) (u 3) (u 4) (u 5) (u 6) (u 7) (u 8) (u 9) (u 10) (u 11) (u 12) (u 13) (u 14) (u 15) (u 16) (u 17) (u 18) (u 19) (u 20) pl vi me ins lt su la kp rg pw sh cp dr ha wd co h n nk nc j x hk hj hok
set_option maxHeartbeats 4000000 in
set_option maxRecDepth 100000 in
theorem m_gather (l : Launch) (d : yyD) (x0 : Nat) (u : Nat → Nat) (e : ES) (h : Nat) (s : DS) (x : Int32) (y : Int32) (z : Int32) (hok : okGather x y z = true) (hc : eNc e < 20) (h0 : gn (sCp s (eNc e)) = false) (hx : gn x = false) : yyI l yX4_gather cX4_gather 4 (some .int) { frames := 1, cells := 0, slots := 0, locals := 24 } d [.ref x0, .int x, .int y, .int z] (fl [mN d x0 u e h s]) (fl [mN d x0 u (gaE e y) h (gaS e s x z)]) (nI (eNc e)) := by
  obtain ⟨pl, me, ins, n, kp, rg, nk, dr, nc, wd⟩ := e
  obtain ⟨vi, lt, su, la, pw, sh, cp, ha, co⟩ := s
  simp only [fl_1]
  exact c_X4_gather l d x0 (u 21) (u 1) (u 2) (u 3) (u 4) (u 5) (u 6) (u 7) (u 8) (u 9) (u 10) (u 11) (u 12) (u 13) (u 14) (u 15) (u 16) (u 17) (u 18) (u 19) (u 20) pl vi me ins lt su la kp rg pw sh cp dr ha wd co h n nk nc x y z hok hc h0 hx
set_option maxHeartbeats 4000000 in
set_option maxRecDepth 100000 in
theorem m_gather_e (l : Launch) (d : yyD) (x0 : Nat) (u : Nat → Nat) (e : ES) (h : Nat) (s : DS) (x : Int32) (y : Int32) (z : Int32) (hfl : l.stackTraces = false) (hok : okGather x y z = true) (hc : eNc e = 20) : yyTI l yX4_gather cX4_gather 4 (some .int) { frames := 7, cells := 1, slots := 6, locals := 101 } d [.ref x0, .int x, .int y, .int z] (fl [mN d x0 u e h s]) "java/lang/IllegalStateException" := by
  obtain ⟨pl, me, ins, n, kp, rg, nk, dr, nc, wd⟩ := e
  obtain ⟨vi, lt, su, la, pw, sh, cp, ha, co⟩ := s
  simp only [fl_1]
  exact c_X4_gather_e2 l d x0 (u 21) (u 1) (u 2) (u 3) (u 4) (u 5) (u 6) (u 7) (u 8) (u 9) (u 10) (u 11) (u 12) (u 13) (u 14) (u 15) (u 16) (u 17) (u 18) (u 19) (u 20) pl vi me ins lt su la kp rg pw sh cp dr ha wd co h n nk nc x y z hfl hok hc
set_option maxHeartbeats 4000000 in
set_option maxRecDepth 100000 in
theorem m_setWind (l : Launch) (d : yyD) (x0 : Nat) (u : Nat → Nat) (e : ES) (h : Nat) (s : DS) (j : Nat) (x : Int32) (hj : j < 6) (hok : okWind x = true) : yyI l yX4_setWind cX4_setWind 4 (some .int) { frames := 1, cells := 0, slots := 0, locals := 21 } d [.ref x0, .int (nI j), .int x] (fl [mN d x0 u e h s]) (fl [mN d x0 u (wiE e j x) h s]) (eWd e j) := by
  obtain ⟨pl, me, ins, n, kp, rg, nk, dr, nc, wd⟩ := e
  obtain ⟨vi, lt, su, la, pw, sh, cp, ha, co⟩ := s
  simp only [fl_1]
  exact c_X4_setWind l d x0 (u 21) (u 1) (u 2) (u 3) (u 4) (u 5) (u 6) (u 7) (u 8) (u 9) (u 10) (u 11) (u 12) (u 13) (u 14) (u 15) (u 16) (u 17) (u 18) (u 19) (u 20) pl vi me ins lt su la kp rg pw sh cp dr ha wd co h n nk nc j x hj hok
set_option maxHeartbeats 4000000 in
set_option maxRecDepth 100000 in
theorem m_vineyard (l : Launch) (d : yyD) (x0 : Nat) (u : Nat → Nat) (e : ES) (h : Nat) (s : DS) (j : Nat) (w : Nat) (hb : eN e ≤ 10) (hj : j < eN e) (hw : w < 7) : yyI l yX4_vineyard cX4_vineyard 3 (some .int) { frames := 1, cells := 0, slots := 0, locals := 22 } d [.ref x0, .int (nI j), .int (nI w)] (fl [mN d x0 u e h s]) (fl [mN d x0 u e h s]) (yrow e s j w) := by
  obtain ⟨pl, me, ins, n, kp, rg, nk, dr, nc, wd⟩ := e
  obtain ⟨vi, lt, su, la, pw, sh, cp, ha, co⟩ := s
  simp only [fl_1]
  exact c_X4_vineyard l d x0 (u 21) (u 1) (u 2) (u 3) (u 4) (u 5) (u 6) (u 7) (u 8) (u 9) (u 10) (u 11) (u 12) (u 13) (u 14) (u 15) (u 16) (u 17) (u 18) (u 19) (u 20) pl vi me ins lt su la kp rg pw sh cp dr ha wd co h n nk nc j w hb hj hw
set_option maxHeartbeats 4000000 in
set_option maxRecDepth 100000 in
theorem m_about (l : Launch) (d : yyD) (x0 : Nat) (u : Nat → Nat) (e : ES) (h : Nat) (s : DS) (j : Nat) (w : Nat) (hb : eNk e ≤ 6) (hc : eNc e ≤ 20) (hj : j < eNk e) (hw : w < 5) : yyI l yX4_about cX4_about 3 (some .int) { frames := 4, cells := 0, slots := 0, locals := 84 } d [.ref x0, .int (nI j), .int (nI w)] (fl [mN d x0 u e h s]) (fl [mN d x0 u e h s]) (arow e s j w) := by
  obtain ⟨pl, me, ins, n, kp, rg, nk, dr, nc, wd⟩ := e
  obtain ⟨vi, lt, su, la, pw, sh, cp, ha, co⟩ := s
  simp only [fl_1]
  exact c_X4_about l d x0 (u 21) (u 1) (u 2) (u 3) (u 4) (u 5) (u 6) (u 7) (u 8) (u 9) (u 10) (u 11) (u 12) (u 13) (u 14) (u 15) (u 16) (u 17) (u 18) (u 19) (u 20) pl vi me ins lt su la kp rg pw sh cp dr ha wd co h n nk nc j w hb hc hj hw
set_option maxHeartbeats 4000000 in
set_option maxRecDepth 100000 in
theorem m_cloud (l : Launch) (d : yyD) (x0 : Nat) (u : Nat → Nat) (e : ES) (h : Nat) (s : DS) (j : Nat) (w : Nat) (hb : eNc e ≤ 20) (hj : j < eNc e) (hw : w < 4) : yyI l yX4_cloud cX4_cloud 3 (some .int) { frames := 1, cells := 0, slots := 0, locals := 22 } d [.ref x0, .int (nI j), .int (nI w)] (fl [mN d x0 u e h s]) (fl [mN d x0 u e h s]) (crow e s j w) := by
  obtain ⟨pl, me, ins, n, kp, rg, nk, dr, nc, wd⟩ := e
  obtain ⟨vi, lt, su, la, pw, sh, cp, ha, co⟩ := s
  simp only [fl_1]
  exact c_X4_cloud l d x0 (u 21) (u 1) (u 2) (u 3) (u 4) (u 5) (u 6) (u 7) (u 8) (u 9) (u 10) (u 11) (u 12) (u 13) (u 14) (u 15) (u 16) (u 17) (u 18) (u 19) (u 20) pl vi me ins lt su la kp rg pw sh cp dr ha wd co h n nk nc j w hb hj hw
set_option maxHeartbeats 4000000 in
set_option maxRecDepth 100000 in
theorem m_count (l : Launch) (d : yyD) (x0 : Nat) (u : Nat → Nat) (e : ES) (h : Nat) (s : DS) (w : Nat) (hn : eN e ≤ 10) (hk : eNk e ≤ 6) (hc : eNc e ≤ 20) (hh : h < 1000000) (hw : w < 10) : yyI l yX4_count cX4_count 2 (some .int) { frames := 3, cells := 0, slots := 0, locals := 64 } d [.ref x0, .int (nI w)] (fl [mN d x0 u e h s]) (fl [mN d x0 u e h s]) (totF e h s w) := by
  obtain ⟨pl, me, ins, n, kp, rg, nk, dr, nc, wd⟩ := e
  obtain ⟨vi, lt, su, la, pw, sh, cp, ha, co⟩ := s
  simp only [fl_1]
  exact c_X4_count l d x0 (u 21) (u 1) (u 2) (u 3) (u 4) (u 5) (u 6) (u 7) (u 8) (u 9) (u 10) (u 11) (u 12) (u 13) (u 14) (u 15) (u 16) (u 17) (u 18) (u 19) (u 20) pl vi me ins lt su la kp rg pw sh cp dr ha wd co h n nk nc w hn hk hc hh hw
set_option maxHeartbeats 4000000 in
set_option maxRecDepth 100000 in
theorem m_pass (l : Launch) (d : yyD) (x0 : Nat) (u : Nat → Nat) (e : ES) (h : Nat) (s : DS) (hn : eN e ≤ 10) (hk : eNk e ≤ 6) (hc : eNc e ≤ 20) (hh : h < 900000) : yyI l yX4_pass cX4_pass 3 (some .int) { frames := 6, cells := 0, slots := 0, locals := 127 } d [.ref x0, .int (nI 1)] (fl [mN d x0 u e h s]) (fl [mN d x0 u e (h + 1) (hourF e h s)]) (sumF (sLa (hourF e h s)) (eN e) - sumF (sLa s) (eN e)) := by
  obtain ⟨pl, me, ins, n, kp, rg, nk, dr, nc, wd⟩ := e
  obtain ⟨vi, lt, su, la, pw, sh, cp, ha, co⟩ := s
  simp only [fl_1]
  exact c_X4_pass l d x0 (u 21) (u 1) (u 2) (u 3) (u 4) (u 5) (u 6) (u 7) (u 8) (u 9) (u 10) (u 11) (u 12) (u 13) (u 14) (u 15) (u 16) (u 17) (u 18) (u 19) (u 20) pl vi me ins lt su la kp rg pw sh cp dr ha wd co h n nk nc 1 hn hk hc (by omega) (by decide)
set_option maxHeartbeats 4000000 in
set_option maxRecDepth 100000 in
theorem m_hit (l : Launch) (d : yyD) (x0 : Nat) (u : Nat → Nat) (e : ES) (h : Nat) (s : DS) (t : TS) (j : Nat) (hn : eN e ≤ 10) (hk : eNk e ≤ 6) (hc : eNc e ≤ 20) (hj : j < eN e) (hh : h < 900000) : yyIE (S := TS) l yX4_hit cX4_hit 4 (some .int) { frames := 5, cells := 0, slots := 0, locals := 105 } d [.ref x0, .int (nI j)] (fl [mN d x0 u e h s, mT d u t]) (fun t2 => (fl [mN d x0 u e h s, mT d u t2])) (hitF e h s j) := by
  obtain ⟨pl, me, ins, n, kp, rg, nk, dr, nc, wd⟩ := e
  obtain ⟨vi, lt, su, la, pw, sh, cp, ha, co⟩ := s
  simp only [fl_1, fl_2]
  exact c_X4_hit l d x0 (u 1) (u 2) (u 3) (u 4) (u 5) (u 6) (u 7) (u 8) (u 9) (u 10) (u 11) (u 12) (u 13) (u 14) (u 15) (u 16) (u 17) (u 18) (u 19) (u 20) pl vi me ins lt su la kp rg pw sh cp dr ha wd co h n nk nc (u 21) (u 22) (u 23) (u 24) (u 25) (u 26) (u 27) (u 28) (u 29) (u 30) (u 31) (u 32) (u 33) (u 34) (u 35) (u 36) (u 37) (u 38) (u 39) (u 40) t j hn hk hc hj hh
set_option maxHeartbeats 4000000 in
set_option maxRecDepth 100000 in
theorem m_foresee (l : Launch) (d : yyD) (x0 : Nat) (u : Nat → Nat) (e : ES) (h : Nat) (s : DS) (t : TS) (w : Nat) (hn : eN e ≤ 10) (hk : eNk e ≤ 6) (hc : eNc e ≤ 20) (hh : h < 900000) (hw : w = 2 ∨ w = 3 ∨ w = 4 ∨ w = 5 ∨ w = 8) : yyIE (S := TS) l yX4_foresee cX4_foresee 3 (some .int) { frames := 6, cells := 0, slots := 0, locals := 127 } d [.ref x0, .int (nI 1), .int (nI w)] (fl [mN d x0 u e h s, mT d u t]) (fun t2 => (fl [mN d x0 u e h s, mT d u t2])) (totF e (h + 1) (hourF e h s) w) := by
  obtain ⟨pl, me, ins, n, kp, rg, nk, dr, nc, wd⟩ := e
  obtain ⟨vi, lt, su, la, pw, sh, cp, ha, co⟩ := s
  simp only [fl_1, fl_2]
  exact c_X4_foresee l d x0 (u 1) (u 2) (u 3) (u 4) (u 5) (u 6) (u 7) (u 8) (u 9) (u 10) (u 11) (u 12) (u 13) (u 14) (u 15) (u 16) (u 17) (u 18) (u 19) (u 20) pl vi me ins lt su la kp rg pw sh cp dr ha wd co h n nk nc (u 21) (u 22) (u 23) (u 24) (u 25) (u 26) (u 27) (u 28) (u 29) (u 30) (u 31) (u 32) (u 33) (u 34) (u 35) (u 36) (u 37) (u 38) (u 39) (u 40) t 1 w hn hk hc (by omega) (by decide) hw
set_option maxHeartbeats 4000000 in
set_option maxRecDepth 100000 in
theorem m_advise (l : Launch) (d : yyD) (x0 : Nat) (u : Nat → Nat) (e : ES) (h : Nat) (s : DS) (t : TS) (j : Nat) (hn : eN e ≤ 10) (hk : eNk e ≤ 6) (hc : eNc e ≤ 20) (hj : j < eNk e) (hh : h < 900000) : yyIE (S := TS) l yX4_advise cX4_advise 7 (some .int) { frames := 6, cells := 0, slots := 0, locals := 129 } d [.ref x0, .int (nI j), .int (nI 6)] (fl [mN d x0 u e h s, mT d u t]) (fun t2 => (fl [mN d x0 u e h s, mT d u t2])) (advF e h s j 6) := by
  obtain ⟨pl, me, ins, n, kp, rg, nk, dr, nc, wd⟩ := e
  obtain ⟨vi, lt, su, la, pw, sh, cp, ha, co⟩ := s
  simp only [fl_1, fl_2]
  exact c_X4_advise l d x0 (u 1) (u 2) (u 3) (u 4) (u 5) (u 6) (u 7) (u 8) (u 9) (u 10) (u 11) (u 12) (u 13) (u 14) (u 15) (u 16) (u 17) (u 18) (u 19) (u 20) pl vi me ins lt su la kp rg pw sh cp dr ha wd co h n nk nc (u 21) (u 22) (u 23) (u 24) (u 25) (u 26) (u 27) (u 28) (u 29) (u 30) (u 31) (u 32) (u 33) (u 34) (u 35) (u 36) (u 37) (u 38) (u 39) (u 40) t j 6 hn hk hc hj (by omega) (by decide)
set_option maxHeartbeats 4000000 in
set_option maxRecDepth 100000 in
theorem m_move (l : Launch) (d : yyD) (x0 : Nat) (u : Nat → Nat) (e : ES) (h : Nat) (s : DS) (j : Nat) (x : Int32) (hk : eNk e ≤ 6) (hj : j < eNk e) (hpl : isPl x = true) : yyI l yX4_move cX4_move 4 (some .int) { frames := 1, cells := 0, slots := 0, locals := 21 } d [.ref x0, .int (nI j), .int x] (fl [mN d x0 u e h s]) (fl [mN d x0 u (moE e j x) h (moS s)]) (eKp e j) := by
  obtain ⟨pl, me, ins, n, kp, rg, nk, dr, nc, wd⟩ := e
  obtain ⟨vi, lt, su, la, pw, sh, cp, ha, co⟩ := s
  simp only [fl_1]
  exact c_X4_move l d x0 (u 21) (u 1) (u 2) (u 3) (u 4) (u 5) (u 6) (u 7) (u 8) (u 9) (u 10) (u 11) (u 12) (u 13) (u 14) (u 15) (u 16) (u 17) (u 18) (u 19) (u 20) pl vi me ins lt su la kp rg pw sh cp dr ha wd co h n nk nc j x hk hj hpl
set_option maxHeartbeats 4000000 in
set_option maxRecDepth 100000 in
theorem m_mean (l : Launch) (d : yyD) (x0 : Nat) (u : Nat → Nat) (e : ES) (h : Nat) (s : DS) (hn : eN e ≤ 10) : yyM l yX4_mean cX4_mean 1 (some .double) { frames := 2, cells := 0, slots := 0, locals := 43 } d [.ref x0] (fl [mN d x0 u e h s]) (fl [mN d x0 u e h s]) (meanF (sVi s) (eN e)) := by
  obtain ⟨pl, me, ins, n, kp, rg, nk, dr, nc, wd⟩ := e
  obtain ⟨vi, lt, su, la, pw, sh, cp, ha, co⟩ := s
  simp only [fl_1]
  exact c_X4_mean l d x0 (u 21) (u 1) (u 2) (u 3) (u 4) (u 5) (u 6) (u 7) (u 8) (u 9) (u 10) (u 11) (u 12) (u 13) (u 14) (u 15) (u 16) (u 17) (u 18) (u 19) (u 20) pl vi me ins lt su la kp rg pw sh cp dr ha wd co h n nk nc hn
set_option maxHeartbeats 4000000 in
set_option maxRecDepth 100000 in
theorem m_digest (l : Launch) (d : yyD) (x0 : Nat) (u : Nat → Nat) (e : ES) (h : Nat) (s : DS) (hn : eN e ≤ 10) (hk : eNk e ≤ 6) (hc : eNc e ≤ 20) (hh : h < 1000000) : yyL l yX4_digest cX4_digest 4 (some .long) { frames := 5, cells := 0, slots := 0, locals := 110 } d [.ref x0] (fl [mN d x0 u e h s]) (fl [mN d x0 u e h s]) (digM e h s) := by
  obtain ⟨pl, me, ins, n, kp, rg, nk, dr, nc, wd⟩ := e
  obtain ⟨vi, lt, su, la, pw, sh, cp, ha, co⟩ := s
  simp only [fl_1]
  exact c_X4_digest l d x0 (u 21) (u 1) (u 2) (u 3) (u 4) (u 5) (u 6) (u 7) (u 8) (u 9) (u 10) (u 11) (u 12) (u 13) (u 14) (u 15) (u 16) (u 17) (u 18) (u 19) (u 20) pl vi me ins lt su la kp rg pw sh cp dr ha wd co h n nk nc hn hk hc hh
set_option maxHeartbeats 4000000 in
set_option maxRecDepth 100000 in
theorem m_init (l : Launch) (d : yyD) (x0 : Nat) : yyV (S := Nat → Nat) l yX4_init cX4_init 1 { frames := 3, cells := 40, slots := 408, locals := 52 } d [.ref x0] (fl [[(x0, .inr (4, [.null, .null]))]]) (fun _ => True) (fun u => fl [mN d x0 u e00 0 s00, mT d u t00]) := by
  simp only [fl_2]
  exact c_X4_init l d x0
