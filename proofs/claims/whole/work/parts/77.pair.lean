section PAIR
variable {G : MG} {d : Nat} {h : MH} {a : AS}
theorem qI_ci {r : Int32} {rv : Option Value} {h1 : MH} (q : qI r h rv h1) (ci : CI h a) : rv = some (.int r) ∧ hiS h h1 ∧ CI h1 a := by
  obtain ⟨e, rfl⟩ := q; exact ⟨e, hi_rf ci⟩
theorem qI_ri {r : Int32} {rv : Option Value} {h1 h2 : MH} (q : qI r h1 rv h2) (ri : RI h1 a) : rv = some (.int r) ∧ loS h1 h2 ∧ RI h2 a := by
  obtain ⟨e, rfl⟩ := q; exact ⟨e, lo_rf ri⟩
theorem qL_ci {r : Int64} {rv : Option Value} {h1 : MH} (q : qL r h rv h1) (ci : CI h a) : rv = some (.long r) ∧ hiS h h1 ∧ CI h1 a := by
  obtain ⟨e, rfl⟩ := q; exact ⟨e, hi_rf ci⟩
theorem qL_ri {r : Int64} {rv : Option Value} {h1 h2 : MH} (q : qL r h1 rv h2) (ri : RI h1 a) : rv = some (.long r) ∧ loS h1 h2 ∧ RI h2 a := by
  obtain ⟨e, rfl⟩ := q; exact ⟨e, lo_rf ri⟩
theorem prI_up {M M' : MI} {av : List Value} {a' : AS} {x : Int32} (ri : RI h a) (c : Cl G d M (.ref 0 :: av) h (fun rv h1 => rv = some (.int x) ∧ hiS h h1 ∧ CI h1 a')) (m : ∀ h1, RI h1 a → Cl G d M' (.ref 67 :: av) h1 (fun rv h2 => rv = some (.int x) ∧ loS h1 h2 ∧ RI h2 a')) (ok : OKA a') : PrI G d M M' av h := prI_mk ok ri c m
theorem okI_nil : okI [] := ⟨by decide, fun i hi => absurd hi (Nat.not_lt_zero _)⟩
theorem prL_gen {I : List Nat} : ∀ (k p : Nat) (s : Ps) (K : List Nat), wPs s → prF I k p s = .inr K → okL K
  | 0, p, s, K => fun w e => by
    rw [prF] at e
    by_cases c : s.1 = 0
    · rw [if_pos c] at e; cases e
    · rw [if_neg c] at e; cases e
      exact okL_snoc w.2.1 (by have := w.2.2.1; omega) (wPs_c w c)
  | k + 1, p, s, K => fun w e => by
    rw [prF] at e
    cases hp : pst (I.getD p 0) s with
    | none => rw [hp] at e; cases e
    | some s' => rw [hp] at e; exact prL_gen k (p + 1) s' K (wPs_s w hp) e
theorem prL_ok {I L : List Nat} (o : okI I) (l : okL L) : okL (prL L (prR I)) := by
  cases e : prR I with
  | inl p => exact l
  | inr K => exact prL_gen I.length 0 (0, 0, 0, []) K ⟨by decide, okL_nil, by decide, fun z => absurd z (by decide), fun z => absurd z (by decide), fun z => absurd z (by decide)⟩ e
theorem pr_vertexCount {x y z : Int32} (ok : OKA a) (ci : CI h a) (ri : RI h a) : PrI G (d + 12) M_X11_vertexCount M_X12_vertexCount [] h :=
  prI_mk ok ri (cl_mono (fun rv h1 q => qI_ci q ci) (cl_vertexCountC ci.g)) (fun h1 r1 => cl_mono (fun rv h2 p => qI_ri p r1) (cl_vertexCountM r1.g))
theorem pr_edgeCount {x y z : Int32} (ok : OKA a) (ci : CI h a) (ri : RI h a) : PrI G (d + 12) M_X11_edgeCount M_X12_edgeCount [] h :=
  prI_mk ok ri (cl_mono (fun rv h1 q => qI_ci q ci) (cl_edgeCountC ci.g ok.g)) (fun h1 r1 => cl_mono (fun rv h2 p => qI_ri p r1) (cl_edgeCountM r1.g ok.g))
theorem pr_neighbors {x y z : Int32} (ok : OKA a) (ci : CI h a) (ri : RI h a) : PrI G (d + 12) M_X11_neighbors M_X12_neighbors [.int x] h :=
  prI_mk ok ri (cl_mono (fun rv h1 q => qI_ci q ci) (cl_neighborsC ci.g ok.g)) (fun h1 r1 => cl_mono (fun rv h2 p => qI_ri p r1) (cl_neighborsM r1.g ok.g))
theorem pr_componentCount {x y z : Int32} (ok : OKA a) (ci : CI h a) (ri : RI h a) : PrI G (d + 12) M_X11_componentCount M_X12_componentCount [] h :=
  prI_mk ok ri (cl_mono (fun rv h1 q => qI_ci q ci) (cl_componentCountC ci.g ok.g)) (fun h1 r1 => cl_mono (fun rv h2 p => qI_ri p r1) (cl_componentCountM r1.g ok.g))
theorem pr_hasOddCycle {x y z : Int32} (ok : OKA a) (ci : CI h a) (ri : RI h a) : PrI G (d + 12) M_X11_hasOddCycle M_X12_hasOddCycle [] h :=
  prI_mk ok ri (cl_mono (fun rv h1 q => qI_ci q ci) (cl_hasOddCycleC ci.g ok.g)) (fun h1 r1 => cl_mono (fun rv h2 p => qI_ri p r1) (cl_hasOddCycleM r1.g ok.g))
theorem pr_matchingNumber {x y z : Int32} (ok : OKA a) (ci : CI h a) (ri : RI h a) : PrI G (d + 12) M_X11_matchingNumber M_X12_matchingNumber [] h :=
  prI_mk ok ri (cl_mono (fun rv h1 q => ⟨q.1, CI_i ci q.2.1 q.2.2⟩) (cl_matchingNumberC ci.g ok.g ci.c)) (fun h1 r1 => cl_mono (fun rv h2 p => qI_ri p r1) (cl_matchingNumberM r1.g ok.g))
theorem pr_coverCount {x y z : Int32} (ok : OKA a) (ci : CI h a) (ri : RI h a) : PrI G (d + 12) M_X11_coverCount M_X12_coverCount [] h :=
  prI_mk ok ri (cl_mono (fun rv h1 q => ⟨q.1, CI_i ci q.2.1 q.2.2⟩) (cl_coverCountC ci.g ok.g ci.c)) (fun h1 r1 => cl_mono (fun rv h2 p => ⟨p.1, RI_m r1 p.2.1 p.2.2⟩) (cl_coverCountM r1.g ok.g r1.c))
theorem pr_cover {x y z : Int32} (ok : OKA a) (ci : CI h a) (ri : RI h a) : PrI G (d + 12) M_X11_cover M_X12_cover [.int x] h :=
  prI_mk ok ri (cl_mono (fun rv h1 q => ⟨q.1, CI_i ci q.2.1 q.2.2⟩) (cl_coverC ci.g ok.g ci.c)) (fun h1 r1 => cl_mono (fun rv h2 p => ⟨p.1, RI_m r1 p.2.1 p.2.2⟩) (cl_coverM r1.g ok.g r1.c))
theorem pr_height {x y z : Int32} (ok : OKA a) (ci : CI h a) (ri : RI h a) : PrI G (d + 12) M_X11_height M_X12_height [] h :=
  prI_mk ok ri (cl_mono (fun rv h1 q => ⟨q.1, CI_i ci q.2.1 q.2.2⟩) (cl_heightC ci.g ok.g ci.c)) (fun h1 r1 => cl_mono (fun rv h2 p => ⟨p.1, RI_m r1 p.2.1 p.2.2⟩) (cl_heightM r1.g ok.g r1.c))
theorem pr_bigHeight {x y z : Int32} (ok : OKA a) (ci : CI h a) (ri : RI h a) : PrI G (d + 12) M_X11_bigHeight M_X12_bigHeight [] h :=
  prI_mk ok ri (cl_mono (fun rv h1 q => ⟨q.1, CI_i ci q.2.1 q.2.2⟩) (cl_bigHeightC ci.g ok.g ci.c)) (fun h1 r1 => cl_mono (fun rv h2 p => ⟨p.1, RI_m r1 p.2.1 p.2.2⟩) (cl_bigHeightM r1.g ok.g r1.c))
theorem pr_eliminationLength {x y z : Int32} (ok : OKA a) (ci : CI h a) (ri : RI h a) : PrI G (d + 12) M_X11_eliminationLength M_X12_eliminationLength [.int x] h :=
  prI_mk ok ri (cl_mono (fun rv h1 q => ⟨q.1, CI_e ci q.2⟩) (cl_eliminationLengthC ci.g ok.g)) (fun h1 r1 => cl_mono (fun rv h2 p => ⟨p.1, RI_m r1 p.2.1 p.2.2⟩) (cl_eliminationLengthM r1.g ok.g r1.c))
theorem pr_eliminated {x y z : Int32} (ok : OKA a) (ci : CI h a) (ri : RI h a) : PrI G (d + 12) M_X11_eliminated M_X12_eliminated [.int x, .int y] h :=
  prI_mk ok ri (cl_mono (fun rv h1 q => ⟨q.1, CI_e ci q.2⟩) (cl_eliminatedC ci.g ok.g)) (fun h1 r1 => cl_mono (fun rv h2 p => ⟨p.1, RI_m r1 p.2.1 p.2.2⟩) (cl_eliminatedM r1.g ok.g r1.c))
theorem pr_isChordal {x y z : Int32} (ok : OKA a) (ci : CI h a) (ri : RI h a) : PrI G (d + 12) M_X11_isChordal M_X12_isChordal [.int x] h :=
  prI_mk ok ri (cl_mono (fun rv h1 q => ⟨q.1, CI_e ci q.2⟩) (cl_isChordalC ci.g ok.g)) (fun h1 r1 => cl_mono (fun rv h2 p => ⟨p.1, RI_m r1 p.2.1 p.2.2⟩) (cl_isChordalM r1.g ok.g r1.c))
theorem pr_degree {x y z : Int32} (ok : OKA a) (ci : CI h a) (ri : RI h a) : PrI G (d + 12) M_X11_degree M_X12_degree [.int x] h :=
  prI_mk ok ri (cl_mono (fun rv h1 q => qI_ci q ci) (cl_degreeC ci.g ok.g)) (fun h1 r1 => cl_mono (fun rv h2 p => qI_ri p r1) (cl_degreeM r1.g ok.g))
theorem pr_exponent {x y z : Int32} (ok : OKA a) (ci : CI h a) (ri : RI h a) : PrI G (d + 12) M_X11_exponent M_X12_exponent [.int x, .int y] h :=
  prI_mk ok ri (cl_mono (fun rv h1 q => qI_ci q ci) (cl_exponentC ci.g ok.g)) (fun h1 r1 => cl_mono (fun rv h2 p => qI_ri p r1) (cl_exponentM r1.g ok.g))
theorem pr_powerOrder {x y z : Int32} (ok : OKA a) (ci : CI h a) (ri : RI h a) : PrI G (d + 12) M_X11_powerOrder M_X12_powerOrder [.int x] h :=
  prI_mk ok ri (cl_mono (fun rv h1 q => ⟨q.1, CI_i ci q.2.1 q.2.2⟩) (cl_powerOrderC ci.g ok.g ci.c)) (fun h1 r1 => cl_mono (fun rv h2 p => ⟨p.1, RI_m r1 p.2.1 p.2.2⟩) (cl_powerOrderM r1.g ok.g r1.c))
theorem pr_symbolicOrder {x y z : Int32} (ok : OKA a) (ci : CI h a) (ri : RI h a) : PrI G (d + 12) M_X11_symbolicOrder M_X12_symbolicOrder [.int x] h :=
  prI_mk ok ri (cl_mono (fun rv h1 q => ⟨q.1, CI_i ci q.2.1 q.2.2⟩) (cl_symbolicOrderC ci.g ok.g ci.c)) (fun h1 r1 => cl_mono (fun rv h2 p => ⟨p.1, RI_m r1 p.2.1 p.2.2⟩) (cl_symbolicOrderM r1.g ok.g r1.c))
theorem pr_multiply {x y z : Int32} (ok : OKA a) (ci : CI h a) (ri : RI h a) : PrI G (d + 12) M_X11_multiply M_X12_multiply [.int x, .int y] h :=
  prI_mk ok ri (cl_mono (fun rv h1 q => qI_ci q ci) (cl_multiplyC ci.g ok.g)) (fun h1 r1 => cl_mono (fun rv h2 p => qI_ri p r1) (cl_multiplyM r1.g ok.g))
theorem pr_divide {x y z : Int32} (ok : OKA a) (ci : CI h a) (ri : RI h a) : PrI G (d + 12) M_X11_divide M_X12_divide [.int x, .int y] h :=
  prI_mk ok ri (cl_mono (fun rv h1 q => qI_ci q ci) (cl_divideC ci.g ok.g)) (fun h1 r1 => cl_mono (fun rv h2 p => qI_ri p r1) (cl_divideM r1.g ok.g))
theorem pr_lcm {x y z : Int32} (ok : OKA a) (ci : CI h a) (ri : RI h a) : PrI G (d + 12) M_X11_lcm M_X12_lcm [.int x, .int y] h :=
  prI_mk ok ri (cl_mono (fun rv h1 q => qI_ci q ci) (cl_lcmC ci.g ok.g)) (fun h1 r1 => cl_mono (fun rv h2 p => qI_ri p r1) (cl_lcmM r1.g ok.g))
theorem pr_gcd {x y z : Int32} (ok : OKA a) (ci : CI h a) (ri : RI h a) : PrI G (d + 12) M_X11_gcd M_X12_gcd [.int x, .int y] h :=
  prI_mk ok ri (cl_mono (fun rv h1 q => qI_ci q ci) (cl_gcdC ci.g ok.g)) (fun h1 r1 => cl_mono (fun rv h2 p => qI_ri p r1) (cl_gcdM r1.g ok.g))
theorem pr_generatorCount {x y z : Int32} (ok : OKA a) (ci : CI h a) (ri : RI h a) : PrI G (d + 12) M_X11_generatorCount M_X12_generatorCount [.int x] h :=
  prI_mk ok ri (cl_mono (fun rv h1 q => ⟨q.1, CI_i ci q.2.1 q.2.2⟩) (cl_generatorCountC ci.g ok.g ci.c)) (fun h1 r1 => cl_mono (fun rv h2 p => ⟨p.1, RI_m r1 p.2.1 p.2.2⟩) (cl_generatorCountM r1.g ok.g r1.c))
theorem pr_generator {x y z : Int32} (ok : OKA a) (ci : CI h a) (ri : RI h a) : PrI G (d + 12) M_X11_generator M_X12_generator [.int x, .int y] h :=
  prI_mk ok ri (cl_mono (fun rv h1 q => ⟨q.1, CI_i ci q.2.1 q.2.2⟩) (cl_generatorC ci.g ok.g ci.c)) (fun h1 r1 => cl_mono (fun rv h2 p => ⟨p.1, RI_m r1 p.2.1 p.2.2⟩) (cl_generatorM r1.g ok.g r1.c))
theorem pr_symbolicGeneratorCount {x y z : Int32} (ok : OKA a) (ci : CI h a) (ri : RI h a) : PrI G (d + 12) M_X11_symbolicGeneratorCount M_X12_symbolicGeneratorCount [.int x] h :=
  prI_mk ok ri (cl_mono (fun rv h1 q => ⟨q.1, CI_i ci q.2.1 q.2.2⟩) (cl_symbolicGeneratorCountC ci.g ok.g ci.c)) (fun h1 r1 => cl_mono (fun rv h2 p => ⟨p.1, RI_m r1 p.2.1 p.2.2⟩) (cl_symbolicGeneratorCountM r1.g ok.g r1.c))
theorem pr_symbolicGenerator {x y z : Int32} (ok : OKA a) (ci : CI h a) (ri : RI h a) : PrI G (d + 12) M_X11_symbolicGenerator M_X12_symbolicGenerator [.int x, .int y] h :=
  prI_mk ok ri (cl_mono (fun rv h1 q => ⟨q.1, CI_i ci q.2.1 q.2.2⟩) (cl_symbolicGeneratorC ci.g ok.g ci.c)) (fun h1 r1 => cl_mono (fun rv h2 p => ⟨p.1, RI_m r1 p.2.1 p.2.2⟩) (cl_symbolicGeneratorM r1.g ok.g r1.c))
theorem pr_powersAgree {x y z : Int32} (ok : OKA a) (ci : CI h a) (ri : RI h a) : PrI G (d + 12) M_X11_powersAgree M_X12_powersAgree [.int x] h :=
  prI_mk ok ri (cl_mono (fun rv h1 q => ⟨q.1, CI_i ci q.2.1 q.2.2⟩) (cl_powersAgreeC ci.g ok.g ci.c)) (fun h1 r1 => cl_mono (fun rv h2 p => ⟨p.1, RI_m r1 p.2.1 p.2.2⟩) (cl_powersAgreeM r1.g ok.g r1.c))
theorem pr_firstDifference {x y z : Int32} (ok : OKA a) (ci : CI h a) (ri : RI h a) : PrI G (d + 12) M_X11_firstDifference M_X12_firstDifference [.int x] h :=
  prI_mk ok ri (cl_mono (fun rv h1 q => ⟨q.1, CI_i ci q.2.1 q.2.2⟩) (cl_firstDifferenceC ci.g ok.g ci.c)) (fun h1 r1 => cl_mono (fun rv h2 p => ⟨p.1, RI_m r1 p.2.1 p.2.2⟩) (cl_firstDifferenceM r1.g ok.g r1.c))
theorem pr_countInPower {x y z : Int32} (ok : OKA a) (ci : CI h a) (ri : RI h a) : PrI G (d + 12) M_X11_countInPower M_X12_countInPower [.int x, .int y] h :=
  prI_mk ok ri (cl_mono (fun rv h1 q => ⟨q.1, CI_i ci q.2.1 q.2.2⟩) (cl_countInPowerC ci.g ok.g ci.c)) (fun h1 r1 => cl_mono (fun rv h2 p => ⟨p.1, RI_m r1 p.2.1 p.2.2⟩) (cl_countInPowerM r1.g ok.g r1.c))
theorem pr_countInSymbolicPower {x y z : Int32} (ok : OKA a) (ci : CI h a) (ri : RI h a) : PrI G (d + 12) M_X11_countInSymbolicPower M_X12_countInSymbolicPower [.int x, .int y] h :=
  prI_mk ok ri (cl_mono (fun rv h1 q => ⟨q.1, CI_i ci q.2.1 q.2.2⟩) (cl_countInSymbolicPowerC ci.g ok.g ci.c)) (fun h1 r1 => cl_mono (fun rv h2 p => ⟨p.1, RI_m r1 p.2.1 p.2.2⟩) (cl_countInSymbolicPowerM r1.g ok.g r1.c))
theorem pr_orderedGenerator {x y z : Int32} (ok : OKA a) (ci : CI h a) (ri : RI h a) : PrI G (d + 12) M_X11_orderedGenerator M_X12_orderedGenerator [.int x, .int y, .int z] h :=
  prI_mk ok ri (cl_mono (fun rv h1 q => ⟨q.1, CI_l ci q.2⟩) (cl_orderedGeneratorC ci.g ok.g ci.c ci.q)) (fun h1 r1 => cl_mono (fun rv h2 p => ⟨p.1, RI_m r1 p.2.1 p.2.2⟩) (cl_orderedGeneratorM r1.g ok.g r1.c))
theorem pr_colonVariables {x y z : Int32} (ok : OKA a) (ci : CI h a) (ri : RI h a) : PrI G (d + 12) M_X11_colonVariables M_X12_colonVariables [.int x, .int y, .int z] h :=
  prI_mk ok ri (cl_mono (fun rv h1 q => ⟨q.1, CI_l ci q.2⟩) (cl_colonVariablesC ci.g ok.g ci.c ci.q)) (fun h1 r1 => cl_mono (fun rv h2 p => ⟨p.1, RI_m r1 p.2.1 p.2.2⟩) (cl_colonVariablesM r1.g ok.g r1.c))
theorem pr_isLinearStep {x y z : Int32} (ok : OKA a) (ci : CI h a) (ri : RI h a) : PrI G (d + 12) M_X11_isLinearStep M_X12_isLinearStep [.int x, .int y, .int z] h :=
  prI_mk ok ri (cl_mono (fun rv h1 q => ⟨q.1, CI_l ci q.2⟩) (cl_isLinearStepC ci.g ok.g ci.c ci.q)) (fun h1 r1 => cl_mono (fun rv h2 p => ⟨p.1, RI_m r1 p.2.1 p.2.2⟩) (cl_isLinearStepM r1.g ok.g r1.c))
theorem pr_firstNonLinearStep {x y z : Int32} (ok : OKA a) (ci : CI h a) (ri : RI h a) : PrI G (d + 12) M_X11_firstNonLinearStep M_X12_firstNonLinearStep [.int x, .int y] h :=
  prI_mk ok ri (cl_mono (fun rv h1 q => ⟨q.1, CI_l ci q.2⟩) (cl_firstNonLinearStepC ci.g ok.g ci.c ci.q)) (fun h1 r1 => cl_mono (fun rv h2 p => ⟨p.1, RI_m r1 p.2.1 p.2.2⟩) (cl_firstNonLinearStepM r1.g ok.g r1.c))
theorem pr_bettiNumber {x y z : Int32} (ok : OKA a) (ci : CI h a) (ri : RI h a) : PrL G (d + 12) M_X11_bettiNumber M_X12_bettiNumber [.int x, .int y, .int z] h :=
  prL_mk ok ri (cl_mono (fun rv h1 q => ⟨q.1, CI_l ci q.2⟩) (cl_bettiNumberC ci.g ok.g ci.c ci.q)) (fun h1 r1 => cl_mono (fun rv h2 p => ⟨p.1, RI_m r1 p.2.1 p.2.2⟩) (cl_bettiNumberM r1.g ok.g r1.c))
theorem pr_addDegreeTest {x y z : Int32} (ok : OKA a) (ci : CI h a) (ri : RI h a) : PrI G (d + 12) M_X11_addDegreeTest M_X12_addDegreeTest [.int x] h :=
  prI_up (a' := AS.mk a.n a.N a.HL (addL a.T (rg x 0 21) (0, x.toNatClampNeg, 0)) a.L a.I a.S a.P) ri (cl_mono (fun rv h1 q => ⟨q.1, CI_T ci q.2.1 q.2.2⟩) (cl_addDegreeTestC ci.t ok.t)) (fun h1 r1 => cl_mono (fun rv h2 p => ⟨p.1, RI_T r1 p.2.1 p.2.2⟩) (cl_addDegreeTestM r1.t ok.t)) (⟨ok.g, ok.hl, ok.hg, addL_ok ok.t (fun hP => by
    obtain ⟨j, h1, h2, rfl⟩ := hP
    rw [nI_clamp (show j < 2 ^ 31 by omega)]
    exact ⟨by simp, by show j ≤ 21; omega, by simp, fun z => absurd z (by simp), fun z => absurd z (by simp), fun z => absurd z (by simp)⟩), ok.l, ok.i, ok.s, okN_add ok.p⟩)
theorem pr_addExponentTest {x y z : Int32} (ok : OKA a) (ci : CI h a) (ri : RI h a) : PrI G (d + 12) M_X11_addExponentTest M_X12_addExponentTest [.int x, .int y] h :=
  prI_up (a' := AS.mk a.n a.N a.HL (addL a.T (rg x 0 6 ∧ rg y 0 3) (1, x.toNatClampNeg, y.toNatClampNeg)) a.L a.I a.S a.P) ri (cl_mono (fun rv h1 q => ⟨q.1, CI_T ci q.2.1 q.2.2⟩) (cl_addExponentTestC ci.t ok.t)) (fun h1 r1 => cl_mono (fun rv h2 p => ⟨p.1, RI_T r1 p.2.1 p.2.2⟩) (cl_addExponentTestM r1.t ok.t)) (⟨ok.g, ok.hl, ok.hg, addL_ok ok.t (fun hP => by
    obtain ⟨⟨j, h1, h2, rfl⟩, ⟨k, h3, h4, rfl⟩⟩ := hP
    rw [nI_clamp (show j < 2 ^ 31 by omega), nI_clamp (show k < 2 ^ 31 by omega)]
    exact ⟨by simp, by show j ≤ 21; omega, by show k ≤ 21; omega, fun z => ⟨by show j < 7; omega, by show k ≤ 3; omega⟩, fun z => absurd z (by simp), fun z => absurd z (by simp)⟩), ok.l, ok.i, ok.s, okN_add ok.p⟩)
theorem pr_addSquareFreeTest {x y z : Int32} (ok : OKA a) (ci : CI h a) (ri : RI h a) : PrI G (d + 12) M_X11_addSquareFreeTest M_X12_addSquareFreeTest [] h :=
  prI_up (a' := AS.mk a.n a.N a.HL (addL a.T (True) (2, 0, 0)) a.L a.I a.S a.P) ri (cl_mono (fun rv h1 q => ⟨q.1, CI_T ci q.2.1 q.2.2⟩) (cl_addSquareFreeTestC ci.t ok.t)) (fun h1 r1 => cl_mono (fun rv h2 p => ⟨p.1, RI_T r1 p.2.1 p.2.2⟩) (cl_addSquareFreeTestM r1.t ok.t)) (⟨ok.g, ok.hl, ok.hg, addL_ok ok.t (fun _ => ⟨by simp, by simp, by simp, fun z => absurd z (by simp), fun z => absurd z (by simp), fun z => absurd z (by simp)⟩), ok.l, ok.i, ok.s, okN_add ok.p⟩)
theorem pr_addPowerTest {x y z : Int32} (ok : OKA a) (ci : CI h a) (ri : RI h a) : PrI G (d + 12) M_X11_addPowerTest M_X12_addPowerTest [.int x] h :=
  prI_up (a' := AS.mk a.n a.N a.HL (addL a.T (rg x 1 3) (3, x.toNatClampNeg, 0)) a.L a.I a.S a.P) ri (cl_mono (fun rv h1 q => ⟨q.1, CI_T ci q.2.1 q.2.2⟩) (cl_addPowerTestC ci.t ok.t)) (fun h1 r1 => cl_mono (fun rv h2 p => ⟨p.1, RI_T r1 p.2.1 p.2.2⟩) (cl_addPowerTestM r1.t ok.t)) (⟨ok.g, ok.hl, ok.hg, addL_ok ok.t (fun hP => by
    obtain ⟨j, h1, h2, rfl⟩ := hP
    rw [nI_clamp (show j < 2 ^ 31 by omega)]
    exact ⟨by simp, by show j ≤ 21; omega, by simp, fun z => absurd z (by simp), fun z => absurd z (by simp), fun z => absurd z (by simp)⟩), ok.l, ok.i, ok.s, okN_add ok.p⟩)
theorem pr_addSymbolicTest {x y z : Int32} (ok : OKA a) (ci : CI h a) (ri : RI h a) : PrI G (d + 12) M_X11_addSymbolicTest M_X12_addSymbolicTest [.int x] h :=
  prI_up (a' := AS.mk a.n a.N a.HL (addL a.T (rg x 1 3) (4, x.toNatClampNeg, 0)) a.L a.I a.S a.P) ri (cl_mono (fun rv h1 q => ⟨q.1, CI_T ci q.2.1 q.2.2⟩) (cl_addSymbolicTestC ci.t ok.t)) (fun h1 r1 => cl_mono (fun rv h2 p => ⟨p.1, RI_T r1 p.2.1 p.2.2⟩) (cl_addSymbolicTestM r1.t ok.t)) (⟨ok.g, ok.hl, ok.hg, addL_ok ok.t (fun hP => by
    obtain ⟨j, h1, h2, rfl⟩ := hP
    rw [nI_clamp (show j < 2 ^ 31 by omega)]
    exact ⟨by simp, by show j ≤ 21; omega, by simp, fun z => absurd z (by simp), fun z => absurd z (by simp), fun z => absurd z (by simp)⟩), ok.l, ok.i, ok.s, okN_add ok.p⟩)
theorem pr_addAndTest {x y z : Int32} (ok : OKA a) (ci : CI h a) (ri : RI h a) : PrI G (d + 12) M_X11_addAndTest M_X12_addAndTest [.int x, .int y] h :=
  prI_up (a' := AS.mk a.n a.N a.HL (addL a.T (inR x a.T.length ∧ inR y a.T.length) (5, x.toNatClampNeg, y.toNatClampNeg)) a.L a.I a.S a.P) ri (cl_mono (fun rv h1 q => ⟨q.1, CI_T ci q.2.1 q.2.2⟩) (cl_addAndTestC ci.t ok.t)) (fun h1 r1 => cl_mono (fun rv h2 p => ⟨p.1, RI_T r1 p.2.1 p.2.2⟩) (cl_addAndTestM r1.t ok.t)) (⟨ok.g, ok.hl, ok.hg, addL_ok ok.t (fun hP => by
    have t8 := ok.t.1
    obtain ⟨⟨j, h1, rfl⟩, ⟨k, h3, rfl⟩⟩ := hP
    rw [nI_clamp (show j < 2 ^ 31 by omega), nI_clamp (show k < 2 ^ 31 by omega)]
    exact ⟨by simp, by show j ≤ 21; omega, by show k ≤ 21; omega, fun z => absurd z (by simp), fun z => ⟨h1, h3⟩, fun z => absurd z (by simp)⟩), ok.l, ok.i, ok.s, okN_add ok.p⟩)
theorem pr_addOrTest {x y z : Int32} (ok : OKA a) (ci : CI h a) (ri : RI h a) : PrI G (d + 12) M_X11_addOrTest M_X12_addOrTest [.int x, .int y] h :=
  prI_up (a' := AS.mk a.n a.N a.HL (addL a.T (inR x a.T.length ∧ inR y a.T.length) (6, x.toNatClampNeg, y.toNatClampNeg)) a.L a.I a.S a.P) ri (cl_mono (fun rv h1 q => ⟨q.1, CI_T ci q.2.1 q.2.2⟩) (cl_addOrTestC ci.t ok.t)) (fun h1 r1 => cl_mono (fun rv h2 p => ⟨p.1, RI_T r1 p.2.1 p.2.2⟩) (cl_addOrTestM r1.t ok.t)) (⟨ok.g, ok.hl, ok.hg, addL_ok ok.t (fun hP => by
    have t8 := ok.t.1
    obtain ⟨⟨j, h1, rfl⟩, ⟨k, h3, rfl⟩⟩ := hP
    rw [nI_clamp (show j < 2 ^ 31 by omega), nI_clamp (show k < 2 ^ 31 by omega)]
    exact ⟨by simp, by show j ≤ 21; omega, by show k ≤ 21; omega, fun z => absurd z (by simp), fun z => ⟨h1, h3⟩, fun z => absurd z (by simp)⟩), ok.l, ok.i, ok.s, okN_add ok.p⟩)
theorem pr_addNotTest {x y z : Int32} (ok : OKA a) (ci : CI h a) (ri : RI h a) : PrI G (d + 12) M_X11_addNotTest M_X12_addNotTest [.int x] h :=
  prI_up (a' := AS.mk a.n a.N a.HL (addL a.T (inR x a.T.length) (7, x.toNatClampNeg, x.toNatClampNeg)) a.L a.I a.S a.P) ri (cl_mono (fun rv h1 q => ⟨q.1, CI_T ci q.2.1 q.2.2⟩) (cl_addNotTestC ci.t ok.t)) (fun h1 r1 => cl_mono (fun rv h2 p => ⟨p.1, RI_T r1 p.2.1 p.2.2⟩) (cl_addNotTestM r1.t ok.t)) (⟨ok.g, ok.hl, ok.hg, addL_ok ok.t (fun hP => by
    have t8 := ok.t.1
    obtain ⟨j, h1, rfl⟩ := hP
    rw [nI_clamp (show j < 2 ^ 31 by omega)]
    exact ⟨by simp, by show j ≤ 21; omega, by show j ≤ 21; omega, fun z => absurd z (by simp), fun z => ⟨h1, h1⟩, fun z => rfl⟩), ok.l, ok.i, ok.s, okN_add ok.p⟩)
theorem pr_testCount {x y z : Int32} (ok : OKA a) (ci : CI h a) (ri : RI h a) : PrI G (d + 12) M_X11_testCount M_X12_testCount [] h :=
  prI_mk ok ri (cl_mono (fun rv h1 q => qI_ci q ci) (cl_testCountC ci.t)) (fun h1 r1 => cl_mono (fun rv h2 p => qI_ri p r1) (cl_testCountM r1.t))
theorem pr_passes {x y z : Int32} (ok : OKA a) (ci : CI h a) (ri : RI h a) : PrI G (d + 12) M_X11_passes M_X12_passes [.int x, .int y] h :=
  prI_mk ok ri (cl_mono (fun rv h1 q => ⟨q.1, CI_i ci q.2.1 q.2.2⟩) (cl_passesC ci.g ok.g ci.c ci.t ok.t)) (fun h1 r1 => cl_mono (fun rv h2 p => ⟨p.1, RI_m r1 p.2.1 p.2.2⟩) (cl_passesM r1.g ok.g r1.c r1.t ok.t))
theorem pr_passCount {x y z : Int32} (ok : OKA a) (ci : CI h a) (ri : RI h a) : PrI G (d + 12) M_X11_passCount M_X12_passCount [.int x] h :=
  prI_mk ok ri (cl_mono (fun rv h1 q => ⟨q.1, CI_i ci q.2.1 q.2.2⟩) (cl_passCountC ci.g ok.g ci.c ci.t ok.t)) (fun h1 r1 => cl_mono (fun rv h2 p => ⟨p.1, RI_m r1 p.2.1 p.2.2⟩) (cl_passCountM r1.g ok.g r1.c r1.t ok.t))
theorem pr_passing {x y z : Int32} (ok : OKA a) (ci : CI h a) (ri : RI h a) : PrI G (d + 12) M_X11_passing M_X12_passing [.int x, .int y] h :=
  prI_mk ok ri (cl_mono (fun rv h1 q => ⟨q.1, CI_i ci q.2.1 q.2.2⟩) (cl_passingC ci.g ok.g ci.c ci.t ok.t)) (fun h1 r1 => cl_mono (fun rv h2 p => ⟨p.1, RI_m r1 p.2.1 p.2.2⟩) (cl_passingM r1.g ok.g r1.c r1.t ok.t))
theorem pr_append {x y z : Int32} (ok : OKA a) (ci : CI h a) (ri : RI h a) : PrI G (d + 12) M_X11_append M_X12_append [.int x] h :=
  prI_up (a' := AS.mk a.n a.N a.HL a.T (apL a.n a.L x) a.I a.S a.P) ri (cl_mono (fun rv h1 q => ⟨q.1, CI_L ci q.2.1 q.2.2⟩) (cl_appendC ci.g ok.g.2.1 ci.l ok.l)) (fun h1 r1 => cl_mono (fun rv h2 p => ⟨p.1, RI_L r1 p.2.1 p.2.2⟩) (cl_appendM r1.g ok.g.2.1 r1.l ok.l)) (⟨ok.g, ok.hl, ok.hg, ok.t, apL_ok ok.g.2.1 ok.l, ok.i, ok.s, ok.p⟩)
theorem pr_fillWithGenerators {x y z : Int32} (ok : OKA a) (ci : CI h a) (ri : RI h a) : PrI G (d + 12) M_X11_fillWithGenerators M_X12_fillWithGenerators [.int x] h :=
  prI_up (a' := AS.mk a.n a.N a.HL a.T (fiL 0 a.n a.N a.L x) a.I a.S a.P) ri (cl_mono (fun rv h1 q => ⟨q.1, CI_F ci q.2.1 q.2.2.1 q.2.2.2⟩) (cl_fillWithGeneratorsC ci.g ok.g ci.c ci.l)) (fun h1 r1 => cl_mono (fun rv h2 p => ⟨p.1, RI_F r1 p.2.1 p.2.2.1 p.2.2.2⟩) (cl_fillWithGeneratorsM r1.g ok.g r1.c r1.l)) (⟨ok.g, ok.hl, ok.hg, ok.t, fiL_ok ok.g ok.l, ok.i, ok.s, ok.p⟩)
theorem pr_fillWithSymbolicGenerators {x y z : Int32} (ok : OKA a) (ci : CI h a) (ri : RI h a) : PrI G (d + 12) M_X11_fillWithSymbolicGenerators M_X12_fillWithSymbolicGenerators [.int x] h :=
  prI_up (a' := AS.mk a.n a.N a.HL a.T (fiL 1 a.n a.N a.L x) a.I a.S a.P) ri (cl_mono (fun rv h1 q => ⟨q.1, CI_F ci q.2.1 q.2.2.1 q.2.2.2⟩) (cl_fillWithSymbolicGeneratorsC ci.g ok.g ci.c ci.l)) (fun h1 r1 => cl_mono (fun rv h2 p => ⟨p.1, RI_F r1 p.2.1 p.2.2.1 p.2.2.2⟩) (cl_fillWithSymbolicGeneratorsM r1.g ok.g r1.c r1.l)) (⟨ok.g, ok.hl, ok.hg, ok.t, fiL_ok ok.g ok.l, ok.i, ok.s, ok.p⟩)
theorem pr_listSize {x y z : Int32} (ok : OKA a) (ci : CI h a) (ri : RI h a) : PrI G (d + 12) M_X11_listSize M_X12_listSize [] h :=
  prI_mk ok ri (cl_mono (fun rv h1 q => qI_ci q ci) (cl_listSizeC ci.l)) (fun h1 r1 => cl_mono (fun rv h2 p => qI_ri p r1) (cl_listSizeM r1.l))
theorem pr_element {x y z : Int32} (ok : OKA a) (ci : CI h a) (ri : RI h a) : PrI G (d + 12) M_X11_element M_X12_element [.int x] h :=
  prI_mk ok ri (cl_mono (fun rv h1 q => qI_ci q ci) (cl_elementC ci.l ok.l)) (fun h1 r1 => cl_mono (fun rv h2 p => qI_ri p r1) (cl_elementM r1.l ok.l))
theorem pr_clearList {x y z : Int32} (ok : OKA a) (ci : CI h a) (ri : RI h a) : PrI G (d + 12) M_X11_clearList M_X12_clearList [] h :=
  prI_up (a' := AS.mk a.n a.N a.HL a.T ([]) a.I a.S a.P) ri (cl_mono (fun rv h1 q => ⟨q.1, CI_L ci q.2.1 q.2.2⟩) (cl_clearListC ci.l)) (fun h1 r1 => cl_mono (fun rv h2 p => ⟨p.1, RI_L r1 p.2.1 p.2.2⟩) (cl_clearListM r1.l)) (⟨ok.g, ok.hl, ok.hg, ok.t, okL_nil, ok.i, ok.s, ok.p⟩)
theorem pr_minimizeList {x y z : Int32} (ok : OKA a) (ci : CI h a) (ri : RI h a) : PrI G (d + 12) M_X11_minimizeList M_X12_minimizeList [] h :=
  prI_up (a' := AS.mk a.n a.N a.HL a.T (mn a.L) a.I a.S a.P) ri (cl_mono (fun rv h1 q => ⟨q.1, CI_L ci q.2.1 q.2.2⟩) (cl_minimizeListC ci.l ok.l)) (fun h1 r1 => cl_mono (fun rv h2 p => ⟨p.1, RI_L r1 p.2.1 p.2.2⟩) (cl_minimizeListM r1.l ok.l)) (⟨ok.g, ok.hl, ok.hg, ok.t, okL_mn ok.l, ok.i, ok.s, ok.p⟩)
theorem pr_divideListBy {x y z : Int32} (ok : OKA a) (ci : CI h a) (ri : RI h a) : PrI G (d + 12) M_X11_divideListBy M_X12_divideListBy [.int x] h :=
  prI_up (a' := AS.mk a.n a.N a.HL a.T (dbL a.L x) a.I a.S a.P) ri (cl_mono (fun rv h1 q => ⟨q.1, CI_L ci q.2.1 q.2.2⟩) (cl_divideListByC ci.l ok.l)) (fun h1 r1 => cl_mono (fun rv h2 p => ⟨p.1, RI_L r1 p.2.1 p.2.2⟩) (cl_divideListByM r1.l ok.l)) (⟨ok.g, ok.hl, ok.hg, ok.t, dbL_ok ok.l, ok.i, ok.s, ok.p⟩)
theorem pr_reverseList {x y z : Int32} (ok : OKA a) (ci : CI h a) (ri : RI h a) : PrI G (d + 12) M_X11_reverseList M_X12_reverseList [] h :=
  prI_up (a' := AS.mk a.n a.N a.HL a.T (rvL a.L) a.I a.S a.P) ri (cl_mono (fun rv h1 q => ⟨q.1, CI_L ci q.2.1 q.2.2⟩) (cl_reverseListC ci.l ok.l)) (fun h1 r1 => cl_mono (fun rv h2 p => ⟨p.1, RI_L r1 p.2.1 p.2.2⟩) (cl_reverseListM r1.l ok.l)) (⟨ok.g, ok.hl, ok.hg, ok.t, okL_rvF ok.l, ok.i, ok.s, ok.p⟩)
theorem pr_rotateList {x y z : Int32} (ok : OKA a) (ci : CI h a) (ri : RI h a) : PrI G (d + 12) M_X11_rotateList M_X12_rotateList [.int x] h :=
  prI_up (a' := AS.mk a.n a.N a.HL a.T (roL a.L x) a.I a.S a.P) ri (cl_mono (fun rv h1 q => ⟨q.1, CI_L ci q.2.1 q.2.2⟩) (cl_rotateListC ci.l ok.l)) (fun h1 r1 => cl_mono (fun rv h2 p => ⟨p.1, RI_L r1 p.2.1 p.2.2⟩) (cl_rotateListM r1.l ok.l)) (⟨ok.g, ok.hl, ok.hg, ok.t, roL_ok ok.l, ok.i, ok.s, ok.p⟩)
theorem pr_swapElements {x y z : Int32} (ok : OKA a) (ci : CI h a) (ri : RI h a) : PrI G (d + 12) M_X11_swapElements M_X12_swapElements [.int x, .int y] h :=
  prI_up (a' := AS.mk a.n a.N a.HL a.T (seL a.L x y) a.I a.S a.P) ri (cl_mono (fun rv h1 q => ⟨q.1, CI_L ci q.2.1 q.2.2⟩) (cl_swapElementsC ci.l ok.l)) (fun h1 r1 => cl_mono (fun rv h2 p => ⟨p.1, RI_L r1 p.2.1 p.2.2⟩) (cl_swapElementsM r1.l ok.l)) (⟨ok.g, ok.hl, ok.hg, ok.t, seL_ok ok.l, ok.i, ok.s, ok.p⟩)
theorem pr_indexOfDivisor {x y z : Int32} (ok : OKA a) (ci : CI h a) (ri : RI h a) : PrI G (d + 12) M_X11_indexOfDivisor M_X12_indexOfDivisor [.int x] h :=
  prI_mk ok ri (cl_mono (fun rv h1 q => qI_ci q ci) (cl_indexOfDivisorC ci.g ok.g.2.1 ci.l ok.l)) (fun h1 r1 => cl_mono (fun rv h2 p => qI_ri p r1) (cl_indexOfDivisorM r1.g ok.g.2.1 r1.l ok.l))
theorem pr_polarizedVariableCount {x y z : Int32} (ok : OKA a) (ci : CI h a) (ri : RI h a) : PrI G (d + 12) M_X11_polarizedVariableCount M_X12_polarizedVariableCount [] h :=
  prI_mk ok ri (cl_mono (fun rv h1 q => qI_ci q ci) (cl_polarizedVariableCountC ci.l ok.l)) (fun h1 r1 => cl_mono (fun rv h2 p => qI_ri p r1) (cl_polarizedVariableCountM r1.l ok.l))
theorem pr_polarized {x y z : Int32} (ok : OKA a) (ci : CI h a) (ri : RI h a) : PrI G (d + 12) M_X11_polarized M_X12_polarized [.int x] h :=
  prI_mk ok ri (cl_mono (fun rv h1 q => qI_ci q ci) (cl_polarizedC ci.l ok.l)) (fun h1 r1 => cl_mono (fun rv h2 p => qI_ri p r1) (cl_polarizedM r1.l ok.l))
theorem pr_hittingNumber {x y z : Int32} (ok : OKA a) (ci : CI h a) (ri : RI h a) : PrI G (d + 12) M_X11_hittingNumber M_X12_hittingNumber [] h :=
  prI_mk ok ri (cl_mono (fun rv h1 q => qI_ci q ci) (cl_hittingNumberC ci.l ok.l)) (fun h1 r1 => cl_mono (fun rv h2 p => qI_ri p r1) (cl_hittingNumberM r1.l ok.l))
theorem pr_feed {x y z : Int32} (ok : OKA a) (ci : CI h a) (ri : RI h a) : PrI G (d + 12) M_X11_feed M_X12_feed [.int x] h :=
  prI_up (a' := AS.mk a.n a.N a.HL a.T a.L (feL a.I x) a.S a.P) ri (cl_mono (fun rv h1 q => ⟨q.1, CI_I ci q.2.1 q.2.2⟩) (cl_feedC ci.i ok.i)) (fun h1 r1 => cl_mono (fun rv h2 p => ⟨p.1, RI_I r1 p.2.1 p.2.2⟩) (cl_feedM r1.i ok.i)) (⟨ok.g, ok.hl, ok.hg, ok.t, ok.l, feL_ok ok.i, ok.s, ok.p⟩)
theorem pr_discardInput {x y z : Int32} (ok : OKA a) (ci : CI h a) (ri : RI h a) : PrI G (d + 12) M_X11_discardInput M_X12_discardInput [] h :=
  prI_up (a' := AS.mk a.n a.N a.HL a.T a.L [] a.S a.P) ri (cl_mono (fun rv h1 q => ⟨q.1, CI_I ci q.2.1 q.2.2⟩) (cl_discardInputC ci.i)) (fun h1 r1 => cl_mono (fun rv h2 p => ⟨p.1, RI_I r1 p.2.1 p.2.2⟩) (cl_discardInputM r1.i)) (⟨ok.g, ok.hl, ok.hg, ok.t, ok.l, okI_nil, ok.s, ok.p⟩)
theorem pr_parse {x y z : Int32} (ok : OKA a) (ci : CI h a) (ri : RI h a) : PrI G (d + 12) M_X11_parse M_X12_parse [] h :=
  prI_up (a' := AS.mk a.n a.N a.HL a.T (prL a.L (prR a.I)) [] a.S a.P) ri (cl_mono (fun rv h1 q => ⟨q.1, CI_P ci q.2.1 q.2.2.1 q.2.2.2.1⟩) (cl_parseC ci.i ok.i ci.l)) (fun h1 r1 => cl_mono (fun rv h2 p => ⟨p.1, RI_P r1 p.2.1 p.2.2.1 p.2.2.2⟩) (cl_parseM r1.i ok.i r1.l)) (⟨ok.g, ok.hl, ok.hg, ok.t, prL_ok ok.i ok.l, okI_nil, ok.s, ok.p⟩)
theorem pr_formattedLength {x y z : Int32} (ok : OKA a) (ci : CI h a) (ri : RI h a) : PrI G (d + 12) M_X11_formattedLength M_X12_formattedLength [] h :=
  prI_mk ok ri (cl_mono (fun rv h1 q => ⟨q.1, CI_t ci q.2⟩) (cl_formattedLengthC ci.l ok.l)) (fun h1 r1 => cl_mono (fun rv h2 p => ⟨p.1, RI_t r1 p.2⟩) (cl_formattedLengthM r1.l ok.l))
theorem pr_formattedByte {x y z : Int32} (ok : OKA a) (ci : CI h a) (ri : RI h a) : PrI G (d + 12) M_X11_formattedByte M_X12_formattedByte [.int x] h :=
  prI_mk ok ri (cl_mono (fun rv h1 q => ⟨q.1, CI_t ci q.2⟩) (cl_formattedByteC ci.l ok.l)) (fun h1 r1 => cl_mono (fun rv h2 p => ⟨p.1, RI_t r1 p.2⟩) (cl_formattedByteM r1.l ok.l))
theorem pr_saveList {x y z : Int32} (ok : OKA a) (ci : CI h a) (ri : RI h a) : PrI G (d + 12) M_X11_saveList M_X12_saveList [.int x] h :=
  prI_up (a' := AS.mk a.n a.N a.HL a.T a.L a.I (saS a.S a.L x) a.P) ri (cl_mono (fun rv h1 q => ⟨q.1, CI_S ci q.2.1 q.2.2⟩) (cl_saveListC ci.s ci.l ok.l)) (fun h1 r1 => cl_mono (fun rv h2 p => ⟨p.1, RI_S r1 p.2.1 p.2.2⟩) (cl_saveListM r1.s r1.l ok.l)) (⟨ok.g, ok.hl, ok.hg, ok.t, ok.l, ok.i, saS_ok ok.s ok.l, ok.p⟩)
theorem pr_loadList {x y z : Int32} (ok : OKA a) (ci : CI h a) (ri : RI h a) : PrI G (d + 12) M_X11_loadList M_X12_loadList [.int x] h :=
  prI_up (a' := AS.mk a.n a.N a.HL a.T (ldL a.S a.L x) a.I a.S a.P) ri (cl_mono (fun rv h1 q => ⟨q.1, CI_L ci q.2.1 q.2.2⟩) (cl_loadListC ci.s ok.s ci.l)) (fun h1 r1 => cl_mono (fun rv h2 p => ⟨p.1, RI_L r1 p.2.1 p.2.2⟩) (cl_loadListM r1.s ok.s r1.l)) (⟨ok.g, ok.hl, ok.hg, ok.t, ldL_ok ok.s ok.l, ok.i, ok.s, ok.p⟩)
theorem pr_clearSlot {x y z : Int32} (ok : OKA a) (ci : CI h a) (ri : RI h a) : PrI G (d + 12) M_X11_clearSlot M_X12_clearSlot [.int x] h :=
  prI_up (a' := AS.mk a.n a.N a.HL a.T a.L a.I (clS a.S x) a.P) ri (cl_mono (fun rv h1 q => ⟨q.1, CI_S ci q.2.1 q.2.2⟩) (cl_clearSlotC ci.s)) (fun h1 r1 => cl_mono (fun rv h2 p => ⟨p.1, RI_S r1 p.2.1 p.2.2⟩) (cl_clearSlotM r1.s)) (⟨ok.g, ok.hl, ok.hg, ok.t, ok.l, ok.i, clS_ok ok.s, ok.p⟩)
theorem pr_newArray {x y z : Int32} (ok : OKA a) (ci : CI h a) (ri : RI h a) : PrI G (d + 12) M_X11_newArray M_X12_newArray [.int x, .int y] h :=
  prI_up (a' := AS.mk a.n a.N a.HL a.T a.L a.I (naS a.S x y) a.P) ri (cl_mono (fun rv h1 q => ⟨q.1, CI_S ci q.2.1 q.2.2⟩) (cl_newArrayC ci.s)) (fun h1 r1 => cl_mono (fun rv h2 p => ⟨p.1, RI_S r1 p.2.1 p.2.2⟩) (cl_newArrayM r1.s)) (⟨ok.g, ok.hl, ok.hg, ok.t, ok.l, ok.i, naS_ok ok.s, ok.p⟩)
theorem pr_setArrayElement {x y z : Int32} (ok : OKA a) (ci : CI h a) (ri : RI h a) : PrI G (d + 12) M_X11_setArrayElement M_X12_setArrayElement [.int x, .int y, .int z] h :=
  prI_up (a' := AS.mk a.n a.N a.HL a.T a.L a.I (seS a.S x y z) a.P) ri (cl_mono (fun rv h1 q => ⟨q.1, CI_S ci q.2.1 q.2.2⟩) (cl_setArrayElementC ci.s ok.s)) (fun h1 r1 => cl_mono (fun rv h2 p => ⟨p.1, RI_S r1 p.2.1 p.2.2⟩) (cl_setArrayElementM r1.s ok.s)) (⟨ok.g, ok.hl, ok.hg, ok.t, ok.l, ok.i, seS_ok ok.s, ok.p⟩)
theorem pr_arrayElement {x y z : Int32} (ok : OKA a) (ci : CI h a) (ri : RI h a) : PrL G (d + 12) M_X11_arrayElement M_X12_arrayElement [.int x, .int y] h :=
  prL_mk ok ri (cl_mono (fun rv h1 q => qL_ci q ci) (cl_arrayElementC ci.s ok.s)) (fun h1 r1 => cl_mono (fun rv h2 p => qL_ri p r1) (cl_arrayElementM r1.s ok.s))
theorem pr_firstMismatch {x y z : Int32} (ok : OKA a) (ci : CI h a) (ri : RI h a) : PrI G (d + 12) M_X11_firstMismatch M_X12_firstMismatch [.int x, .int y] h :=
  prI_mk ok ri (cl_mono (fun rv h1 q => ⟨q.1, CI_i ci q.2.1 q.2.2⟩) (cl_firstMismatchC ci.g ok.g ci.c ci.s ok.s)) (fun h1 r1 => cl_mono (fun rv h2 p => ⟨p.1, RI_m r1 p.2.1 p.2.2⟩) (cl_firstMismatchM r1.g ok.g r1.c r1.s ok.s))
theorem pr_usedSlotCount {x y z : Int32} (ok : OKA a) (ci : CI h a) (ri : RI h a) : PrI G (d + 12) M_X11_usedSlotCount M_X12_usedSlotCount [] h :=
  prI_mk ok ri (cl_mono (fun rv h1 q => qI_ci q ci) (cl_usedSlotCountC ci.s ok.s)) (fun h1 r1 => cl_mono (fun rv h2 p => qI_ri p r1) (cl_usedSlotCountM r1.s ok.s))
theorem pr_changeCount {x y z : Int32} (ok : OKA a) (ci : CI h a) (ri : RI h a) : PrI G (d + 12) M_X11_changeCount M_X12_changeCount [] h :=
  prI_mk ok ri (cl_mono (fun rv h1 q => qI_ci q ci) (cl_changeCountC ci.hh)) (fun h1 r1 => cl_mono (fun rv h2 p => qI_ri p r1) (cl_changeCountM r1.hh))
theorem pr_inputLength {x y z : Int32} (ok : OKA a) (ci : CI h a) (ri : RI h a) : PrI G (d + 12) M_X11_inputLength M_X12_inputLength [] h :=
  prI_mk ok ri (cl_mono (fun rv h1 q => qI_ci q ci) (cl_inputLengthC ci.i)) (fun h1 r1 => cl_mono (fun rv h2 p => qI_ri p r1) (cl_inputLengthM r1.i))
theorem pr_takeSnapshot {x y z : Int32} (ok : OKA a) (ci : CI h a) (ri : RI h a) : PrI G (d + 12) M_X11_takeSnapshot M_X12_takeSnapshot [] h :=
  prI_up (a' := AS.mk a.n a.N a.HL a.T a.L a.I a.S (some (a.n, a.N, a.T, a.L))) ri (cl_mono (fun rv h1 q => ⟨q.1, CI_N ci q.2.1 q.2.2⟩) (cl_takeSnapshotC ci.g ci.t ci.l ok.l)) (fun h1 r1 => cl_mono (fun rv h2 p => ⟨p.1, RI_N r1 p.2.1 p.2.2⟩) (cl_takeSnapshotM r1.g r1.t ok.t r1.l ok.l)) (⟨ok.g, ok.hl, ok.hg, ok.t, ok.l, ok.i, ok.s, ⟨ok.g, ok.l, [], (List.append_nil _).symm⟩⟩)
end PAIR
