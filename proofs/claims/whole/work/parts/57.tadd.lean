section TADD
variable {G : MG} {d : Nat} {h : MH}
noncomputable def addA (T : List Tst) (P : Prop) : Int32 := if b01 P = 0 then -1 else if T.length = 8 then -3 else nI T.length
noncomputable def addL (T : List Tst) (P : Prop) (x : Tst) : List Tst := if b01 P = 0 then T else if T.length = 8 then T else T ++ [x]
theorem addL_ok {T : List Tst} {P : Prop} {x : Tst} (o : okT T) (hx : P → okK T.length x) : okT (addL T P x) := by
  unfold addL
  by_cases c : b01 P = 0
  · rw [if_pos c]; exact o
  · rw [if_neg c]
    by_cases e : T.length = 8
    · rw [if_pos e]; exact o
    · rw [if_neg e]
      have := o.1
      exact okT_s o (by omega) (hx (Classical.byContradiction fun z => c (b01_f z)))
theorem cl_addTC {T : List Tst} {k a b : Nat} {P : Prop} (hP : P) (t : tC h T) (o : okT T) (hx : okK T.length (k, a, b)) : Cl G d M_X10_add [.ref 34, .int (nI k), .int (nI a), .int (nI b)] h (fun rv h' => rv = some (.int (addA T P)) ∧ same (fun q => q < 34 ∨ 38 < q) h h' ∧ tC h' (addL T P (k, a, b))) := by
  have q1 := b01_t hP
  unfold addA addL
  rw [q1, if_neg (show ¬ 1 = 0 by decide), if_neg (show ¬ 1 = 0 by decide)]
  by_cases e : T.length = 8
  · rw [if_pos e, if_pos e]
    exact cl_mono (fun rv h1 q => by obtain ⟨q2, rfl⟩ := q; exact ⟨q2, same.rf, t⟩) (cl_add_tfull t e)
  · rw [if_neg e, if_neg e]
    have := o.1
    exact cl_addT t (by omega) hx
theorem cl_addTR {T : List Tst} {k a b v : Nat} {x y z : Int32} {P : Prop} (t : tR h T) (o : okT T) (hv : v = b01 P) (hx : P → x = nI k ∧ y = nI a ∧ z = nI (if k = 7 then 0 else b)) : Cl G d M_X12_addTest [.ref 67, .int (nI v), .int x, .int y, .int z] h (fun rv h' => rv = some (.int (addA T P)) ∧ mod (fun q => q ≠ 77) (fun j => j ≠ 16) h h' ∧ tR h' (addL T P (k, a, b))) := by
  subst hv
  unfold addA addL
  by_cases hP : P
  · have q1 := b01_t hP
    rw [q1, if_neg (show ¬ 1 = 0 by decide), if_neg (show ¬ 1 = 0 by decide)]
    by_cases e : T.length = 8
    · rw [if_pos e, if_pos e]
      exact cl_mono (fun rv h1 q => by obtain ⟨q2, rfl⟩ := q; exact ⟨q2, mod.rf, t⟩) (cl_addTest_full t e rfl)
    · rw [if_neg e, if_neg e]
      have := o.1
      obtain ⟨rfl, rfl, rfl⟩ := hx hP
      exact cl_addTest t (by omega) rfl
  · have q1 := b01_f hP
    rw [q1, if_pos (show 0 = 0 from rfl), if_pos (show 0 = 0 from rfl)]
    exact cl_mono (fun rv h1 q => by obtain ⟨q2, rfl⟩ := q; exact ⟨q2, mod.rf, t⟩) cl_addTest_bad
theorem addA_f {T : List Tst} {P : Prop} (hP : ¬ P) : addA T P = -1 := by unfold addA; rw [if_pos (b01_f hP)]
theorem addL_f {T : List Tst} {P : Prop} {x : Tst} (hP : ¬ P) : addL T P x = T := by unfold addL; rw [if_pos (b01_f hP)]
theorem cl_isVariable {x : Int32} : Cl G d M_X11_isVariable [.int x] h (qI (nI (b01 (inR x 7))) h) := by
  by_cases hx : inR x 7
  · rw [b01_t hx]
    obtain ⟨j, hj, rfl⟩ := hx
    refine ev_start 0 (lv := [some (.int (nI j))]) rfl (by decide) (Nat.le_of_ble_eq_true rfl) ?_
    refine ev_iload_n dX11_isVariable_0 rfl ?_
    refine ev_if_ltN 14 dX11_isVariable_1 (by decide) (by omega) (fun c1 => ?_) (fun c1 => ?_)
    · exact c1.elim
    · refine ev_iload_n dX11_isVariable_4 rfl ?_
      refine ev_bipush (nI 7) dX11_isVariable_5 rfl ?_
      refine ev_icmp_geN 14 dX11_isVariable_7 (by decide) (by omega) (by omega) (fun c7 => ?_) (fun c7 => ?_)
      · omega
      · refine ev_iconst (nI 1) dX11_isVariable_10 rfl ?_
        refine ev_goto 15 dX11_isVariable_11 (by decide) ?_
        refine ev_zret dX11_isVariable_15 rfl rfl ?_
        exact ⟨by with_reducible rfl, rfl⟩
  · rw [b01_f hx]
    refine ev_start 0 (lv := [some (.int x)]) rfl (by decide) (Nat.le_of_ble_eq_true rfl) ?_
    refine ev_iload_n dX11_isVariable_0 rfl ?_
    refine ev_if_lt 14 dX11_isVariable_1 (by decide) (fun c1 => ?_) (fun c1 => ?_)
    · refine ev_iconst (nI 0) dX11_isVariable_14 rfl ?_
      refine ev_zret dX11_isVariable_15 rfl rfl ?_
      exact ⟨by with_reducible rfl, rfl⟩
    · refine ev_iload_n dX11_isVariable_4 rfl ?_
      refine ev_bipush (nI 7) dX11_isVariable_5 rfl ?_
      refine ev_icmp_ge 14 dX11_isVariable_7 (by decide) (fun c7 => ?_) (fun c7 => ?_)
      · refine ev_iconst (nI 0) dX11_isVariable_14 rfl ?_
        refine ev_zret dX11_isVariable_15 rfl rfl ?_
        exact ⟨by with_reducible rfl, rfl⟩
      · exact absurd (inR_of (by decide) c1 (by exact c7)) hx
theorem cl_addDegreeTestC {T : List Tst} {x : Int32} (t : tC h T) (o : okT T) : Cl G (d + 1) M_X11_addDegreeTest [.ref 0, .int x] h (fun rv h' => rv = some (.int (addA T (rg x 0 21))) ∧ same (fun q => q < 34 ∨ 38 < q) h h' ∧ tC h' (addL T (rg x 0 21) (0, x.toNatClampNeg, 0))) := by
  by_cases hx : rg x 0 21
  · have q1 := b01_t hx
    have hx0 := hx
    obtain ⟨j, h1, h2, rfl⟩ := hx
    rw [nI_clamp (show j < 2 ^ 31 by omega)]
    refine ev_start 0 (lv := [some (.ref 0), some (.int (nI j))]) rfl (by decide) (Nat.le_of_ble_eq_true rfl) ?_
    refine ev_iload_n dX11_addDegreeTest_0 rfl ?_
    refine ev_callS (cl_isDegree) ok_X11_isDegree ml_X11_204 rfl rfl (Nat.le_of_ble_eq_true rfl) dX11_addDegreeTest_1 (kI ?_)
    refine ev_if_eqN 20 dX11_addDegreeTest_4 (by decide) (by omega) (fun c4 => ?_) (fun c4 => ?_)
    · omega
    · refine ev_aload_n dX11_addDegreeTest_7 rfl ?_
      refine ev_getR fl_X11_46 rfl rfl dX11_addDegreeTest_8 ?_
      refine ev_iconst (nI 0) dX11_addDegreeTest_11 rfl ?_
      refine ev_iload_n dX11_addDegreeTest_12 rfl ?_
      refine ev_iconst (nI 0) dX11_addDegreeTest_13 rfl ?_
      refine ev_callV (cl_addTC hx0 t o ⟨by simp, by show j ≤ 21; omega, by simp, fun z => absurd z (show ¬ 0 = 1 by decide), fun z => absurd z (show ¬ 5 ≤ 0 by decide), fun z => absurd z (show ¬ 0 = 7 by decide)⟩) ok_X10_add ml_X11_239 rfl rfl rfl rfl (Nat.le_of_ble_eq_true rfl) dX11_addDegreeTest_14 ?_
      rintro rv h1 ⟨rfl, p2, p3⟩
      refine ev_goto 21 dX11_addDegreeTest_17 (by decide) ?_
      refine ev_iret dX11_addDegreeTest_21 rfl ?_
      exact ⟨by with_reducible rfl, p2, p3⟩
  · have q1 := b01_f hx
    rw [addA_f hx, addL_f hx]
    refine ev_start 0 (lv := [some (.ref 0), some (.int x)]) rfl (by decide) (Nat.le_of_ble_eq_true rfl) ?_
    refine ev_iload_n dX11_addDegreeTest_0 rfl ?_
    refine ev_callS (cl_isDegree) ok_X11_isDegree ml_X11_204 rfl rfl (Nat.le_of_ble_eq_true rfl) dX11_addDegreeTest_1 (kI ?_)
    refine ev_if_eqN 20 dX11_addDegreeTest_4 (by decide) (by omega) (fun c4 => ?_) (fun c4 => ?_)
    · refine ev_iconst (-1) dX11_addDegreeTest_20 rfl ?_
      refine ev_iret dX11_addDegreeTest_21 rfl ?_
      exact ⟨by with_reducible rfl, same.rf, t⟩
    · omega
theorem cl_addDegreeTestM {T : List Tst} {x : Int32} (t : tR h T) (o : okT T) : Cl G (d + 1) M_X12_addDegreeTest [.ref 67, .int x] h (fun rv h' => rv = some (.int (addA T (rg x 0 21))) ∧ mod (fun q => q ≠ 77) (fun j => j ≠ 16) h h' ∧ tR h' (addL T (rg x 0 21) (0, x.toNatClampNeg, 0))) := by
  refine ev_start 0 (lv := [some (.ref 67), some (.int x)]) rfl (by decide) (Nat.le_of_ble_eq_true rfl) ?_
  refine ev_aload_n dX12_addDegreeTest_0 rfl ?_
  refine ev_iload_n dX12_addDegreeTest_1 rfl ?_
  refine ev_i2l dX12_addDegreeTest_2 rfl ?_
  refine ev_lconst (lN 0) dX12_addDegreeTest_3 rfl ?_
  refine ev_ldc2 (lN 21) dX12_addDegreeTest_4 kl_X12_200 ?_
  refine ev_callS (cl_btw (a := 0) (b := 21) rfl rfl (by decide) (by decide)) ok_X12_isBetween ml_X12_79 rfl rfl (Nat.le_of_ble_eq_true rfl) dX12_addDegreeTest_7 (kI ?_)
  refine ev_iconst (nI 0) dX12_addDegreeTest_10 rfl ?_
  refine ev_iload_n dX12_addDegreeTest_11 rfl ?_
  refine ev_iconst (nI 0) dX12_addDegreeTest_12 rfl ?_
  refine ev_callV (cl_addTR (k := 0) (a := x.toNatClampNeg) (b := 0) (P := rg x 0 21) t o rfl (by rintro ⟨j, h1, h2, rfl⟩; exact ⟨rfl, by rw [nI_clamp (show j < 2 ^ 31 by omega)], rfl⟩)) ok_X12_addTest ml_X12_239 rfl rfl rfl rfl (Nat.le_of_ble_eq_true rfl) dX12_addDegreeTest_13 ?_
  rintro rv h1 ⟨rfl, p2, p3⟩
  refine ev_iret dX12_addDegreeTest_16 rfl ?_
  exact ⟨by with_reducible rfl, p2, p3⟩
theorem cl_addPowerTestC {T : List Tst} {x : Int32} (t : tC h T) (o : okT T) : Cl G (d + 1) M_X11_addPowerTest [.ref 0, .int x] h (fun rv h' => rv = some (.int (addA T (rg x 1 3))) ∧ same (fun q => q < 34 ∨ 38 < q) h h' ∧ tC h' (addL T (rg x 1 3) (3, x.toNatClampNeg, 0))) := by
  by_cases hx : rg x 1 3
  · have q1 := b01_t hx
    have hx0 := hx
    obtain ⟨j, h1, h2, rfl⟩ := hx
    rw [nI_clamp (show j < 2 ^ 31 by omega)]
    refine ev_start 0 (lv := [some (.ref 0), some (.int (nI j))]) rfl (by decide) (Nat.le_of_ble_eq_true rfl) ?_
    refine ev_iload_n dX11_addPowerTest_0 rfl ?_
    refine ev_callS (cl_isPowerC) ok_X11_isPower ml_X11_188 rfl rfl (Nat.le_of_ble_eq_true rfl) dX11_addPowerTest_1 (kI ?_)
    refine ev_if_eqN 20 dX11_addPowerTest_4 (by decide) (by omega) (fun c4 => ?_) (fun c4 => ?_)
    · omega
    · refine ev_aload_n dX11_addPowerTest_7 rfl ?_
      refine ev_getR fl_X11_46 rfl rfl dX11_addPowerTest_8 ?_
      refine ev_iconst (nI 3) dX11_addPowerTest_11 rfl ?_
      refine ev_iload_n dX11_addPowerTest_12 rfl ?_
      refine ev_iconst (nI 0) dX11_addPowerTest_13 rfl ?_
      refine ev_callV (cl_addTC hx0 t o ⟨by simp, by show j ≤ 21; omega, by simp, fun z => absurd z (show ¬ 3 = 1 by decide), fun z => absurd z (show ¬ 5 ≤ 3 by decide), fun z => absurd z (show ¬ 3 = 7 by decide)⟩) ok_X10_add ml_X11_239 rfl rfl rfl rfl (Nat.le_of_ble_eq_true rfl) dX11_addPowerTest_14 ?_
      rintro rv h1 ⟨rfl, p2, p3⟩
      refine ev_goto 21 dX11_addPowerTest_17 (by decide) ?_
      refine ev_iret dX11_addPowerTest_21 rfl ?_
      exact ⟨by with_reducible rfl, p2, p3⟩
  · have q1 := b01_f hx
    rw [addA_f hx, addL_f hx]
    refine ev_start 0 (lv := [some (.ref 0), some (.int x)]) rfl (by decide) (Nat.le_of_ble_eq_true rfl) ?_
    refine ev_iload_n dX11_addPowerTest_0 rfl ?_
    refine ev_callS (cl_isPowerC) ok_X11_isPower ml_X11_188 rfl rfl (Nat.le_of_ble_eq_true rfl) dX11_addPowerTest_1 (kI ?_)
    refine ev_if_eqN 20 dX11_addPowerTest_4 (by decide) (by omega) (fun c4 => ?_) (fun c4 => ?_)
    · refine ev_iconst (-1) dX11_addPowerTest_20 rfl ?_
      refine ev_iret dX11_addPowerTest_21 rfl ?_
      exact ⟨by with_reducible rfl, same.rf, t⟩
    · omega
theorem cl_addPowerTestM {T : List Tst} {x : Int32} (t : tR h T) (o : okT T) : Cl G (d + 2) M_X12_addPowerTest [.ref 67, .int x] h (fun rv h' => rv = some (.int (addA T (rg x 1 3))) ∧ mod (fun q => q ≠ 77) (fun j => j ≠ 16) h h' ∧ tR h' (addL T (rg x 1 3) (3, x.toNatClampNeg, 0))) := by
  refine ev_start 0 (lv := [some (.ref 67), some (.int x)]) rfl (by decide) (Nat.le_of_ble_eq_true rfl) ?_
  refine ev_aload_n dX12_addPowerTest_0 rfl ?_
  refine ev_iload_n dX12_addPowerTest_1 rfl ?_
  refine ev_callS (cl_isPowerM) ok_X12_isPower ml_X12_185 rfl rfl (Nat.le_of_ble_eq_true rfl) dX12_addPowerTest_2 (kI ?_)
  refine ev_iconst (nI 3) dX12_addPowerTest_5 rfl ?_
  refine ev_iload_n dX12_addPowerTest_6 rfl ?_
  refine ev_iconst (nI 0) dX12_addPowerTest_7 rfl ?_
  refine ev_callV (cl_addTR (k := 3) (a := x.toNatClampNeg) (b := 0) (P := rg x 1 3) t o rfl (by rintro ⟨j, h1, h2, rfl⟩; exact ⟨rfl, by rw [nI_clamp (show j < 2 ^ 31 by omega)], rfl⟩)) ok_X12_addTest ml_X12_239 rfl rfl rfl rfl (Nat.le_of_ble_eq_true rfl) dX12_addPowerTest_8 ?_
  rintro rv h1 ⟨rfl, p2, p3⟩
  refine ev_iret dX12_addPowerTest_11 rfl ?_
  exact ⟨by with_reducible rfl, p2, p3⟩
theorem cl_addSymbolicTestC {T : List Tst} {x : Int32} (t : tC h T) (o : okT T) : Cl G (d + 1) M_X11_addSymbolicTest [.ref 0, .int x] h (fun rv h' => rv = some (.int (addA T (rg x 1 3))) ∧ same (fun q => q < 34 ∨ 38 < q) h h' ∧ tC h' (addL T (rg x 1 3) (4, x.toNatClampNeg, 0))) := by
  by_cases hx : rg x 1 3
  · have q1 := b01_t hx
    have hx0 := hx
    obtain ⟨j, h1, h2, rfl⟩ := hx
    rw [nI_clamp (show j < 2 ^ 31 by omega)]
    refine ev_start 0 (lv := [some (.ref 0), some (.int (nI j))]) rfl (by decide) (Nat.le_of_ble_eq_true rfl) ?_
    refine ev_iload_n dX11_addSymbolicTest_0 rfl ?_
    refine ev_callS (cl_isPowerC) ok_X11_isPower ml_X11_188 rfl rfl (Nat.le_of_ble_eq_true rfl) dX11_addSymbolicTest_1 (kI ?_)
    refine ev_if_eqN 20 dX11_addSymbolicTest_4 (by decide) (by omega) (fun c4 => ?_) (fun c4 => ?_)
    · omega
    · refine ev_aload_n dX11_addSymbolicTest_7 rfl ?_
      refine ev_getR fl_X11_46 rfl rfl dX11_addSymbolicTest_8 ?_
      refine ev_iconst (nI 4) dX11_addSymbolicTest_11 rfl ?_
      refine ev_iload_n dX11_addSymbolicTest_12 rfl ?_
      refine ev_iconst (nI 0) dX11_addSymbolicTest_13 rfl ?_
      refine ev_callV (cl_addTC hx0 t o ⟨by simp, by show j ≤ 21; omega, by simp, fun z => absurd z (show ¬ 4 = 1 by decide), fun z => absurd z (show ¬ 5 ≤ 4 by decide), fun z => absurd z (show ¬ 4 = 7 by decide)⟩) ok_X10_add ml_X11_239 rfl rfl rfl rfl (Nat.le_of_ble_eq_true rfl) dX11_addSymbolicTest_14 ?_
      rintro rv h1 ⟨rfl, p2, p3⟩
      refine ev_goto 21 dX11_addSymbolicTest_17 (by decide) ?_
      refine ev_iret dX11_addSymbolicTest_21 rfl ?_
      exact ⟨by with_reducible rfl, p2, p3⟩
  · have q1 := b01_f hx
    rw [addA_f hx, addL_f hx]
    refine ev_start 0 (lv := [some (.ref 0), some (.int x)]) rfl (by decide) (Nat.le_of_ble_eq_true rfl) ?_
    refine ev_iload_n dX11_addSymbolicTest_0 rfl ?_
    refine ev_callS (cl_isPowerC) ok_X11_isPower ml_X11_188 rfl rfl (Nat.le_of_ble_eq_true rfl) dX11_addSymbolicTest_1 (kI ?_)
    refine ev_if_eqN 20 dX11_addSymbolicTest_4 (by decide) (by omega) (fun c4 => ?_) (fun c4 => ?_)
    · refine ev_iconst (-1) dX11_addSymbolicTest_20 rfl ?_
      refine ev_iret dX11_addSymbolicTest_21 rfl ?_
      exact ⟨by with_reducible rfl, same.rf, t⟩
    · omega
theorem cl_addSymbolicTestM {T : List Tst} {x : Int32} (t : tR h T) (o : okT T) : Cl G (d + 2) M_X12_addSymbolicTest [.ref 67, .int x] h (fun rv h' => rv = some (.int (addA T (rg x 1 3))) ∧ mod (fun q => q ≠ 77) (fun j => j ≠ 16) h h' ∧ tR h' (addL T (rg x 1 3) (4, x.toNatClampNeg, 0))) := by
  refine ev_start 0 (lv := [some (.ref 67), some (.int x)]) rfl (by decide) (Nat.le_of_ble_eq_true rfl) ?_
  refine ev_aload_n dX12_addSymbolicTest_0 rfl ?_
  refine ev_iload_n dX12_addSymbolicTest_1 rfl ?_
  refine ev_callS (cl_isPowerM) ok_X12_isPower ml_X12_185 rfl rfl (Nat.le_of_ble_eq_true rfl) dX12_addSymbolicTest_2 (kI ?_)
  refine ev_iconst (nI 4) dX12_addSymbolicTest_5 rfl ?_
  refine ev_iload_n dX12_addSymbolicTest_6 rfl ?_
  refine ev_iconst (nI 0) dX12_addSymbolicTest_7 rfl ?_
  refine ev_callV (cl_addTR (k := 4) (a := x.toNatClampNeg) (b := 0) (P := rg x 1 3) t o rfl (by rintro ⟨j, h1, h2, rfl⟩; exact ⟨rfl, by rw [nI_clamp (show j < 2 ^ 31 by omega)], rfl⟩)) ok_X12_addTest ml_X12_239 rfl rfl rfl rfl (Nat.le_of_ble_eq_true rfl) dX12_addSymbolicTest_8 ?_
  rintro rv h1 ⟨rfl, p2, p3⟩
  refine ev_iret dX12_addSymbolicTest_11 rfl ?_
  exact ⟨by with_reducible rfl, p2, p3⟩
theorem cl_addExponentTestC {T : List Tst} {x y : Int32} (t : tC h T) (o : okT T) : Cl G (d + 1) M_X11_addExponentTest [.ref 0, .int x, .int y] h (fun rv h' => rv = some (.int (addA T (rg x 0 6 ∧ rg y 0 3))) ∧ same (fun q => q < 34 ∨ 38 < q) h h' ∧ tC h' (addL T (rg x 0 6 ∧ rg y 0 3) (1, x.toNatClampNeg, y.toNatClampNeg))) := by
  have e7 : inR x 7 ↔ rg x 0 6 := rg_inR (by decide)
  by_cases hx : rg x 0 6
  · have q1 := b01_t (e7.mpr hx)
    by_cases hy : rg y 0 3
    · have hxy : rg x 0 6 ∧ rg y 0 3 := ⟨hx, hy⟩
      obtain ⟨j, h1, h2, rfl⟩ := hx
      obtain ⟨k, h3, h4, rfl⟩ := hy
      rw [nI_clamp (show j < 2 ^ 31 by omega), nI_clamp (show k < 2 ^ 31 by omega)]
      refine ev_start 0 (lv := [some (.ref 0), some (.int (nI j)), some (.int (nI k))]) rfl (by decide) (Nat.le_of_ble_eq_true rfl) ?_
      refine ev_iload_n dX11_addExponentTest_0 rfl ?_
      refine ev_callS (cl_isVariable) ok_X11_isVariable ml_X11_242 rfl rfl (Nat.le_of_ble_eq_true rfl) dX11_addExponentTest_1 (kI ?_)
      refine ev_if_eqN 16 dX11_addExponentTest_4 (by decide) (by omega) (fun c4 => ?_) (fun c4 => ?_)
      · omega
      · refine ev_iload_n dX11_addExponentTest_7 rfl ?_
        refine ev_if_ltN 16 dX11_addExponentTest_8 (by decide) (by omega) (fun c8 => ?_) (fun c8 => ?_)
        · exact c8.elim
        · refine ev_iload_n dX11_addExponentTest_11 rfl ?_
          refine ev_iconst (nI 3) dX11_addExponentTest_12 rfl ?_
          refine ev_icmp_leN 18 dX11_addExponentTest_13 (by decide) (by omega) (by omega) (fun c13 => ?_) (fun c13 => ?_)
          · refine ev_aload_n dX11_addExponentTest_18 rfl ?_
            refine ev_getR fl_X11_46 rfl rfl dX11_addExponentTest_19 ?_
            refine ev_iconst (nI 1) dX11_addExponentTest_22 rfl ?_
            refine ev_iload_n dX11_addExponentTest_23 rfl ?_
            refine ev_iload_n dX11_addExponentTest_24 rfl ?_
            refine ev_callV (cl_addTC hxy t o ⟨by simp, by show j ≤ 21; omega, by show k ≤ 21; omega, fun z => ⟨by show j < 7; omega, by show k ≤ 3; omega⟩, fun z => absurd z (show ¬ 5 ≤ 1 by decide), fun z => absurd z (show ¬ 1 = 7 by decide)⟩) ok_X10_add ml_X11_239 rfl rfl rfl rfl (Nat.le_of_ble_eq_true rfl) dX11_addExponentTest_25 ?_
            rintro rv h1 ⟨rfl, p2, p3⟩
            refine ev_iret dX11_addExponentTest_28 rfl ?_
            exact ⟨by with_reducible rfl, p2, p3⟩
          · omega
    · have hP : ¬ (rg x 0 6 ∧ rg y 0 3) := fun z => hy z.2
      rw [addA_f hP, addL_f hP]
      refine ev_start 0 (lv := [some (.ref 0), some (.int x), some (.int y)]) rfl (by decide) (Nat.le_of_ble_eq_true rfl) ?_
      refine ev_iload_n dX11_addExponentTest_0 rfl ?_
      refine ev_callS (cl_isVariable) ok_X11_isVariable ml_X11_242 rfl rfl (Nat.le_of_ble_eq_true rfl) dX11_addExponentTest_1 (kI ?_)
      refine ev_if_eqN 16 dX11_addExponentTest_4 (by decide) (by omega) (fun c4 => ?_) (fun c4 => ?_)
      · omega
      · refine ev_iload_n dX11_addExponentTest_7 rfl ?_
        refine ev_if_lt 16 dX11_addExponentTest_8 (by decide) (fun c8 => ?_) (fun c8 => ?_)
        · refine ev_iconst (-1) dX11_addExponentTest_16 rfl ?_
          refine ev_iret dX11_addExponentTest_17 rfl ?_
          exact ⟨by with_reducible rfl, same.rf, t⟩
        · refine ev_iload_n dX11_addExponentTest_11 rfl ?_
          refine ev_iconst (nI 3) dX11_addExponentTest_12 rfl ?_
          refine ev_icmp_le 18 dX11_addExponentTest_13 (by decide) (fun c13 => ?_) (fun c13 => ?_)
          · exact absurd ((rg_iff (by decide) (by decide)).mpr ⟨Int32.not_lt.mp c8, c13⟩) hy
          · refine ev_iconst (-1) dX11_addExponentTest_16 rfl ?_
            refine ev_iret dX11_addExponentTest_17 rfl ?_
            exact ⟨by with_reducible rfl, same.rf, t⟩
  · have q1 := b01_f (fun z => hx (e7.mp z))
    have hP : ¬ (rg x 0 6 ∧ rg y 0 3) := fun z => hx z.1
    rw [addA_f hP, addL_f hP]
    refine ev_start 0 (lv := [some (.ref 0), some (.int x), some (.int y)]) rfl (by decide) (Nat.le_of_ble_eq_true rfl) ?_
    refine ev_iload_n dX11_addExponentTest_0 rfl ?_
    refine ev_callS (cl_isVariable) ok_X11_isVariable ml_X11_242 rfl rfl (Nat.le_of_ble_eq_true rfl) dX11_addExponentTest_1 (kI ?_)
    refine ev_if_eqN 16 dX11_addExponentTest_4 (by decide) (by omega) (fun c4 => ?_) (fun c4 => ?_)
    · refine ev_iconst (-1) dX11_addExponentTest_16 rfl ?_
      refine ev_iret dX11_addExponentTest_17 rfl ?_
      exact ⟨by with_reducible rfl, same.rf, t⟩
    · omega
theorem cl_addExponentTestM {T : List Tst} {x y : Int32} (t : tR h T) (o : okT T) : Cl G (d + 1) M_X12_addExponentTest [.ref 67, .int x, .int y] h (fun rv h' => rv = some (.int (addA T (rg x 0 6 ∧ rg y 0 3))) ∧ mod (fun q => q ≠ 77) (fun j => j ≠ 16) h h' ∧ tR h' (addL T (rg x 0 6 ∧ rg y 0 3) (1, x.toNatClampNeg, y.toNatClampNeg))) := by
  have K : ∀ v, v = b01 (rg x 0 6 ∧ rg y 0 3) → ∀ h1 : MH, h1 = h → Ev G (d + 1) M_X12_addExponentTest 30 [some (.ref 67), some (.int x), some (.int y)] [.int (nI v), .ref 67] h1 (fun rv h' => rv = some (.int (addA T (rg x 0 6 ∧ rg y 0 3))) ∧ mod (fun q => q ≠ 77) (fun j => j ≠ 16) h h' ∧ tR h' (addL T (rg x 0 6 ∧ rg y 0 3) (1, x.toNatClampNeg, y.toNatClampNeg))) := by
    rintro v hv h1 rfl
    refine ev_iconst (nI 1) dX12_addExponentTest_30 rfl ?_
    refine ev_iload_n dX12_addExponentTest_31 rfl ?_
    refine ev_iload_n dX12_addExponentTest_32 rfl ?_
    refine ev_callV (cl_addTR (k := 1) (a := x.toNatClampNeg) (b := y.toNatClampNeg) (P := rg x 0 6 ∧ rg y 0 3) t o hv (by rintro ⟨⟨j, h1, h2, rfl⟩, ⟨k, h3, h4, rfl⟩⟩; exact ⟨rfl, by rw [nI_clamp (show j < 2 ^ 31 by omega)], by rw [nI_clamp (show k < 2 ^ 31 by omega)]; rfl⟩)) ok_X12_addTest ml_X12_239 rfl rfl rfl rfl (Nat.le_of_ble_eq_true rfl) dX12_addExponentTest_33 ?_
    rintro rv h1 ⟨rfl, p2, p3⟩
    refine ev_iret dX12_addExponentTest_36 rfl ?_
    exact ⟨by with_reducible rfl, p2, p3⟩
  have w1 := b01_lt (rg x 0 6)
  have w2 := b01_lt (rg y 0 3)
  refine ev_start 0 (lv := [some (.ref 67), some (.int x), some (.int y)]) rfl (by decide) (Nat.le_of_ble_eq_true rfl) ?_
  refine ev_aload_n dX12_addExponentTest_0 rfl ?_
  refine ev_iload_n dX12_addExponentTest_1 rfl ?_
  refine ev_i2l dX12_addExponentTest_2 rfl ?_
  refine ev_lconst (lN 0) dX12_addExponentTest_3 rfl ?_
  refine ev_ldc2 (lN 6) dX12_addExponentTest_4 kl_X12_243 ?_
  refine ev_callS (cl_btw (a := 0) (b := 6) rfl rfl (by decide) (by decide)) ok_X12_isBetween ml_X12_79 rfl rfl (Nat.le_of_ble_eq_true rfl) dX12_addExponentTest_7 (kI ?_)
  refine ev_if_eqN 29 dX12_addExponentTest_10 (by decide) (by omega) (fun c10 => ?_) (fun c10 => ?_)
  · refine ev_iconst (nI 0) dX12_addExponentTest_29 rfl ?_
    exact K 0 (b01_f (fun z => b01_0.mp c10 z.1)).symm _ rfl
  · refine ev_iload_n dX12_addExponentTest_13 rfl ?_
    refine ev_i2l dX12_addExponentTest_14 rfl ?_
    refine ev_lconst (lN 0) dX12_addExponentTest_15 rfl ?_
    refine ev_ldc2 (lN 3) dX12_addExponentTest_16 kl_X12_183 ?_
    refine ev_callS (cl_btw (a := 0) (b := 3) rfl rfl (by decide) (by decide)) ok_X12_isBetween ml_X12_79 rfl rfl (Nat.le_of_ble_eq_true rfl) dX12_addExponentTest_19 (kI ?_)
    refine ev_if_eqN 29 dX12_addExponentTest_22 (by decide) (by omega) (fun c22 => ?_) (fun c22 => ?_)
    · refine ev_iconst (nI 0) dX12_addExponentTest_29 rfl ?_
      exact K 0 (b01_f (fun z => b01_0.mp c22 z.2)).symm _ rfl
    · refine ev_iconst (nI 1) dX12_addExponentTest_25 rfl ?_
      refine ev_goto 30 dX12_addExponentTest_26 (by decide) ?_
      exact K 1 (b01_t ⟨Classical.byContradiction fun z => c10 (b01_f z), Classical.byContradiction fun z => c22 (b01_f z)⟩).symm _ rfl
theorem cl_addSquareFreeTestC {T : List Tst} (t : tC h T) (o : okT T) : Cl G (d + 1) M_X11_addSquareFreeTest [.ref 0] h (fun rv h' => rv = some (.int (addA T (True))) ∧ same (fun q => q < 34 ∨ 38 < q) h h' ∧ tC h' (addL T (True) (2, 0, 0))) := by
  refine ev_start 0 (lv := [some (.ref 0)]) rfl (by decide) (Nat.le_of_ble_eq_true rfl) ?_
  refine ev_aload_n dX11_addSquareFreeTest_0 rfl ?_
  refine ev_getR fl_X11_46 rfl rfl dX11_addSquareFreeTest_1 ?_
  refine ev_iconst (nI 2) dX11_addSquareFreeTest_4 rfl ?_
  refine ev_iconst (nI 0) dX11_addSquareFreeTest_5 rfl ?_
  refine ev_iconst (nI 0) dX11_addSquareFreeTest_6 rfl ?_
  refine ev_callV (cl_addTC trivial t o ⟨by decide, by decide, by decide, fun z => absurd z (show ¬ 2 = 1 by decide), fun z => absurd z (show ¬ 5 ≤ 2 by decide), fun z => absurd z (show ¬ 2 = 7 by decide)⟩) ok_X10_add ml_X11_239 rfl rfl rfl rfl (Nat.le_of_ble_eq_true rfl) dX11_addSquareFreeTest_7 ?_
  rintro rv h1 ⟨rfl, p2, p3⟩
  refine ev_iret dX11_addSquareFreeTest_10 rfl ?_
  exact ⟨by with_reducible rfl, p2, p3⟩
theorem cl_addSquareFreeTestM {T : List Tst} (t : tR h T) (o : okT T) : Cl G (d + 1) M_X12_addSquareFreeTest [.ref 67] h (fun rv h' => rv = some (.int (addA T (True))) ∧ mod (fun q => q ≠ 77) (fun j => j ≠ 16) h h' ∧ tR h' (addL T (True) (2, 0, 0))) := by
  refine ev_start 0 (lv := [some (.ref 67)]) rfl (by decide) (Nat.le_of_ble_eq_true rfl) ?_
  refine ev_aload_n dX12_addSquareFreeTest_0 rfl ?_
  refine ev_iconst (nI 1) dX12_addSquareFreeTest_1 rfl ?_
  refine ev_iconst (nI 2) dX12_addSquareFreeTest_2 rfl ?_
  refine ev_iconst (nI 0) dX12_addSquareFreeTest_3 rfl ?_
  refine ev_iconst (nI 0) dX12_addSquareFreeTest_4 rfl ?_
  refine ev_callV (cl_addTR (k := 2) (a := 0) (b := 0) (P := True) t o (b01_t trivial).symm (fun _ => ⟨rfl, rfl, rfl⟩)) ok_X12_addTest ml_X12_239 rfl rfl rfl rfl (Nat.le_of_ble_eq_true rfl) dX12_addSquareFreeTest_5 ?_
  rintro rv h1 ⟨rfl, p2, p3⟩
  refine ev_iret dX12_addSquareFreeTest_8 rfl ?_
  exact ⟨by with_reducible rfl, p2, p3⟩
theorem cl_addAndTestC {T : List Tst} {x y : Int32} (t : tC h T) (o : okT T) : Cl G (d + 1) M_X11_addAndTest [.ref 0, .int x, .int y] h (fun rv h' => rv = some (.int (addA T (inR x T.length ∧ inR y T.length))) ∧ same (fun q => q < 34 ∨ 38 < q) h h' ∧ tC h' (addL T (inR x T.length ∧ inR y T.length) (5, x.toNatClampNeg, y.toNatClampNeg))) := by
  have l8 := o.1
  by_cases hx : inR x T.length
  · have q1 := b01_t hx
    by_cases hy : inR y T.length
    · have q2 := b01_t hy
      have hxy : inR x T.length ∧ inR y T.length := ⟨hx, hy⟩
      obtain ⟨j, hj, rfl⟩ := hx
      obtain ⟨k, hk, rfl⟩ := hy
      rw [nI_clamp (show j < 2 ^ 31 by omega), nI_clamp (show k < 2 ^ 31 by omega)]
      refine ev_start 0 (lv := [some (.ref 0), some (.int (nI j)), some (.int (nI k))]) rfl (by decide) (Nat.le_of_ble_eq_true rfl) ?_
      refine ev_aload_n dX11_addAndTest_0 rfl ?_
      refine ev_iload_n dX11_addAndTest_1 rfl ?_
      refine ev_callV (cl_isTestC t l8) ok_X11_isTest ml_X11_245 rfl rfl rfl rfl (Nat.le_of_ble_eq_true rfl) dX11_addAndTest_2 (kI ?_)
      refine ev_if_eqN 29 dX11_addAndTest_5 (by decide) (by omega) (fun c5 => ?_) (fun c5 => ?_)
      · omega
      · refine ev_aload_n dX11_addAndTest_8 rfl ?_
        refine ev_iload_n dX11_addAndTest_9 rfl ?_
        refine ev_callV (cl_isTestC t l8) ok_X11_isTest ml_X11_245 rfl rfl rfl rfl (Nat.le_of_ble_eq_true rfl) dX11_addAndTest_10 (kI ?_)
        refine ev_if_eqN 29 dX11_addAndTest_13 (by decide) (by omega) (fun c13 => ?_) (fun c13 => ?_)
        · omega
        · refine ev_aload_n dX11_addAndTest_16 rfl ?_
          refine ev_getR fl_X11_46 rfl rfl dX11_addAndTest_17 ?_
          refine ev_iconst (nI 5) dX11_addAndTest_20 rfl ?_
          refine ev_iload_n dX11_addAndTest_21 rfl ?_
          refine ev_iload_n dX11_addAndTest_22 rfl ?_
          refine ev_callV (cl_addTC hxy t o ⟨by simp, by show j ≤ 21; omega, by show k ≤ 21; omega, fun z => absurd z (show ¬ 5 = 1 by decide), fun z => ⟨hj, hk⟩, fun z => absurd z (show ¬ 5 = 7 by decide)⟩) ok_X10_add ml_X11_239 rfl rfl rfl rfl (Nat.le_of_ble_eq_true rfl) dX11_addAndTest_23 ?_
          rintro rv h1 ⟨rfl, p2, p3⟩
          refine ev_goto 30 dX11_addAndTest_26 (by decide) ?_
          refine ev_iret dX11_addAndTest_30 rfl ?_
          exact ⟨by with_reducible rfl, p2, p3⟩
    · have q2 := b01_f hy
      have hP : ¬ (inR x T.length ∧ inR y T.length) := fun z => hy z.2
      rw [addA_f hP, addL_f hP]
      refine ev_start 0 (lv := [some (.ref 0), some (.int x), some (.int y)]) rfl (by decide) (Nat.le_of_ble_eq_true rfl) ?_
      refine ev_aload_n dX11_addAndTest_0 rfl ?_
      refine ev_iload_n dX11_addAndTest_1 rfl ?_
      refine ev_callV (cl_isTestC t l8) ok_X11_isTest ml_X11_245 rfl rfl rfl rfl (Nat.le_of_ble_eq_true rfl) dX11_addAndTest_2 (kI ?_)
      refine ev_if_eqN 29 dX11_addAndTest_5 (by decide) (by omega) (fun c5 => ?_) (fun c5 => ?_)
      · omega
      · refine ev_aload_n dX11_addAndTest_8 rfl ?_
        refine ev_iload_n dX11_addAndTest_9 rfl ?_
        refine ev_callV (cl_isTestC t l8) ok_X11_isTest ml_X11_245 rfl rfl rfl rfl (Nat.le_of_ble_eq_true rfl) dX11_addAndTest_10 (kI ?_)
        refine ev_if_eqN 29 dX11_addAndTest_13 (by decide) (by omega) (fun c13 => ?_) (fun c13 => ?_)
        · refine ev_iconst (-1) dX11_addAndTest_29 rfl ?_
          refine ev_iret dX11_addAndTest_30 rfl ?_
          exact ⟨by with_reducible rfl, same.rf, t⟩
        · omega
  · have q1 := b01_f hx
    have hP : ¬ (inR x T.length ∧ inR y T.length) := fun z => hx z.1
    rw [addA_f hP, addL_f hP]
    refine ev_start 0 (lv := [some (.ref 0), some (.int x), some (.int y)]) rfl (by decide) (Nat.le_of_ble_eq_true rfl) ?_
    refine ev_aload_n dX11_addAndTest_0 rfl ?_
    refine ev_iload_n dX11_addAndTest_1 rfl ?_
    refine ev_callV (cl_isTestC t l8) ok_X11_isTest ml_X11_245 rfl rfl rfl rfl (Nat.le_of_ble_eq_true rfl) dX11_addAndTest_2 (kI ?_)
    refine ev_if_eqN 29 dX11_addAndTest_5 (by decide) (by omega) (fun c5 => ?_) (fun c5 => ?_)
    · refine ev_iconst (-1) dX11_addAndTest_29 rfl ?_
      refine ev_iret dX11_addAndTest_30 rfl ?_
      exact ⟨by with_reducible rfl, same.rf, t⟩
    · omega
theorem cl_addAndTestM {T : List Tst} {x y : Int32} (t : tR h T) (o : okT T) : Cl G (d + 2) M_X12_addAndTest [.ref 67, .int x, .int y] h (fun rv h' => rv = some (.int (addA T (inR x T.length ∧ inR y T.length))) ∧ mod (fun q => q ≠ 77) (fun j => j ≠ 16) h h' ∧ tR h' (addL T (inR x T.length ∧ inR y T.length) (5, x.toNatClampNeg, y.toNatClampNeg))) := by
  have l8 := o.1
  have K : ∀ v, v = b01 (inR x T.length ∧ inR y T.length) → ∀ h1 : MH, h1 = h → Ev G (d + 2) M_X12_addAndTest 22 [some (.ref 67), some (.int x), some (.int y)] [.int (nI v), .ref 67] h1 (fun rv h' => rv = some (.int (addA T (inR x T.length ∧ inR y T.length))) ∧ mod (fun q => q ≠ 77) (fun j => j ≠ 16) h h' ∧ tR h' (addL T (inR x T.length ∧ inR y T.length) (5, x.toNatClampNeg, y.toNatClampNeg))) := by
    rintro v hv h1 rfl
    refine ev_iconst (nI 5) dX12_addAndTest_22 rfl ?_
    refine ev_iload_n dX12_addAndTest_23 rfl ?_
    refine ev_iload_n dX12_addAndTest_24 rfl ?_
    refine ev_callV (cl_addTR (k := 5) (a := x.toNatClampNeg) (b := y.toNatClampNeg) (P := inR x T.length ∧ inR y T.length) t o hv (by rintro ⟨⟨j, h1, rfl⟩, ⟨k, h3, rfl⟩⟩; exact ⟨rfl, by rw [nI_clamp (show j < 2 ^ 31 by omega)], by rw [nI_clamp (show k < 2 ^ 31 by omega)]; rfl⟩)) ok_X12_addTest ml_X12_239 rfl rfl rfl rfl (Nat.le_of_ble_eq_true rfl) dX12_addAndTest_25 ?_
    rintro rv h1 ⟨rfl, p2, p3⟩
    refine ev_iret dX12_addAndTest_28 rfl ?_
    exact ⟨by with_reducible rfl, p2, p3⟩
  have w1 := b01_lt (inR x T.length)
  have w2 := b01_lt (inR y T.length)
  refine ev_start 0 (lv := [some (.ref 67), some (.int x), some (.int y)]) rfl (by decide) (Nat.le_of_ble_eq_true rfl) ?_
  refine ev_aload_n dX12_addAndTest_0 rfl ?_
  refine ev_aload_n dX12_addAndTest_1 rfl ?_
  refine ev_iload_n dX12_addAndTest_2 rfl ?_
  refine ev_callV (cl_isTestM t l8) ok_X12_isTest ml_X12_245 rfl rfl rfl rfl (Nat.le_of_ble_eq_true rfl) dX12_addAndTest_3 (kI ?_)
  refine ev_if_eqN 21 dX12_addAndTest_6 (by decide) (by omega) (fun c6 => ?_) (fun c6 => ?_)
  · refine ev_iconst (nI 0) dX12_addAndTest_21 rfl ?_
    exact K 0 (b01_f (fun z => b01_0.mp c6 z.1)).symm _ rfl
  · refine ev_aload_n dX12_addAndTest_9 rfl ?_
    refine ev_iload_n dX12_addAndTest_10 rfl ?_
    refine ev_callV (cl_isTestM t l8) ok_X12_isTest ml_X12_245 rfl rfl rfl rfl (Nat.le_of_ble_eq_true rfl) dX12_addAndTest_11 (kI ?_)
    refine ev_if_eqN 21 dX12_addAndTest_14 (by decide) (by omega) (fun c14 => ?_) (fun c14 => ?_)
    · refine ev_iconst (nI 0) dX12_addAndTest_21 rfl ?_
      exact K 0 (b01_f (fun z => b01_0.mp c14 z.2)).symm _ rfl
    · refine ev_iconst (nI 1) dX12_addAndTest_17 rfl ?_
      refine ev_goto 22 dX12_addAndTest_18 (by decide) ?_
      exact K 1 (b01_t ⟨Classical.byContradiction fun z => c6 (b01_f z), Classical.byContradiction fun z => c14 (b01_f z)⟩).symm _ rfl
theorem cl_addOrTestC {T : List Tst} {x y : Int32} (t : tC h T) (o : okT T) : Cl G (d + 1) M_X11_addOrTest [.ref 0, .int x, .int y] h (fun rv h' => rv = some (.int (addA T (inR x T.length ∧ inR y T.length))) ∧ same (fun q => q < 34 ∨ 38 < q) h h' ∧ tC h' (addL T (inR x T.length ∧ inR y T.length) (6, x.toNatClampNeg, y.toNatClampNeg))) := by
  have l8 := o.1
  by_cases hx : inR x T.length
  · have q1 := b01_t hx
    by_cases hy : inR y T.length
    · have q2 := b01_t hy
      have hxy : inR x T.length ∧ inR y T.length := ⟨hx, hy⟩
      obtain ⟨j, hj, rfl⟩ := hx
      obtain ⟨k, hk, rfl⟩ := hy
      rw [nI_clamp (show j < 2 ^ 31 by omega), nI_clamp (show k < 2 ^ 31 by omega)]
      refine ev_start 0 (lv := [some (.ref 0), some (.int (nI j)), some (.int (nI k))]) rfl (by decide) (Nat.le_of_ble_eq_true rfl) ?_
      refine ev_aload_n dX11_addOrTest_0 rfl ?_
      refine ev_iload_n dX11_addOrTest_1 rfl ?_
      refine ev_callV (cl_isTestC t l8) ok_X11_isTest ml_X11_245 rfl rfl rfl rfl (Nat.le_of_ble_eq_true rfl) dX11_addOrTest_2 (kI ?_)
      refine ev_if_eqN 30 dX11_addOrTest_5 (by decide) (by omega) (fun c5 => ?_) (fun c5 => ?_)
      · omega
      · refine ev_aload_n dX11_addOrTest_8 rfl ?_
        refine ev_iload_n dX11_addOrTest_9 rfl ?_
        refine ev_callV (cl_isTestC t l8) ok_X11_isTest ml_X11_245 rfl rfl rfl rfl (Nat.le_of_ble_eq_true rfl) dX11_addOrTest_10 (kI ?_)
        refine ev_if_eqN 30 dX11_addOrTest_13 (by decide) (by omega) (fun c13 => ?_) (fun c13 => ?_)
        · omega
        · refine ev_aload_n dX11_addOrTest_16 rfl ?_
          refine ev_getR fl_X11_46 rfl rfl dX11_addOrTest_17 ?_
          refine ev_bipush (nI 6) dX11_addOrTest_20 rfl ?_
          refine ev_iload_n dX11_addOrTest_22 rfl ?_
          refine ev_iload_n dX11_addOrTest_23 rfl ?_
          refine ev_callV (cl_addTC hxy t o ⟨by simp, by show j ≤ 21; omega, by show k ≤ 21; omega, fun z => absurd z (show ¬ 6 = 1 by decide), fun z => ⟨hj, hk⟩, fun z => absurd z (show ¬ 6 = 7 by decide)⟩) ok_X10_add ml_X11_239 rfl rfl rfl rfl (Nat.le_of_ble_eq_true rfl) dX11_addOrTest_24 ?_
          rintro rv h1 ⟨rfl, p2, p3⟩
          refine ev_goto 31 dX11_addOrTest_27 (by decide) ?_
          refine ev_iret dX11_addOrTest_31 rfl ?_
          exact ⟨by with_reducible rfl, p2, p3⟩
    · have q2 := b01_f hy
      have hP : ¬ (inR x T.length ∧ inR y T.length) := fun z => hy z.2
      rw [addA_f hP, addL_f hP]
      refine ev_start 0 (lv := [some (.ref 0), some (.int x), some (.int y)]) rfl (by decide) (Nat.le_of_ble_eq_true rfl) ?_
      refine ev_aload_n dX11_addOrTest_0 rfl ?_
      refine ev_iload_n dX11_addOrTest_1 rfl ?_
      refine ev_callV (cl_isTestC t l8) ok_X11_isTest ml_X11_245 rfl rfl rfl rfl (Nat.le_of_ble_eq_true rfl) dX11_addOrTest_2 (kI ?_)
      refine ev_if_eqN 30 dX11_addOrTest_5 (by decide) (by omega) (fun c5 => ?_) (fun c5 => ?_)
      · omega
      · refine ev_aload_n dX11_addOrTest_8 rfl ?_
        refine ev_iload_n dX11_addOrTest_9 rfl ?_
        refine ev_callV (cl_isTestC t l8) ok_X11_isTest ml_X11_245 rfl rfl rfl rfl (Nat.le_of_ble_eq_true rfl) dX11_addOrTest_10 (kI ?_)
        refine ev_if_eqN 30 dX11_addOrTest_13 (by decide) (by omega) (fun c13 => ?_) (fun c13 => ?_)
        · refine ev_iconst (-1) dX11_addOrTest_30 rfl ?_
          refine ev_iret dX11_addOrTest_31 rfl ?_
          exact ⟨by with_reducible rfl, same.rf, t⟩
        · omega
  · have q1 := b01_f hx
    have hP : ¬ (inR x T.length ∧ inR y T.length) := fun z => hx z.1
    rw [addA_f hP, addL_f hP]
    refine ev_start 0 (lv := [some (.ref 0), some (.int x), some (.int y)]) rfl (by decide) (Nat.le_of_ble_eq_true rfl) ?_
    refine ev_aload_n dX11_addOrTest_0 rfl ?_
    refine ev_iload_n dX11_addOrTest_1 rfl ?_
    refine ev_callV (cl_isTestC t l8) ok_X11_isTest ml_X11_245 rfl rfl rfl rfl (Nat.le_of_ble_eq_true rfl) dX11_addOrTest_2 (kI ?_)
    refine ev_if_eqN 30 dX11_addOrTest_5 (by decide) (by omega) (fun c5 => ?_) (fun c5 => ?_)
    · refine ev_iconst (-1) dX11_addOrTest_30 rfl ?_
      refine ev_iret dX11_addOrTest_31 rfl ?_
      exact ⟨by with_reducible rfl, same.rf, t⟩
    · omega
theorem cl_addOrTestM {T : List Tst} {x y : Int32} (t : tR h T) (o : okT T) : Cl G (d + 2) M_X12_addOrTest [.ref 67, .int x, .int y] h (fun rv h' => rv = some (.int (addA T (inR x T.length ∧ inR y T.length))) ∧ mod (fun q => q ≠ 77) (fun j => j ≠ 16) h h' ∧ tR h' (addL T (inR x T.length ∧ inR y T.length) (6, x.toNatClampNeg, y.toNatClampNeg))) := by
  have l8 := o.1
  have K : ∀ v, v = b01 (inR x T.length ∧ inR y T.length) → ∀ h1 : MH, h1 = h → Ev G (d + 2) M_X12_addOrTest 22 [some (.ref 67), some (.int x), some (.int y)] [.int (nI v), .ref 67] h1 (fun rv h' => rv = some (.int (addA T (inR x T.length ∧ inR y T.length))) ∧ mod (fun q => q ≠ 77) (fun j => j ≠ 16) h h' ∧ tR h' (addL T (inR x T.length ∧ inR y T.length) (6, x.toNatClampNeg, y.toNatClampNeg))) := by
    rintro v hv h1 rfl
    refine ev_bipush (nI 6) dX12_addOrTest_22 rfl ?_
    refine ev_iload_n dX12_addOrTest_24 rfl ?_
    refine ev_iload_n dX12_addOrTest_25 rfl ?_
    refine ev_callV (cl_addTR (k := 6) (a := x.toNatClampNeg) (b := y.toNatClampNeg) (P := inR x T.length ∧ inR y T.length) t o hv (by rintro ⟨⟨j, h1, rfl⟩, ⟨k, h3, rfl⟩⟩; exact ⟨rfl, by rw [nI_clamp (show j < 2 ^ 31 by omega)], by rw [nI_clamp (show k < 2 ^ 31 by omega)]; rfl⟩)) ok_X12_addTest ml_X12_239 rfl rfl rfl rfl (Nat.le_of_ble_eq_true rfl) dX12_addOrTest_26 ?_
    rintro rv h1 ⟨rfl, p2, p3⟩
    refine ev_iret dX12_addOrTest_29 rfl ?_
    exact ⟨by with_reducible rfl, p2, p3⟩
  have w1 := b01_lt (inR x T.length)
  have w2 := b01_lt (inR y T.length)
  refine ev_start 0 (lv := [some (.ref 67), some (.int x), some (.int y)]) rfl (by decide) (Nat.le_of_ble_eq_true rfl) ?_
  refine ev_aload_n dX12_addOrTest_0 rfl ?_
  refine ev_aload_n dX12_addOrTest_1 rfl ?_
  refine ev_iload_n dX12_addOrTest_2 rfl ?_
  refine ev_callV (cl_isTestM t l8) ok_X12_isTest ml_X12_245 rfl rfl rfl rfl (Nat.le_of_ble_eq_true rfl) dX12_addOrTest_3 (kI ?_)
  refine ev_if_eqN 21 dX12_addOrTest_6 (by decide) (by omega) (fun c6 => ?_) (fun c6 => ?_)
  · refine ev_iconst (nI 0) dX12_addOrTest_21 rfl ?_
    exact K 0 (b01_f (fun z => b01_0.mp c6 z.1)).symm _ rfl
  · refine ev_aload_n dX12_addOrTest_9 rfl ?_
    refine ev_iload_n dX12_addOrTest_10 rfl ?_
    refine ev_callV (cl_isTestM t l8) ok_X12_isTest ml_X12_245 rfl rfl rfl rfl (Nat.le_of_ble_eq_true rfl) dX12_addOrTest_11 (kI ?_)
    refine ev_if_eqN 21 dX12_addOrTest_14 (by decide) (by omega) (fun c14 => ?_) (fun c14 => ?_)
    · refine ev_iconst (nI 0) dX12_addOrTest_21 rfl ?_
      exact K 0 (b01_f (fun z => b01_0.mp c14 z.2)).symm _ rfl
    · refine ev_iconst (nI 1) dX12_addOrTest_17 rfl ?_
      refine ev_goto 22 dX12_addOrTest_18 (by decide) ?_
      exact K 1 (b01_t ⟨Classical.byContradiction fun z => c6 (b01_f z), Classical.byContradiction fun z => c14 (b01_f z)⟩).symm _ rfl
theorem cl_addNotTestC {T : List Tst} {x : Int32} (t : tC h T) (o : okT T) : Cl G (d + 1) M_X11_addNotTest [.ref 0, .int x] h (fun rv h' => rv = some (.int (addA T (inR x T.length))) ∧ same (fun q => q < 34 ∨ 38 < q) h h' ∧ tC h' (addL T (inR x T.length) (7, x.toNatClampNeg, x.toNatClampNeg))) := by
  have l8 := o.1
  by_cases hx : inR x T.length
  · have q1 := b01_t hx
    have hx0 := hx
    obtain ⟨j, hj, rfl⟩ := hx
    rw [nI_clamp (show j < 2 ^ 31 by omega)]
    refine ev_start 0 (lv := [some (.ref 0), some (.int (nI j))]) rfl (by decide) (Nat.le_of_ble_eq_true rfl) ?_
    refine ev_aload_n dX11_addNotTest_0 rfl ?_
    refine ev_iload_n dX11_addNotTest_1 rfl ?_
    refine ev_callV (cl_isTestC t l8) ok_X11_isTest ml_X11_245 rfl rfl rfl rfl (Nat.le_of_ble_eq_true rfl) dX11_addNotTest_2 (kI ?_)
    refine ev_if_eqN 22 dX11_addNotTest_5 (by decide) (by omega) (fun c5 => ?_) (fun c5 => ?_)
    · omega
    · refine ev_aload_n dX11_addNotTest_8 rfl ?_
      refine ev_getR fl_X11_46 rfl rfl dX11_addNotTest_9 ?_
      refine ev_bipush (nI 7) dX11_addNotTest_12 rfl ?_
      refine ev_iload_n dX11_addNotTest_14 rfl ?_
      refine ev_iload_n dX11_addNotTest_15 rfl ?_
      refine ev_callV (cl_addTC hx0 t o ⟨by simp, by show j ≤ 21; omega, by show j ≤ 21; omega, fun z => absurd z (show ¬ 7 = 1 by decide), fun z => ⟨hj, hj⟩, fun z => rfl⟩) ok_X10_add ml_X11_239 rfl rfl rfl rfl (Nat.le_of_ble_eq_true rfl) dX11_addNotTest_16 ?_
      rintro rv h1 ⟨rfl, p2, p3⟩
      refine ev_goto 23 dX11_addNotTest_19 (by decide) ?_
      refine ev_iret dX11_addNotTest_23 rfl ?_
      exact ⟨by with_reducible rfl, p2, p3⟩
  · have q1 := b01_f hx
    rw [addA_f hx, addL_f hx]
    refine ev_start 0 (lv := [some (.ref 0), some (.int x)]) rfl (by decide) (Nat.le_of_ble_eq_true rfl) ?_
    refine ev_aload_n dX11_addNotTest_0 rfl ?_
    refine ev_iload_n dX11_addNotTest_1 rfl ?_
    refine ev_callV (cl_isTestC t l8) ok_X11_isTest ml_X11_245 rfl rfl rfl rfl (Nat.le_of_ble_eq_true rfl) dX11_addNotTest_2 (kI ?_)
    refine ev_if_eqN 22 dX11_addNotTest_5 (by decide) (by omega) (fun c5 => ?_) (fun c5 => ?_)
    · refine ev_iconst (-1) dX11_addNotTest_22 rfl ?_
      refine ev_iret dX11_addNotTest_23 rfl ?_
      exact ⟨by with_reducible rfl, same.rf, t⟩
    · omega
theorem cl_addNotTestM {T : List Tst} {x : Int32} (t : tR h T) (o : okT T) : Cl G (d + 2) M_X12_addNotTest [.ref 67, .int x] h (fun rv h' => rv = some (.int (addA T (inR x T.length))) ∧ mod (fun q => q ≠ 77) (fun j => j ≠ 16) h h' ∧ tR h' (addL T (inR x T.length) (7, x.toNatClampNeg, x.toNatClampNeg))) := by
  have l8 := o.1
  refine ev_start 0 (lv := [some (.ref 67), some (.int x)]) rfl (by decide) (Nat.le_of_ble_eq_true rfl) ?_
  refine ev_aload_n dX12_addNotTest_0 rfl ?_
  refine ev_aload_n dX12_addNotTest_1 rfl ?_
  refine ev_iload_n dX12_addNotTest_2 rfl ?_
  refine ev_callV (cl_isTestM t l8) ok_X12_isTest ml_X12_245 rfl rfl rfl rfl (Nat.le_of_ble_eq_true rfl) dX12_addNotTest_3 (kI ?_)
  refine ev_bipush (nI 7) dX12_addNotTest_6 rfl ?_
  refine ev_iload_n dX12_addNotTest_8 rfl ?_
  refine ev_iconst (nI 0) dX12_addNotTest_9 rfl ?_
  refine ev_callV (cl_addTR (k := 7) (a := x.toNatClampNeg) (b := x.toNatClampNeg) (P := inR x T.length) t o rfl (by rintro ⟨j, h1, rfl⟩; exact ⟨rfl, by rw [nI_clamp (show j < 2 ^ 31 by omega)], rfl⟩)) ok_X12_addTest ml_X12_239 rfl rfl rfl rfl (Nat.le_of_ble_eq_true rfl) dX12_addNotTest_10 ?_
  rintro rv h1 ⟨rfl, p2, p3⟩
  refine ev_iret dX12_addNotTest_13 rfl ?_
  exact ⟨by with_reducible rfl, p2, p3⟩
end TADD
