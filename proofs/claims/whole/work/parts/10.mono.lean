section MONO
variable {G : MG} {d : Nat} {h : MH}
theorem cl_bc {a : Nat} (ha : a < 16384) : Cl G d M_J6_bitCount_0f7a4 [.int (nI a)] h (qI (nI (pop a)) h) := by
  rw [← bcF_pop ha]
  have e1 : (a / 2 ^ 1 &&& 1431655765) ≤ a := Nat.le_trans Nat.and_le_left (Nat.div_le_self _ _)
  obtain ⟨x1, hx1⟩ : ∃ z, z = a - (a / 2 ^ 1 &&& 1431655765) := ⟨_, rfl⟩
  have b1 : x1 ≤ a := by omega
  have e2 : (x1 &&& 858993459) ≤ x1 := Nat.and_le_left
  have e3 : (x1 / 2 ^ 2 &&& 858993459) ≤ x1 := Nat.le_trans Nat.and_le_left (Nat.div_le_self _ _)
  obtain ⟨x2, hx2⟩ : ∃ z, z = (x1 &&& 858993459) + (x1 / 2 ^ 2 &&& 858993459) := ⟨_, rfl⟩
  have b2 : x2 ≤ 2 * a := by omega
  have e4 : x2 / 2 ^ 4 ≤ x2 := Nat.div_le_self _ _
  have e5 : ((x2 + x2 / 2 ^ 4) &&& 252645135) ≤ x2 + x2 / 2 ^ 4 := Nat.and_le_left
  obtain ⟨x3, hx3⟩ : ∃ z, z = (x2 + x2 / 2 ^ 4) &&& 252645135 := ⟨_, rfl⟩
  have b3 : x3 ≤ 4 * a := by omega
  have e6 : x3 / 2 ^ 8 ≤ x3 := Nat.div_le_self _ _
  obtain ⟨x4, hx4⟩ : ∃ z, z = x3 + x3 / 2 ^ 8 := ⟨_, rfl⟩
  have b4 : x4 ≤ 8 * a := by omega
  have hF : bcF a = (x4 + x4 / 2 ^ 16) &&& 63 := by rw [hx4, hx3, hx2, hx1]; rfl
  rw [hF]
  refine ev_start 0 (lv := [some (.int (nI a))]) rfl (by decide) (Nat.le_of_ble_eq_true rfl) ?_
  refine ev_iload_n dJ6_bitCount_0f7a4_0 rfl ?_
  refine ev_iload_n dJ6_bitCount_0f7a4_1 rfl ?_
  refine ev_iconst (nI 1) dJ6_bitCount_0f7a4_2 rfl ?_
  refine ev_iushrN dJ6_bitCount_0f7a4_3 (by omega) (by omega) ?_
  refine ev_ldcw (nI 1431655765) dJ6_bitCount_0f7a4_4 ki_J6_265 ?_
  refine ev_iandN dJ6_bitCount_0f7a4_7 ?_
  refine ev_isubN dJ6_bitCount_0f7a4_8 (by omega) ?_
  rw [← hx1]
  refine ev_ist0 dJ6_bitCount_0f7a4_9 (by decide) rfl ?_
  refine ev_iload_n dJ6_bitCount_0f7a4_10 rfl ?_
  refine ev_ldcw (nI 858993459) dJ6_bitCount_0f7a4_11 ki_J6_266 ?_
  refine ev_iandN dJ6_bitCount_0f7a4_14 ?_
  refine ev_iload_n dJ6_bitCount_0f7a4_15 rfl ?_
  refine ev_iconst (nI 2) dJ6_bitCount_0f7a4_16 rfl ?_
  refine ev_iushrN dJ6_bitCount_0f7a4_17 (by omega) (by omega) ?_
  refine ev_ldcw (nI 858993459) dJ6_bitCount_0f7a4_18 ki_J6_266 ?_
  refine ev_iandN dJ6_bitCount_0f7a4_21 ?_
  refine ev_iaddN dJ6_bitCount_0f7a4_22 ?_
  rw [← hx2]
  refine ev_ist0 dJ6_bitCount_0f7a4_23 (by decide) rfl ?_
  refine ev_iload_n dJ6_bitCount_0f7a4_24 rfl ?_
  refine ev_iload_n dJ6_bitCount_0f7a4_25 rfl ?_
  refine ev_iconst (nI 4) dJ6_bitCount_0f7a4_26 rfl ?_
  refine ev_iushrN dJ6_bitCount_0f7a4_27 (by omega) (by omega) ?_
  refine ev_iaddN dJ6_bitCount_0f7a4_28 ?_
  refine ev_ldcw (nI 252645135) dJ6_bitCount_0f7a4_29 ki_J6_267 ?_
  refine ev_iandN dJ6_bitCount_0f7a4_32 ?_
  rw [← hx3]
  refine ev_ist0 dJ6_bitCount_0f7a4_33 (by decide) rfl ?_
  refine ev_iload_n dJ6_bitCount_0f7a4_34 rfl ?_
  refine ev_iload_n dJ6_bitCount_0f7a4_35 rfl ?_
  refine ev_bipush (nI 8) dJ6_bitCount_0f7a4_36 rfl ?_
  refine ev_iushrN dJ6_bitCount_0f7a4_38 (by omega) (by omega) ?_
  refine ev_iaddN dJ6_bitCount_0f7a4_39 ?_
  rw [← hx4]
  refine ev_ist0 dJ6_bitCount_0f7a4_40 (by decide) rfl ?_
  refine ev_iload_n dJ6_bitCount_0f7a4_41 rfl ?_
  refine ev_iload_n dJ6_bitCount_0f7a4_42 rfl ?_
  refine ev_bipush (nI 16) dJ6_bitCount_0f7a4_43 rfl ?_
  refine ev_iushrN dJ6_bitCount_0f7a4_45 (by omega) (by omega) ?_
  refine ev_iaddN dJ6_bitCount_0f7a4_46 ?_
  refine ev_ist0 dJ6_bitCount_0f7a4_47 (by decide) rfl ?_
  refine ev_iload_n dJ6_bitCount_0f7a4_48 rfl ?_
  refine ev_bipush (nI 63) dJ6_bitCount_0f7a4_49 rfl ?_
  refine ev_iandN dJ6_bitCount_0f7a4_51 ?_
  refine ev_iret dJ6_bitCount_0f7a4_52 rfl ?_
  exact ⟨by with_reducible rfl, rfl⟩
theorem cl_degreeOf {m : Nat} (hm : m < 16384) : Cl G (d + 1) M_X6_degreeOf [.int (nI m)] h (qI (nI (deg m)) h) := by
  have e1 : (m / 2 ^ 1 &&& 5461) ≤ m := Nat.le_trans Nat.and_le_left (Nat.div_le_self _ _)
  rw [← deg_pop hm]
  refine ev_start 0 (lv := [some (.int (nI m))]) rfl (by decide) (Nat.le_of_ble_eq_true rfl) ?_
  refine ev_iload_n dX6_degreeOf_0 rfl ?_
  refine ev_callS (cl_bc hm) ok_J6_bitCount_0f7a4 ml_X6_11 rfl rfl (Nat.le_of_ble_eq_true rfl) dX6_degreeOf_1 (kI ?_)
  refine ev_iload_n dX6_degreeOf_4 rfl ?_
  refine ev_iconst (nI 1) dX6_degreeOf_5 rfl ?_
  refine ev_ishrN dX6_degreeOf_6 (by omega) (by omega) ?_
  refine ev_sipush (nI 5461) dX6_degreeOf_7 rfl ?_
  refine ev_iandN dX6_degreeOf_10 ?_
  refine ev_callS (cl_bc (by omega)) ok_J6_bitCount_0f7a4 ml_X6_11 rfl rfl (Nat.le_of_ble_eq_true rfl) dX6_degreeOf_11 (kI ?_)
  refine ev_iaddN dX6_degreeOf_14 ?_
  refine ev_iret dX6_degreeOf_15 rfl ?_
  exact ⟨by with_reducible rfl, rfl⟩
theorem cl_unit {v : Nat} (hv : v < 15) : Cl G d M_X6_unit [.int (nI v)] h (qI (nI (4 ^ v)) h) := by
  have e1 : 1 * 2 ^ (2 * v) = 4 ^ v := by rw [Nat.one_mul, pow4]
  have e2 : 4 ^ v < 2 ^ 32 := Nat.lt_of_lt_of_le (Nat.pow_lt_pow_right (by decide) hv) (by decide)
  rw [← e1] at e2 ⊢
  refine ev_start 0 (lv := [some (.int (nI v))]) rfl (by decide) (Nat.le_of_ble_eq_true rfl) ?_
  refine ev_iconst (nI 1) dX6_unit_0 rfl ?_
  refine ev_iconst (nI 2) dX6_unit_1 rfl ?_
  refine ev_iload_n dX6_unit_2 rfl ?_
  refine ev_imulN dX6_unit_3 ?_
  refine ev_ishlN dX6_unit_4 (by omega) e2 ?_
  refine ev_iret dX6_unit_5 rfl ?_
  exact ⟨by with_reducible rfl, rfl⟩
theorem cl_exponentOf {m v : Nat} (hm : m < 2 ^ 31) (hv : v < 16) : Cl G d M_X6_exponentOf [.int (nI m), .int (nI v)] h (qI (nI (ex m v)) h) := by
  have e1 : ex m v = m / 2 ^ (2 * v) &&& 3 := by rw [nat_and3, pow4]; rfl
  rw [e1]
  refine ev_start 0 (lv := [some (.int (nI m)), some (.int (nI v))]) rfl (by decide) (Nat.le_of_ble_eq_true rfl) ?_
  refine ev_iload_n dX6_exponentOf_0 rfl ?_
  refine ev_iconst (nI 2) dX6_exponentOf_1 rfl ?_
  refine ev_iload_n dX6_exponentOf_2 rfl ?_
  refine ev_imulN dX6_exponentOf_3 ?_
  refine ev_ishrN dX6_exponentOf_4 (by omega) (by omega) ?_
  refine ev_iconst (nI 3) dX6_exponentOf_5 rfl ?_
  refine ev_iandN dX6_exponentOf_6 ?_
  refine ev_iret dX6_exponentOf_7 rfl ?_
  exact ⟨by with_reducible rfl, rfl⟩
theorem cl_exponentOfM {m v : Nat} (hm : m < 2 ^ 31) (hv : v < 16) : Cl G d M_X12_exponentOf [.int (nI m), .int (nI v)] h (qI (nI (ex m v)) h) := by
  have e1 : ex m v = m / 2 ^ (2 * v) &&& 3 := by rw [nat_and3, pow4]; rfl
  rw [e1]
  refine ev_start 0 (lv := [some (.int (nI m)), some (.int (nI v))]) rfl (by decide) (Nat.le_of_ble_eq_true rfl) ?_
  refine ev_iload_n dX12_exponentOf_0 rfl ?_
  refine ev_iconst (nI 2) dX12_exponentOf_1 rfl ?_
  refine ev_iload_n dX12_exponentOf_2 rfl ?_
  refine ev_imulN dX12_exponentOf_3 ?_
  refine ev_ishrN dX12_exponentOf_4 (by omega) (by omega) ?_
  refine ev_iconst (nI 3) dX12_exponentOf_5 rfl ?_
  refine ev_iandN dX12_exponentOf_6 ?_
  refine ev_iret dX12_exponentOf_7 rfl ?_
  exact ⟨by with_reducible rfl, rfl⟩
end MONO
