section TESTS4
variable {G : MG} {d : Nat} {h : MH}
theorem cl_isTestM {T : List Tst} {x : Int32} (t : tR h T) (hl : T.length ≤ 8) : Cl G (d + 1) M_X12_isTest [.ref 67, .int x] h (qI (nI (b01 (inR x T.length))) h) := by
  by_cases hz : T.length = 0
  · have e : b01 (inR x T.length) = b01 (lN 0 ≤ x.toInt64 ∧ x.toInt64 ≤ (nI 0 - nI 1).toInt64) := b01_c ⟨fun ⟨j, hj, _⟩ => absurd hj (by omega), fun ⟨h1, h2⟩ => by
      have q1 : nI 0 ≤ x := (i2l_le _ _).mp h1
      have q2 : x ≤ nI 0 - nI 1 := (i2l_le _ _).mp h2
      exact absurd (Int32.le_trans q1 q2) (by decide)⟩
    rw [e]
    have t1 : h.1 67 16 = nI 0 := by rw [t.1, hz]
    refine ev_start 0 (lv := [some (.ref 67), some (.int x)]) rfl (by decide) (Nat.le_of_ble_eq_true rfl) ?_
    refine ev_iload_n dX12_isTest_0 rfl ?_
    refine ev_i2l dX12_isTest_1 rfl ?_
    refine ev_lconst (lN 0) dX12_isTest_2 rfl ?_
    refine ev_aload_n dX12_isTest_3 rfl ?_
    refine ev_getIv (t1) fl_X12_236 rfl rfl dX12_isTest_4 ?_
    refine ev_iconst (nI 1) dX12_isTest_7 rfl ?_
    refine ev_isub dX12_isTest_8 ?_
    refine ev_i2l dX12_isTest_9 rfl ?_
    refine ev_callS (cl_isBetween) ok_X12_isBetween ml_X12_79 rfl rfl (Nat.le_of_ble_eq_true rfl) dX12_isTest_10 (kI ?_)
    refine ev_zret dX12_isTest_13 rfl (b01_nar _) ?_
    exact ⟨by with_reducible rfl, rfl⟩
  · rw [b01_c (rg_inR (x := x) (by omega))]
    refine ev_start 0 (lv := [some (.ref 67), some (.int x)]) rfl (by decide) (Nat.le_of_ble_eq_true rfl) ?_
    refine ev_iload_n dX12_isTest_0 rfl ?_
    refine ev_i2l dX12_isTest_1 rfl ?_
    refine ev_lconst (lN 0) dX12_isTest_2 rfl ?_
    refine ev_aload_n dX12_isTest_3 rfl ?_
    refine ev_getIv (t.1) fl_X12_236 rfl rfl dX12_isTest_4 ?_
    refine ev_iconst (nI 1) dX12_isTest_7 rfl ?_
    refine ev_isubN dX12_isTest_8 (by omega) ?_
    refine ev_i2lN dX12_isTest_9 (by omega) ?_
    refine ev_callS (cl_btw (a := 0) (b := T.length - 1) rfl (nI_l (by omega)).symm (by omega) (by omega)) ok_X12_isBetween ml_X12_79 rfl rfl (Nat.le_of_ble_eq_true rfl) dX12_isTest_10 (kI ?_)
    refine ev_zret dX12_isTest_13 rfl (b01_nar _) ?_
    exact ⟨by with_reducible rfl, rfl⟩
end TESTS4
