section TESTS3
variable {G : MG} {d : Nat} {h : MH}
theorem cl_addTest {T : List Tst} {k a b b' : Nat} (t : tR h T) (hl : T.length < 8) (hb : b' = if k = 7 then 0 else b) : Cl G d M_X12_addTest [.ref 67, .int (nI 1), .int (nI k), .int (nI a), .int (nI b')] h (fun rv h' => rv = some (.int (nI T.length)) ∧ mod (fun q => q ≠ 77) (fun j => j ≠ 16) h h' ∧ tR h' (T ++ [(k, a, b)])) := by
  have e1 : T.length + 1 - 1 = T.length := by omega
  refine ev_start 0 (lv := [some (.ref 67), some (.int (nI 1)), some (.int (nI k)), some (.int (nI a)), some (.int (nI b'))]) rfl (by decide) (Nat.le_of_ble_eq_true rfl) ?_
  refine ev_iload_n dX12_addTest_0 rfl ?_
  refine ev_if_neN 6 dX12_addTest_1 (by decide) (by omega) (fun c1 => ?_) (fun c1 => ?_)
  · refine ev_aload_n dX12_addTest_6 rfl ?_
    refine ev_getIv (t.1) fl_X12_236 rfl rfl dX12_addTest_7 ?_
    refine ev_bipush (nI 8) dX12_addTest_10 rfl ?_
    refine ev_icmp_neN 18 dX12_addTest_12 (by decide) (by omega) (by omega) (fun c12 => ?_) (fun c12 => ?_)
    · refine ev_aload_n dX12_addTest_18 rfl ?_
      refine ev_getR fl_X12_47 rfl rfl dX12_addTest_19 ?_
      refine ev_iconst (nI 3) dX12_addTest_22 rfl ?_
      refine ev_aload_n dX12_addTest_23 rfl ?_
      refine ev_getIv (t.1) fl_X12_236 rfl rfl dX12_addTest_24 ?_
      refine ev_imulN dX12_addTest_27 ?_
      refine ev_iload_n dX12_addTest_28 rfl ?_
      refine ev_iastN rfl dX12_addTest_29 (by omega) (by omega) ?_
      refine ev_aload_n dX12_addTest_30 rfl ?_
      refine ev_getR fl_X12_47 rfl rfl dX12_addTest_31 ?_
      refine ev_iconst (nI 3) dX12_addTest_34 rfl ?_
      refine ev_aload_n dX12_addTest_35 rfl ?_
      refine ev_getIv ((show _ = nI T.length by rw [mp_k (by decide)]; exact t.1)) fl_X12_236 rfl rfl dX12_addTest_36 ?_
      refine ev_imulN dX12_addTest_39 ?_
      refine ev_iconst (nI 1) dX12_addTest_40 rfl ?_
      refine ev_iaddN dX12_addTest_41 ?_
      refine ev_iload_n dX12_addTest_42 rfl ?_
      refine ev_iastN rfl dX12_addTest_43 (by omega) (by omega) ?_
      refine ev_aload_n dX12_addTest_44 rfl ?_
      refine ev_getR fl_X12_47 rfl rfl dX12_addTest_45 ?_
      refine ev_iconst (nI 3) dX12_addTest_48 rfl ?_
      refine ev_aload_n dX12_addTest_49 rfl ?_
      refine ev_getIv ((show _ = nI T.length by rw [mp_k (by decide), mp_k (by decide)]; exact t.1)) fl_X12_236 rfl rfl dX12_addTest_50 ?_
      refine ev_imulN dX12_addTest_53 ?_
      refine ev_iconst (nI 2) dX12_addTest_54 rfl ?_
      refine ev_iaddN dX12_addTest_55 ?_
      refine ev_iload dX12_addTest_56 rfl ?_
      refine ev_iastN rfl dX12_addTest_58 (by omega) (by omega) ?_
      refine ev_aload_n dX12_addTest_59 rfl ?_
      refine ev_dup dX12_addTest_60 rfl ?_
      refine ev_getIv ((show _ = nI T.length by rw [mp_k (by decide), mp_k (by decide), mp_k (by decide)]; exact t.1)) fl_X12_236 rfl rfl dX12_addTest_61 ?_
      refine ev_iconst (nI 1) dX12_addTest_64 rfl ?_
      refine ev_iaddN dX12_addTest_65 ?_
      refine ev_putI fp_X12_236 rfl rfl rfl rfl dX12_addTest_66 ?_
      refine ev_aload_n dX12_addTest_69 rfl ?_
      refine ev_getIv ((show _ = nI (T.length + 1) from mp_eq _ _ _ _)) fl_X12_236 rfl rfl dX12_addTest_70 ?_
      refine ev_iconst (nI 1) dX12_addTest_73 rfl ?_
      refine ev_isubN dX12_addTest_74 (by omega) ?_
      refine ev_iret dX12_addTest_75 rfl ?_
      refine ⟨by rw [e1], ((mod_p (by simp) (by decide)).tr ((mod_p (by simp) (by decide)).tr (mod_p (by simp) (by decide)))).tr (mod_f (by simp)), by rw [mp_eq, List.length_append]; rfl, fun u hul => ?_⟩
      rw [mp_k (by decide)]
      rw [List.length_append] at hul
      by_cases c : u < T.length
      · obtain ⟨w1, w2, w3⟩ := t.2 u c
        rw [tg_l c]
        refine ⟨?_, ?_, ?_⟩
        · rw [mp_j (by omega), mp_j (by omega), mp_j (by omega)]; exact w1
        · rw [mp_j (by omega), mp_j (by omega), mp_j (by omega)]; exact w2
        · rw [mp_j (by omega), mp_j (by omega), mp_j (by omega)]; exact w3
      · have e : u = T.length := by simp at hul; omega
        subst e
        rw [tg_e]
        refine ⟨?_, ?_, ?_⟩
        · rw [mp_j (by omega), mp_j (by omega), mp_eq]
        · rw [mp_j (by omega), mp_eq]
        · rw [mp_eq, hb]
    · omega
  · exact absurd c1 (by decide)
theorem cl_isTestC {T : List Tst} {x : Int32} (t : tC h T) (hl : T.length ≤ 8) : Cl G d M_X11_isTest [.ref 0, .int x] h (qI (nI (b01 (inR x T.length))) h) := by
  by_cases hx : inR x T.length
  · rw [b01_t hx]
    obtain ⟨j, hj, rfl⟩ := hx
    refine ev_start 0 (lv := [some (.ref 0), some (.int (nI j))]) rfl (by decide) (Nat.le_of_ble_eq_true rfl) ?_
    refine ev_iload_n dX11_isTest_0 rfl ?_
    refine ev_if_ltN 19 dX11_isTest_1 (by decide) (by omega) (fun c1 => ?_) (fun c1 => ?_)
    · exact c1.elim
    · refine ev_iload_n dX11_isTest_4 rfl ?_
      refine ev_aload_n dX11_isTest_5 rfl ?_
      refine ev_getR fl_X11_46 rfl rfl dX11_isTest_6 ?_
      refine ev_getIv (t.1) fl_X11_248 rfl rfl dX11_isTest_9 ?_
      refine ev_icmp_geN 19 dX11_isTest_12 (by decide) (by omega) (by omega) (fun c12 => ?_) (fun c12 => ?_)
      · omega
      · refine ev_iconst (nI 1) dX11_isTest_15 rfl ?_
        refine ev_goto 20 dX11_isTest_16 (by decide) ?_
        refine ev_zret dX11_isTest_20 rfl rfl ?_
        exact ⟨by with_reducible rfl, rfl⟩
  · rw [b01_f hx]
    refine ev_start 0 (lv := [some (.ref 0), some (.int x)]) rfl (by decide) (Nat.le_of_ble_eq_true rfl) ?_
    refine ev_iload_n dX11_isTest_0 rfl ?_
    refine ev_if_lt 19 dX11_isTest_1 (by decide) (fun c1 => ?_) (fun c1 => ?_)
    · refine ev_iconst (nI 0) dX11_isTest_19 rfl ?_
      refine ev_zret dX11_isTest_20 rfl rfl ?_
      exact ⟨by with_reducible rfl, rfl⟩
    · refine ev_iload_n dX11_isTest_4 rfl ?_
      refine ev_aload_n dX11_isTest_5 rfl ?_
      refine ev_getR fl_X11_46 rfl rfl dX11_isTest_6 ?_
      refine ev_getIv (t.1) fl_X11_248 rfl rfl dX11_isTest_9 ?_
      refine ev_icmp_ge 19 dX11_isTest_12 (by decide) (fun c12 => ?_) (fun c12 => ?_)
      · refine ev_iconst (nI 0) dX11_isTest_19 rfl ?_
        refine ev_zret dX11_isTest_20 rfl rfl ?_
        exact ⟨by with_reducible rfl, rfl⟩
      · exact absurd (inR_of (by omega) c1 c12) hx
theorem cl_testCountC {T : List Tst} (t : tC h T) : Cl G d M_X11_testCount [.ref 0] h (qI (nI T.length) h) := by
  refine ev_start 0 (lv := [some (.ref 0)]) rfl (by decide) (Nat.le_of_ble_eq_true rfl) ?_
  refine ev_aload_n dX11_testCount_0 rfl ?_
  refine ev_getR fl_X11_46 rfl rfl dX11_testCount_1 ?_
  refine ev_getIv (t.1) fl_X11_248 rfl rfl dX11_testCount_4 ?_
  refine ev_iret dX11_testCount_7 rfl ?_
  exact ⟨by with_reducible rfl, rfl⟩
theorem cl_testCountM {T : List Tst} (t : tR h T) : Cl G d M_X12_testCount [.ref 67] h (qI (nI T.length) h) := by
  refine ev_start 0 (lv := [some (.ref 67)]) rfl (by decide) (Nat.le_of_ble_eq_true rfl) ?_
  refine ev_aload_n dX12_testCount_0 rfl ?_
  refine ev_getIv (t.1) fl_X12_236 rfl rfl dX12_testCount_1 ?_
  refine ev_iret dX12_testCount_4 rfl ?_
  exact ⟨by with_reducible rfl, rfl⟩
end TESTS3
