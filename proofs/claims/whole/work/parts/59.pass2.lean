section PASS2
variable {G : MG} {h : MH}
theorem cl_isPassed {n N m : Nat} {T : List Tst} (ok : gOK n N) (hm : m < 4 ^ n) (tm : tM h n N) (tr : tR h T) (o : okT T) : ∀ (t : Nat), t < T.length → ∀ d, Cl G (d + t + 2) M_X12_isPassed [.ref 67, .int (nI t), .int (nI m)] h (qI (nI (b01 (PS n N m T t))) h) := by
  have hn := ok.2.1
  have h4 := four_n hn
  have l8 := o.1
  have v1 := ord_le ok (m := m)
  have v2 := so_le n N m
  have xl := ex_lt m
  intro t
  induction t using Nat.strongRecOn with
  | ind t ih =>
    intro ht d
    have k8 := o.2 t ht
    obtain ⟨e1, e2, e3⟩ := tr.2 t ht
    rw [b01_c (PS_iff o ht)]
    have rec' : ∀ u, u < t → Cl G (d + t + 1) M_X12_isPassed [.ref 67, .int (nI u), .int (nI m)] h (qI (nI (b01 (PS n N m T u))) h) := fun u hu => by
      have := ih u hu (by omega) (d + (t - 1 - u))
      rw [show d + (t - 1 - u) + u + 2 = d + t + 1 by omega] at this
      exact this
    generalize tg T t = x at *
    obtain ⟨k, a, b⟩ := x
    obtain ⟨x1, x2, x3, x4, x5, x6⟩ := k8
    simp only at x1 x2 x3 x4 x5 x6 e1 e2 e3
    rcases (show k = 0 ∨ k = 1 ∨ k = 2 ∨ k = 3 ∨ k = 4 ∨ k = 5 ∨ k = 6 ∨ k = 7 by omega) with rfl | rfl | rfl | rfl | rfl | rfl | rfl | rfl
    · simp only [if_neg (show ¬ 0 = 7 by decide)] at e3
      refine ev_start 2 (lv := [some (.ref 67), some (.int (nI t)), some (.int (nI m)), none, none]) rfl (by decide) (Nat.le_of_ble_eq_true rfl) ?_
      refine ev_aload_n dX12_isPassed_0 rfl ?_
      refine ev_getR fl_X12_47 rfl rfl dX12_isPassed_1 ?_
      refine ev_iconst (nI 3) dX12_isPassed_4 rfl ?_
      refine ev_iload_n dX12_isPassed_5 rfl ?_
      refine ev_imulN dX12_isPassed_6 ?_
      refine ev_iconst (nI 1) dX12_isPassed_7 rfl ?_
      refine ev_iaddN dX12_isPassed_8 ?_
      refine ev_ialdv (e2) rfl dX12_isPassed_9 (by omega) (by omega) ?_
      refine ev_ist3 dX12_isPassed_10 (by decide) rfl ?_
      refine ev_aload_n dX12_isPassed_11 rfl ?_
      refine ev_getR fl_X12_47 rfl rfl dX12_isPassed_12 ?_
      refine ev_iconst (nI 3) dX12_isPassed_15 rfl ?_
      refine ev_iload_n dX12_isPassed_16 rfl ?_
      refine ev_imulN dX12_isPassed_17 ?_
      refine ev_iconst (nI 2) dX12_isPassed_18 rfl ?_
      refine ev_iaddN dX12_isPassed_19 ?_
      refine ev_ialdv (e3) rfl dX12_isPassed_20 (by omega) (by omega) ?_
      refine ev_ist4 dX12_isPassed_21 (by decide) rfl ?_
      refine ev_aload_n dX12_isPassed_23 rfl ?_
      refine ev_getR fl_X12_47 rfl rfl dX12_isPassed_24 ?_
      refine ev_iconst (nI 3) dX12_isPassed_27 rfl ?_
      refine ev_iload_n dX12_isPassed_28 rfl ?_
      refine ev_imulN dX12_isPassed_29 ?_
      refine ev_ialdv (e1) rfl dX12_isPassed_30 (by omega) (by omega) ?_
      refine ev_tsIn 72 dX12_isPassed_31 (by decide) (by decide) rfl (by decide) ?_
      refine ev_iload_n dX12_isPassed_72 rfl ?_
      refine ev_callS (cl_degreeOfM (by omega)) ok_X12_degreeOf ml_X12_163 rfl rfl (Nat.le_of_ble_eq_true rfl) dX12_isPassed_73 (kI ?_)
      refine ev_iload_n dX12_isPassed_76 rfl ?_
      refine ev_icmp_neN 84 dX12_isPassed_77 (by decide) (by have := deg_le (m := m); omega) (by omega) (fun c77 => ?_) (fun c77 => ?_)
      · refine ev_iconst (nI 0) dX12_isPassed_84 rfl ?_
        refine ev_zret dX12_isPassed_85 rfl rfl ?_
        exact ⟨rv0 (show ¬ deg m = a from c77), rfl⟩
      · refine ev_iconst (nI 1) dX12_isPassed_80 rfl ?_
        refine ev_goto 85 dX12_isPassed_81 (by decide) ?_
        refine ev_zret dX12_isPassed_85 rfl rfl ?_
        exact ⟨rv1 (show deg m = a by omega), rfl⟩
    · simp only [if_neg (show ¬ 1 = 7 by decide)] at e3
      refine ev_start 2 (lv := [some (.ref 67), some (.int (nI t)), some (.int (nI m)), none, none]) rfl (by decide) (Nat.le_of_ble_eq_true rfl) ?_
      refine ev_aload_n dX12_isPassed_0 rfl ?_
      refine ev_getR fl_X12_47 rfl rfl dX12_isPassed_1 ?_
      refine ev_iconst (nI 3) dX12_isPassed_4 rfl ?_
      refine ev_iload_n dX12_isPassed_5 rfl ?_
      refine ev_imulN dX12_isPassed_6 ?_
      refine ev_iconst (nI 1) dX12_isPassed_7 rfl ?_
      refine ev_iaddN dX12_isPassed_8 ?_
      refine ev_ialdv (e2) rfl dX12_isPassed_9 (by omega) (by omega) ?_
      refine ev_ist3 dX12_isPassed_10 (by decide) rfl ?_
      refine ev_aload_n dX12_isPassed_11 rfl ?_
      refine ev_getR fl_X12_47 rfl rfl dX12_isPassed_12 ?_
      refine ev_iconst (nI 3) dX12_isPassed_15 rfl ?_
      refine ev_iload_n dX12_isPassed_16 rfl ?_
      refine ev_imulN dX12_isPassed_17 ?_
      refine ev_iconst (nI 2) dX12_isPassed_18 rfl ?_
      refine ev_iaddN dX12_isPassed_19 ?_
      refine ev_ialdv (e3) rfl dX12_isPassed_20 (by omega) (by omega) ?_
      refine ev_ist4 dX12_isPassed_21 (by decide) rfl ?_
      refine ev_aload_n dX12_isPassed_23 rfl ?_
      refine ev_getR fl_X12_47 rfl rfl dX12_isPassed_24 ?_
      refine ev_iconst (nI 3) dX12_isPassed_27 rfl ?_
      refine ev_iload_n dX12_isPassed_28 rfl ?_
      refine ev_imulN dX12_isPassed_29 ?_
      refine ev_ialdv (e1) rfl dX12_isPassed_30 (by omega) (by omega) ?_
      refine ev_tsIn 86 dX12_isPassed_31 (by decide) (by decide) rfl (by decide) ?_
      refine ev_iload_n dX12_isPassed_86 rfl ?_
      refine ev_iload_n dX12_isPassed_87 rfl ?_
      refine ev_callS (cl_exponentOfM (by omega) (by have := x4 rfl; omega)) ok_X12_exponentOf ml_X12_128 rfl rfl (Nat.le_of_ble_eq_true rfl) dX12_isPassed_88 (kI ?_)
      refine ev_iload dX12_isPassed_91 rfl ?_
      refine ev_icmp_ltN 100 dX12_isPassed_93 (by decide) (by have := xl a; omega) (by omega) (fun c93 => ?_) (fun c93 => ?_)
      · refine ev_iconst (nI 0) dX12_isPassed_100 rfl ?_
        refine ev_zret dX12_isPassed_101 rfl rfl ?_
        exact ⟨rv0 (show ¬ b ≤ ex m a by omega), rfl⟩
      · refine ev_iconst (nI 1) dX12_isPassed_96 rfl ?_
        refine ev_goto 101 dX12_isPassed_97 (by decide) ?_
        refine ev_zret dX12_isPassed_101 rfl rfl ?_
        exact ⟨rv1 (show b ≤ ex m a by omega), rfl⟩
    · simp only [if_neg (show ¬ 2 = 7 by decide)] at e3
      refine ev_start 2 (lv := [some (.ref 67), some (.int (nI t)), some (.int (nI m)), none, none]) rfl (by decide) (Nat.le_of_ble_eq_true rfl) ?_
      refine ev_aload_n dX12_isPassed_0 rfl ?_
      refine ev_getR fl_X12_47 rfl rfl dX12_isPassed_1 ?_
      refine ev_iconst (nI 3) dX12_isPassed_4 rfl ?_
      refine ev_iload_n dX12_isPassed_5 rfl ?_
      refine ev_imulN dX12_isPassed_6 ?_
      refine ev_iconst (nI 1) dX12_isPassed_7 rfl ?_
      refine ev_iaddN dX12_isPassed_8 ?_
      refine ev_ialdv (e2) rfl dX12_isPassed_9 (by omega) (by omega) ?_
      refine ev_ist3 dX12_isPassed_10 (by decide) rfl ?_
      refine ev_aload_n dX12_isPassed_11 rfl ?_
      refine ev_getR fl_X12_47 rfl rfl dX12_isPassed_12 ?_
      refine ev_iconst (nI 3) dX12_isPassed_15 rfl ?_
      refine ev_iload_n dX12_isPassed_16 rfl ?_
      refine ev_imulN dX12_isPassed_17 ?_
      refine ev_iconst (nI 2) dX12_isPassed_18 rfl ?_
      refine ev_iaddN dX12_isPassed_19 ?_
      refine ev_ialdv (e3) rfl dX12_isPassed_20 (by omega) (by omega) ?_
      refine ev_ist4 dX12_isPassed_21 (by decide) rfl ?_
      refine ev_aload_n dX12_isPassed_23 rfl ?_
      refine ev_getR fl_X12_47 rfl rfl dX12_isPassed_24 ?_
      refine ev_iconst (nI 3) dX12_isPassed_27 rfl ?_
      refine ev_iload_n dX12_isPassed_28 rfl ?_
      refine ev_imulN dX12_isPassed_29 ?_
      refine ev_ialdv (e1) rfl dX12_isPassed_30 (by omega) (by omega) ?_
      refine ev_tsIn 102 dX12_isPassed_31 (by decide) (by decide) rfl (by decide) ?_
      refine ev_iload_n dX12_isPassed_102 rfl ?_
      refine ev_sipush (nI 10922) dX12_isPassed_103 rfl ?_
      refine ev_iandN dX12_isPassed_106 ?_
      refine ev_if_neN 114 dX12_isPassed_107 (by decide) (by have : m &&& 10922 ≤ 10922 := Nat.and_le_right; omega) (fun c107 => ?_) (fun c107 => ?_)
      · refine ev_iconst (nI 0) dX12_isPassed_114 rfl ?_
        refine ev_zret dX12_isPassed_115 rfl rfl ?_
        exact ⟨rv0 (show ¬ m &&& 10922 = 0 from c107), rfl⟩
      · refine ev_iconst (nI 1) dX12_isPassed_110 rfl ?_
        refine ev_goto 115 dX12_isPassed_111 (by decide) ?_
        refine ev_zret dX12_isPassed_115 rfl rfl ?_
        exact ⟨rv1 (show m &&& 10922 = 0 by omega), rfl⟩
    · simp only [if_neg (show ¬ 3 = 7 by decide)] at e3
      refine ev_start 2 (lv := [some (.ref 67), some (.int (nI t)), some (.int (nI m)), none, none]) rfl (by decide) (Nat.le_of_ble_eq_true rfl) ?_
      refine ev_aload_n dX12_isPassed_0 rfl ?_
      refine ev_getR fl_X12_47 rfl rfl dX12_isPassed_1 ?_
      refine ev_iconst (nI 3) dX12_isPassed_4 rfl ?_
      refine ev_iload_n dX12_isPassed_5 rfl ?_
      refine ev_imulN dX12_isPassed_6 ?_
      refine ev_iconst (nI 1) dX12_isPassed_7 rfl ?_
      refine ev_iaddN dX12_isPassed_8 ?_
      refine ev_ialdv (e2) rfl dX12_isPassed_9 (by omega) (by omega) ?_
      refine ev_ist3 dX12_isPassed_10 (by decide) rfl ?_
      refine ev_aload_n dX12_isPassed_11 rfl ?_
      refine ev_getR fl_X12_47 rfl rfl dX12_isPassed_12 ?_
      refine ev_iconst (nI 3) dX12_isPassed_15 rfl ?_
      refine ev_iload_n dX12_isPassed_16 rfl ?_
      refine ev_imulN dX12_isPassed_17 ?_
      refine ev_iconst (nI 2) dX12_isPassed_18 rfl ?_
      refine ev_iaddN dX12_isPassed_19 ?_
      refine ev_ialdv (e3) rfl dX12_isPassed_20 (by omega) (by omega) ?_
      refine ev_ist4 dX12_isPassed_21 (by decide) rfl ?_
      refine ev_aload_n dX12_isPassed_23 rfl ?_
      refine ev_getR fl_X12_47 rfl rfl dX12_isPassed_24 ?_
      refine ev_iconst (nI 3) dX12_isPassed_27 rfl ?_
      refine ev_iload_n dX12_isPassed_28 rfl ?_
      refine ev_imulN dX12_isPassed_29 ?_
      refine ev_ialdv (e1) rfl dX12_isPassed_30 (by omega) (by omega) ?_
      refine ev_tsIn 116 dX12_isPassed_31 (by decide) (by decide) rfl (by decide) ?_
      refine ev_aload_n dX12_isPassed_116 rfl ?_
      refine ev_getR fl_X12_32 rfl rfl dX12_isPassed_117 ?_
      refine ev_iload_n dX12_isPassed_120 rfl ?_
      refine ev_ialdv (tm.2.2.1 m hm) rfl dX12_isPassed_121 (by omega) (by omega) ?_
      refine ev_iload_n dX12_isPassed_122 rfl ?_
      refine ev_icmp_ltN 130 dX12_isPassed_123 (by decide) (by omega) (by omega) (fun c123 => ?_) (fun c123 => ?_)
      · refine ev_iconst (nI 0) dX12_isPassed_130 rfl ?_
        refine ev_zret dX12_isPassed_131 rfl rfl ?_
        exact ⟨rv0 (show ¬ a ≤ ord n N m by omega), rfl⟩
      · refine ev_iconst (nI 1) dX12_isPassed_126 rfl ?_
        refine ev_goto 131 dX12_isPassed_127 (by decide) ?_
        refine ev_zret dX12_isPassed_131 rfl rfl ?_
        exact ⟨rv1 (show a ≤ ord n N m by omega), rfl⟩
    · simp only [if_neg (show ¬ 4 = 7 by decide)] at e3
      refine ev_start 2 (lv := [some (.ref 67), some (.int (nI t)), some (.int (nI m)), none, none]) rfl (by decide) (Nat.le_of_ble_eq_true rfl) ?_
      refine ev_aload_n dX12_isPassed_0 rfl ?_
      refine ev_getR fl_X12_47 rfl rfl dX12_isPassed_1 ?_
      refine ev_iconst (nI 3) dX12_isPassed_4 rfl ?_
      refine ev_iload_n dX12_isPassed_5 rfl ?_
      refine ev_imulN dX12_isPassed_6 ?_
      refine ev_iconst (nI 1) dX12_isPassed_7 rfl ?_
      refine ev_iaddN dX12_isPassed_8 ?_
      refine ev_ialdv (e2) rfl dX12_isPassed_9 (by omega) (by omega) ?_
      refine ev_ist3 dX12_isPassed_10 (by decide) rfl ?_
      refine ev_aload_n dX12_isPassed_11 rfl ?_
      refine ev_getR fl_X12_47 rfl rfl dX12_isPassed_12 ?_
      refine ev_iconst (nI 3) dX12_isPassed_15 rfl ?_
      refine ev_iload_n dX12_isPassed_16 rfl ?_
      refine ev_imulN dX12_isPassed_17 ?_
      refine ev_iconst (nI 2) dX12_isPassed_18 rfl ?_
      refine ev_iaddN dX12_isPassed_19 ?_
      refine ev_ialdv (e3) rfl dX12_isPassed_20 (by omega) (by omega) ?_
      refine ev_ist4 dX12_isPassed_21 (by decide) rfl ?_
      refine ev_aload_n dX12_isPassed_23 rfl ?_
      refine ev_getR fl_X12_47 rfl rfl dX12_isPassed_24 ?_
      refine ev_iconst (nI 3) dX12_isPassed_27 rfl ?_
      refine ev_iload_n dX12_isPassed_28 rfl ?_
      refine ev_imulN dX12_isPassed_29 ?_
      refine ev_ialdv (e1) rfl dX12_isPassed_30 (by omega) (by omega) ?_
      refine ev_tsIn 132 dX12_isPassed_31 (by decide) (by decide) rfl (by decide) ?_
      refine ev_aload_n dX12_isPassed_132 rfl ?_
      refine ev_getR fl_X12_35 rfl rfl dX12_isPassed_133 ?_
      refine ev_iload_n dX12_isPassed_136 rfl ?_
      refine ev_ialdv (tm.2.2.2 m hm) rfl dX12_isPassed_137 (by omega) (by omega) ?_
      refine ev_iload_n dX12_isPassed_138 rfl ?_
      refine ev_icmp_ltN 146 dX12_isPassed_139 (by decide) (by omega) (by omega) (fun c139 => ?_) (fun c139 => ?_)
      · refine ev_iconst (nI 0) dX12_isPassed_146 rfl ?_
        refine ev_zret dX12_isPassed_147 rfl rfl ?_
        exact ⟨rv0 (show ¬ a ≤ so n N m by omega), rfl⟩
      · refine ev_iconst (nI 1) dX12_isPassed_142 rfl ?_
        refine ev_goto 147 dX12_isPassed_143 (by decide) ?_
        refine ev_zret dX12_isPassed_147 rfl rfl ?_
        exact ⟨rv1 (show a ≤ so n N m by omega), rfl⟩
    · simp only [if_neg (show ¬ 5 = 7 by decide)] at e3
      refine ev_start 2 (lv := [some (.ref 67), some (.int (nI t)), some (.int (nI m)), none, none]) rfl (by decide) (Nat.le_of_ble_eq_true rfl) ?_
      refine ev_aload_n dX12_isPassed_0 rfl ?_
      refine ev_getR fl_X12_47 rfl rfl dX12_isPassed_1 ?_
      refine ev_iconst (nI 3) dX12_isPassed_4 rfl ?_
      refine ev_iload_n dX12_isPassed_5 rfl ?_
      refine ev_imulN dX12_isPassed_6 ?_
      refine ev_iconst (nI 1) dX12_isPassed_7 rfl ?_
      refine ev_iaddN dX12_isPassed_8 ?_
      refine ev_ialdv (e2) rfl dX12_isPassed_9 (by omega) (by omega) ?_
      refine ev_ist3 dX12_isPassed_10 (by decide) rfl ?_
      refine ev_aload_n dX12_isPassed_11 rfl ?_
      refine ev_getR fl_X12_47 rfl rfl dX12_isPassed_12 ?_
      refine ev_iconst (nI 3) dX12_isPassed_15 rfl ?_
      refine ev_iload_n dX12_isPassed_16 rfl ?_
      refine ev_imulN dX12_isPassed_17 ?_
      refine ev_iconst (nI 2) dX12_isPassed_18 rfl ?_
      refine ev_iaddN dX12_isPassed_19 ?_
      refine ev_ialdv (e3) rfl dX12_isPassed_20 (by omega) (by omega) ?_
      refine ev_ist4 dX12_isPassed_21 (by decide) rfl ?_
      refine ev_aload_n dX12_isPassed_23 rfl ?_
      refine ev_getR fl_X12_47 rfl rfl dX12_isPassed_24 ?_
      refine ev_iconst (nI 3) dX12_isPassed_27 rfl ?_
      refine ev_iload_n dX12_isPassed_28 rfl ?_
      refine ev_imulN dX12_isPassed_29 ?_
      refine ev_ialdv (e1) rfl dX12_isPassed_30 (by omega) (by omega) ?_
      refine ev_tsIn 148 dX12_isPassed_31 (by decide) (by decide) rfl (by decide) ?_
      refine ev_aload_n dX12_isPassed_148 rfl ?_
      refine ev_iload_n dX12_isPassed_149 rfl ?_
      refine ev_iload_n dX12_isPassed_150 rfl ?_
      refine ev_callV (rec' a (x5 (by decide)).1) ok_X12_isPassed ml_X12_248 rfl rfl rfl rfl (Nat.le_of_ble_eq_true rfl) dX12_isPassed_151 (kI ?_)
      refine ev_if_eqN 171 dX12_isPassed_154 (by decide) (by have := b01_lt (PS n N m T a); omega) (fun c154 => ?_) (fun c154 => ?_)
      · refine ev_iconst (nI 0) dX12_isPassed_171 rfl ?_
        refine ev_zret dX12_isPassed_172 rfl rfl ?_
        exact ⟨rv0 (show ¬ (PS n N m T a ∧ PS n N m T b) from fun z => b01_0.mp c154 z.1), rfl⟩
      · refine ev_aload_n dX12_isPassed_157 rfl ?_
        refine ev_iload dX12_isPassed_158 rfl ?_
        refine ev_iload_n dX12_isPassed_160 rfl ?_
        refine ev_callV (rec' b (x5 (by decide)).2) ok_X12_isPassed ml_X12_248 rfl rfl rfl rfl (Nat.le_of_ble_eq_true rfl) dX12_isPassed_161 (kI ?_)
        refine ev_if_eqN 171 dX12_isPassed_164 (by decide) (by have := b01_lt (PS n N m T b); omega) (fun c164 => ?_) (fun c164 => ?_)
        · refine ev_iconst (nI 0) dX12_isPassed_171 rfl ?_
          refine ev_zret dX12_isPassed_172 rfl rfl ?_
          exact ⟨rv0 (show ¬ (PS n N m T a ∧ PS n N m T b) from fun z => b01_0.mp c164 z.2), rfl⟩
        · refine ev_iconst (nI 1) dX12_isPassed_167 rfl ?_
          refine ev_goto 172 dX12_isPassed_168 (by decide) ?_
          refine ev_zret dX12_isPassed_172 rfl rfl ?_
          exact ⟨rv1 (show PS n N m T a ∧ PS n N m T b from ⟨Classical.byContradiction fun z => c154 (b01_f z), Classical.byContradiction fun z => c164 (b01_f z)⟩), rfl⟩
    · simp only [if_neg (show ¬ 6 = 7 by decide)] at e3
      refine ev_start 2 (lv := [some (.ref 67), some (.int (nI t)), some (.int (nI m)), none, none]) rfl (by decide) (Nat.le_of_ble_eq_true rfl) ?_
      refine ev_aload_n dX12_isPassed_0 rfl ?_
      refine ev_getR fl_X12_47 rfl rfl dX12_isPassed_1 ?_
      refine ev_iconst (nI 3) dX12_isPassed_4 rfl ?_
      refine ev_iload_n dX12_isPassed_5 rfl ?_
      refine ev_imulN dX12_isPassed_6 ?_
      refine ev_iconst (nI 1) dX12_isPassed_7 rfl ?_
      refine ev_iaddN dX12_isPassed_8 ?_
      refine ev_ialdv (e2) rfl dX12_isPassed_9 (by omega) (by omega) ?_
      refine ev_ist3 dX12_isPassed_10 (by decide) rfl ?_
      refine ev_aload_n dX12_isPassed_11 rfl ?_
      refine ev_getR fl_X12_47 rfl rfl dX12_isPassed_12 ?_
      refine ev_iconst (nI 3) dX12_isPassed_15 rfl ?_
      refine ev_iload_n dX12_isPassed_16 rfl ?_
      refine ev_imulN dX12_isPassed_17 ?_
      refine ev_iconst (nI 2) dX12_isPassed_18 rfl ?_
      refine ev_iaddN dX12_isPassed_19 ?_
      refine ev_ialdv (e3) rfl dX12_isPassed_20 (by omega) (by omega) ?_
      refine ev_ist4 dX12_isPassed_21 (by decide) rfl ?_
      refine ev_aload_n dX12_isPassed_23 rfl ?_
      refine ev_getR fl_X12_47 rfl rfl dX12_isPassed_24 ?_
      refine ev_iconst (nI 3) dX12_isPassed_27 rfl ?_
      refine ev_iload_n dX12_isPassed_28 rfl ?_
      refine ev_imulN dX12_isPassed_29 ?_
      refine ev_ialdv (e1) rfl dX12_isPassed_30 (by omega) (by omega) ?_
      refine ev_tsIn 173 dX12_isPassed_31 (by decide) (by decide) rfl (by decide) ?_
      refine ev_aload_n dX12_isPassed_173 rfl ?_
      refine ev_iload_n dX12_isPassed_174 rfl ?_
      refine ev_iload_n dX12_isPassed_175 rfl ?_
      refine ev_callV (rec' a (x5 (by decide)).1) ok_X12_isPassed ml_X12_248 rfl rfl rfl rfl (Nat.le_of_ble_eq_true rfl) dX12_isPassed_176 (kI ?_)
      refine ev_if_neN 192 dX12_isPassed_179 (by decide) (by have := b01_lt (PS n N m T a); omega) (fun c179 => ?_) (fun c179 => ?_)
      · refine ev_iconst (nI 1) dX12_isPassed_192 rfl ?_
        refine ev_goto 197 dX12_isPassed_193 (by decide) ?_
        refine ev_zret dX12_isPassed_197 rfl rfl ?_
        exact ⟨rv1 (show PS n N m T a ∨ PS n N m T b from Or.inl (Classical.byContradiction fun z => c179 (b01_f z))), rfl⟩
      · refine ev_aload_n dX12_isPassed_182 rfl ?_
        refine ev_iload dX12_isPassed_183 rfl ?_
        refine ev_iload_n dX12_isPassed_185 rfl ?_
        refine ev_callV (rec' b (x5 (by decide)).2) ok_X12_isPassed ml_X12_248 rfl rfl rfl rfl (Nat.le_of_ble_eq_true rfl) dX12_isPassed_186 (kI ?_)
        refine ev_if_eqN 196 dX12_isPassed_189 (by decide) (by have := b01_lt (PS n N m T b); omega) (fun c189 => ?_) (fun c189 => ?_)
        · refine ev_iconst (nI 0) dX12_isPassed_196 rfl ?_
          refine ev_zret dX12_isPassed_197 rfl rfl ?_
          exact ⟨rv0 (show ¬ (PS n N m T a ∨ PS n N m T b) from fun z => z.elim (b01_0.mp (by omega)) (b01_0.mp c189)), rfl⟩
        · refine ev_iconst (nI 1) dX12_isPassed_192 rfl ?_
          refine ev_goto 197 dX12_isPassed_193 (by decide) ?_
          refine ev_zret dX12_isPassed_197 rfl rfl ?_
          exact ⟨rv1 (show PS n N m T a ∨ PS n N m T b from Or.inr (Classical.byContradiction fun z => c189 (b01_f z))), rfl⟩
    · rw [if_pos rfl] at e3
      refine ev_start 2 (lv := [some (.ref 67), some (.int (nI t)), some (.int (nI m)), none, none]) rfl (by decide) (Nat.le_of_ble_eq_true rfl) ?_
      refine ev_aload_n dX12_isPassed_0 rfl ?_
      refine ev_getR fl_X12_47 rfl rfl dX12_isPassed_1 ?_
      refine ev_iconst (nI 3) dX12_isPassed_4 rfl ?_
      refine ev_iload_n dX12_isPassed_5 rfl ?_
      refine ev_imulN dX12_isPassed_6 ?_
      refine ev_iconst (nI 1) dX12_isPassed_7 rfl ?_
      refine ev_iaddN dX12_isPassed_8 ?_
      refine ev_ialdv (e2) rfl dX12_isPassed_9 (by omega) (by omega) ?_
      refine ev_ist3 dX12_isPassed_10 (by decide) rfl ?_
      refine ev_aload_n dX12_isPassed_11 rfl ?_
      refine ev_getR fl_X12_47 rfl rfl dX12_isPassed_12 ?_
      refine ev_iconst (nI 3) dX12_isPassed_15 rfl ?_
      refine ev_iload_n dX12_isPassed_16 rfl ?_
      refine ev_imulN dX12_isPassed_17 ?_
      refine ev_iconst (nI 2) dX12_isPassed_18 rfl ?_
      refine ev_iaddN dX12_isPassed_19 ?_
      refine ev_ialdv (e3) rfl dX12_isPassed_20 (by omega) (by omega) ?_
      refine ev_ist4 dX12_isPassed_21 (by decide) rfl ?_
      refine ev_aload_n dX12_isPassed_23 rfl ?_
      refine ev_getR fl_X12_47 rfl rfl dX12_isPassed_24 ?_
      refine ev_iconst (nI 3) dX12_isPassed_27 rfl ?_
      refine ev_iload_n dX12_isPassed_28 rfl ?_
      refine ev_imulN dX12_isPassed_29 ?_
      refine ev_ialdv (e1) rfl dX12_isPassed_30 (by omega) (by omega) ?_
      refine ev_tsOut 198 dX12_isPassed_31 (by decide) (by decide) ?_
      refine ev_aload_n dX12_isPassed_198 rfl ?_
      refine ev_iload_n dX12_isPassed_199 rfl ?_
      refine ev_iload_n dX12_isPassed_200 rfl ?_
      refine ev_callV (rec' a (x5 (by decide)).1) ok_X12_isPassed ml_X12_248 rfl rfl rfl rfl (Nat.le_of_ble_eq_true rfl) dX12_isPassed_201 (kI ?_)
      refine ev_if_neN 211 dX12_isPassed_204 (by decide) (by have := b01_lt (PS n N m T a); omega) (fun c204 => ?_) (fun c204 => ?_)
      · refine ev_iconst (nI 0) dX12_isPassed_211 rfl ?_
        refine ev_zret dX12_isPassed_212 rfl rfl ?_
        exact ⟨rv0 (show ¬ ¬ PS n N m T a from fun z => c204 (b01_f z)), rfl⟩
      · refine ev_iconst (nI 1) dX12_isPassed_207 rfl ?_
        refine ev_goto 212 dX12_isPassed_208 (by decide) ?_
        refine ev_zret dX12_isPassed_212 rfl rfl ?_
        exact ⟨rv1 (show ¬ PS n N m T a from b01_0.mp (by omega)), rfl⟩
variable {d : Nat}
theorem cl_isP {n N m t : Nat} {T : List Tst} (ok : gOK n N) (hm : m < 4 ^ n) (tm : tM h n N) (tr : tR h T) (o : okT T) (ht : t < T.length) : Cl G (d + 9) M_X12_isPassed [.ref 67, .int (nI t), .int (nI m)] h (qI (nI (b01 (PS n N m T t))) h) := by
  have l8 := o.1
  have := cl_isPassed (G := G) ok hm tm tr o t ht (d + (7 - t))
  rw [show d + (7 - t) + t + 2 = d + 9 by omega] at this
  exact this
theorem tR_ms {h' : MH} {T : List Tst} (t : tR h T) (q : ms h h') : tR h' T := by
  unfold tR
  rw [q.2 16 (by simp [scrF]), (q.1 77 (by decide) (by simp [scrP])).1]
  exact t
noncomputable def aPs (n N : Nat) (T : List Tst) (x y : Int32) : Int32 := aIn x T.length (fun t => aIn y (4 ^ n) (fun m => nI (b01 (PS n N m T t))))
noncomputable def cnP (n N : Nat) (T : List Tst) (t : Nat) : Nat → Nat
  | 0 => 0
  | m + 1 => cnP n N T t m + b01 (PS n N m T t)
theorem cnP_le {n N t : Nat} {T : List Tst} (m : Nat) : cnP n N T t m ≤ m := by
  induction m with
  | zero => exact Nat.le_refl _
  | succ m ih => have := b01_lt (PS n N m T t); rw [cnP]; omega
theorem b01_le (P : Prop) : b01 P ≤ 1 := by have := b01_lt P; omega
theorem cl_passesC {n N : Nat} {T : List Tst} {x y : Int32} (g : gC h n N) (ok : gOK n N) (c : cI h n N) (tc : tC h T) (o : okT T) : Cl G (d + 6) M_X11_passes [.ref 0, .int x, .int y] h (fun rv h' => rv = some (.int (aPs n N T x y)) ∧ iq n N h h' ∧ cI h' n N) := by
  have hn := ok.2.1
  have h4 := four_n hn
  have h41 := four_pos n
  have l8 := o.1
  unfold aPs
  by_cases hx : inR x T.length
  · have q1 := b01_t hx
    obtain ⟨t, ht, rfl⟩ := hx
    rw [aIn_t ht (by omega)]
    by_cases hy : inR y (4 ^ n)
    · have q2 := b01_t hy
      obtain ⟨m, hm, rfl⟩ := hy
      rw [aIn_t hm (by omega)]
      refine ev_start 0 (lv := [some (.ref 0), some (.int (nI t)), some (.int (nI m))]) rfl (by decide) (Nat.le_of_ble_eq_true rfl) ?_
      refine ev_aload_n dX11_passes_0 rfl ?_
      refine ev_iload_n dX11_passes_1 rfl ?_
      refine ev_callV (cl_isTestC tc l8) ok_X11_isTest ml_X11_245 rfl rfl rfl rfl (Nat.le_of_ble_eq_true rfl) dX11_passes_2 (kI ?_)
      refine ev_if_eqN 16 dX11_passes_5 (by decide) (by omega) (fun c5 => ?_) (fun c5 => ?_)
      · omega
      · refine ev_aload_n dX11_passes_8 rfl ?_
        refine ev_iload_n dX11_passes_9 rfl ?_
        refine ev_callV (cl_isCodeC g hn) ok_X11_isCode ml_X11_168 rfl rfl rfl rfl (Nat.le_of_ble_eq_true rfl) dX11_passes_10 (kI ?_)
        refine ev_if_neN 18 dX11_passes_13 (by decide) (by omega) (fun c13 => ?_) (fun c13 => ?_)
        · refine ev_aload_n dX11_passes_18 rfl ?_
          refine ev_getR fl_X11_46 rfl rfl dX11_passes_19 ?_
          refine ev_iload_n dX11_passes_22 rfl ?_
          refine ev_iload_n dX11_passes_23 rfl ?_
          refine ev_aload_n dX11_passes_24 rfl ?_
          refine ev_getR fl_X11_23 rfl rfl dX11_passes_25 ?_
          refine ev_callV (cl_accepts g ok c hm tc o ht) ok_X10_accepts ml_X11_249 rfl rfl rfl rfl (Nat.le_of_ble_eq_true rfl) dX11_passes_28 ?_
          rintro rv h2 ⟨rfl, i2, c2⟩
          refine ev_if_eqN 38 dX11_passes_31 (by decide) (by have := b01_lt (PS n N m T t); omega) (fun c31 => ?_) (fun c31 => ?_)
          · refine ev_iconst (nI 0) dX11_passes_38 rfl ?_
            refine ev_iret dX11_passes_39 rfl ?_
            exact ⟨rv0 (b01_0.mp c31), i2, c2⟩
          · refine ev_iconst (nI 1) dX11_passes_34 rfl ?_
            refine ev_goto 39 dX11_passes_35 (by decide) ?_
            refine ev_iret dX11_passes_39 rfl ?_
            exact ⟨rv1 (Classical.byContradiction fun z => c31 (b01_f z)), i2, c2⟩
        · omega
    · have q2 := b01_f hy
      rw [aIn_f hy]
      refine ev_start 0 (lv := [some (.ref 0), some (.int (nI t)), some (.int y)]) rfl (by decide) (Nat.le_of_ble_eq_true rfl) ?_
      refine ev_aload_n dX11_passes_0 rfl ?_
      refine ev_iload_n dX11_passes_1 rfl ?_
      refine ev_callV (cl_isTestC tc l8) ok_X11_isTest ml_X11_245 rfl rfl rfl rfl (Nat.le_of_ble_eq_true rfl) dX11_passes_2 (kI ?_)
      refine ev_if_eqN 16 dX11_passes_5 (by decide) (by omega) (fun c5 => ?_) (fun c5 => ?_)
      · omega
      · refine ev_aload_n dX11_passes_8 rfl ?_
        refine ev_iload_n dX11_passes_9 rfl ?_
        refine ev_callV (cl_isCodeC g hn) ok_X11_isCode ml_X11_168 rfl rfl rfl rfl (Nat.le_of_ble_eq_true rfl) dX11_passes_10 (kI ?_)
        refine ev_if_neN 18 dX11_passes_13 (by decide) (by omega) (fun c13 => ?_) (fun c13 => ?_)
        · omega
        · refine ev_iconst (-1) dX11_passes_16 rfl ?_
          refine ev_iret dX11_passes_17 rfl ?_
          exact ⟨rfl, iq.rf, c⟩
  · have q1 := b01_f hx
    rw [aIn_f hx]
    refine ev_start 0 (lv := [some (.ref 0), some (.int x), some (.int y)]) rfl (by decide) (Nat.le_of_ble_eq_true rfl) ?_
    refine ev_aload_n dX11_passes_0 rfl ?_
    refine ev_iload_n dX11_passes_1 rfl ?_
    refine ev_callV (cl_isTestC tc l8) ok_X11_isTest ml_X11_245 rfl rfl rfl rfl (Nat.le_of_ble_eq_true rfl) dX11_passes_2 (kI ?_)
    refine ev_if_eqN 16 dX11_passes_5 (by decide) (by omega) (fun c5 => ?_) (fun c5 => ?_)
    · refine ev_iconst (-1) dX11_passes_16 rfl ?_
      refine ev_iret dX11_passes_17 rfl ?_
      exact ⟨rfl, iq.rf, c⟩
    · omega
theorem cl_passesM {n N : Nat} {T : List Tst} {x y : Int32} (g : gM h n N) (ok : gOK n N) (c : cacheM h n N) (tr : tR h T) (o : okT T) : Cl G (d + 10) M_X12_passes [.ref 67, .int x, .int y] h (fun rv h' => rv = some (.int (aPs n N T x y)) ∧ ms h h' ∧ cacheM h' n N) := by
  have hn := ok.2.1
  have h4 := four_n hn
  have h41 := four_pos n
  have l8 := o.1
  unfold aPs
  by_cases hx : inR x T.length
  · have q1 := b01_t hx
    obtain ⟨t, ht, rfl⟩ := hx
    rw [aIn_t ht (by omega)]
    by_cases hy : inR y (4 ^ n)
    · have q2 := b01_t hy
      obtain ⟨m, hm, rfl⟩ := hy
      rw [aIn_t hm (by omega)]
      refine ev_start 0 (lv := [some (.ref 67), some (.int (nI t)), some (.int (nI m))]) rfl (by decide) (Nat.le_of_ble_eq_true rfl) ?_
      refine ev_aload_n dX12_passes_0 rfl ?_
      refine ev_callV (cl_update g ok c) ok_X12_update ml_X12_144 rfl rfl rfl rfl (Nat.le_of_ble_eq_true rfl) dX12_passes_1 ?_
      rintro rv h1 ⟨rfl, m1, t1⟩
      have tr1 := tR_ms tr (ms_mq m1)
      have g1 := gM_mq g m1
      refine ev_aload_n dX12_passes_4 rfl ?_
      refine ev_iload_n dX12_passes_5 rfl ?_
      refine ev_callV (cl_isTestM tr1 l8) ok_X12_isTest ml_X12_245 rfl rfl rfl rfl (Nat.le_of_ble_eq_true rfl) dX12_passes_6 (kI ?_)
      refine ev_if_eqN 37 dX12_passes_9 (by decide) (by omega) (fun c9 => ?_) (fun c9 => ?_)
      · omega
      · refine ev_aload_n dX12_passes_12 rfl ?_
        refine ev_iload_n dX12_passes_13 rfl ?_
        refine ev_callV (cl_isCodeM g1 hn) ok_X12_isCode ml_X12_160 rfl rfl rfl rfl (Nat.le_of_ble_eq_true rfl) dX12_passes_14 (kI ?_)
        refine ev_if_eqN 37 dX12_passes_17 (by decide) (by omega) (fun c17 => ?_) (fun c17 => ?_)
        · omega
        · refine ev_aload_n dX12_passes_20 rfl ?_
          refine ev_iload_n dX12_passes_21 rfl ?_
          refine ev_iload_n dX12_passes_22 rfl ?_
          refine ev_callV (cl_isP ok hm t1 tr1 o ht) ok_X12_isPassed ml_X12_248 rfl rfl rfl rfl (Nat.le_of_ble_eq_true rfl) dX12_passes_23 (kI ?_)
          refine ev_if_eqN 33 dX12_passes_26 (by decide) (by have := b01_lt (PS n N m T t); omega) (fun c26 => ?_) (fun c26 => ?_)
          · refine ev_iconst (nI 0) dX12_passes_33 rfl ?_
            refine ev_goto 38 dX12_passes_34 (by decide) ?_
            refine ev_iret dX12_passes_38 rfl ?_
            exact ⟨rv0 (b01_0.mp c26), ms_mq m1, Or.inr t1⟩
          · refine ev_iconst (nI 1) dX12_passes_29 rfl ?_
            refine ev_goto 38 dX12_passes_30 (by decide) ?_
            refine ev_iret dX12_passes_38 rfl ?_
            exact ⟨rv1 (Classical.byContradiction fun z => c26 (b01_f z)), ms_mq m1, Or.inr t1⟩
    · have q2 := b01_f hy
      rw [aIn_f hy]
      refine ev_start 0 (lv := [some (.ref 67), some (.int (nI t)), some (.int y)]) rfl (by decide) (Nat.le_of_ble_eq_true rfl) ?_
      refine ev_aload_n dX12_passes_0 rfl ?_
      refine ev_callV (cl_update g ok c) ok_X12_update ml_X12_144 rfl rfl rfl rfl (Nat.le_of_ble_eq_true rfl) dX12_passes_1 ?_
      rintro rv h1 ⟨rfl, m1, t1⟩
      have tr1 := tR_ms tr (ms_mq m1)
      have g1 := gM_mq g m1
      refine ev_aload_n dX12_passes_4 rfl ?_
      refine ev_iload_n dX12_passes_5 rfl ?_
      refine ev_callV (cl_isTestM tr1 l8) ok_X12_isTest ml_X12_245 rfl rfl rfl rfl (Nat.le_of_ble_eq_true rfl) dX12_passes_6 (kI ?_)
      refine ev_if_eqN 37 dX12_passes_9 (by decide) (by omega) (fun c9 => ?_) (fun c9 => ?_)
      · omega
      · refine ev_aload_n dX12_passes_12 rfl ?_
        refine ev_iload_n dX12_passes_13 rfl ?_
        refine ev_callV (cl_isCodeM g1 hn) ok_X12_isCode ml_X12_160 rfl rfl rfl rfl (Nat.le_of_ble_eq_true rfl) dX12_passes_14 (kI ?_)
        refine ev_if_eqN 37 dX12_passes_17 (by decide) (by omega) (fun c17 => ?_) (fun c17 => ?_)
        · refine ev_iconst (-1) dX12_passes_37 rfl ?_
          refine ev_iret dX12_passes_38 rfl ?_
          exact ⟨rfl, ms_mq m1, Or.inr t1⟩
        · omega
  · have q1 := b01_f hx
    rw [aIn_f hx]
    refine ev_start 0 (lv := [some (.ref 67), some (.int x), some (.int y)]) rfl (by decide) (Nat.le_of_ble_eq_true rfl) ?_
    refine ev_aload_n dX12_passes_0 rfl ?_
    refine ev_callV (cl_update g ok c) ok_X12_update ml_X12_144 rfl rfl rfl rfl (Nat.le_of_ble_eq_true rfl) dX12_passes_1 ?_
    rintro rv h1 ⟨rfl, m1, t1⟩
    have tr1 := tR_ms tr (ms_mq m1)
    refine ev_aload_n dX12_passes_4 rfl ?_
    refine ev_iload_n dX12_passes_5 rfl ?_
    refine ev_callV (cl_isTestM tr1 l8) ok_X12_isTest ml_X12_245 rfl rfl rfl rfl (Nat.le_of_ble_eq_true rfl) dX12_passes_6 (kI ?_)
    refine ev_if_eqN 37 dX12_passes_9 (by decide) (by omega) (fun c9 => ?_) (fun c9 => ?_)
    · refine ev_iconst (-1) dX12_passes_37 rfl ?_
      refine ev_iret dX12_passes_38 rfl ?_
      exact ⟨rfl, ms_mq m1, Or.inr t1⟩
    · omega
theorem cl_passCountC {n N : Nat} {T : List Tst} {x : Int32} (g : gC h n N) (ok : gOK n N) (c : cI h n N) (tc : tC h T) (o : okT T) : Cl G (d + 6) M_X11_passCount [.ref 0, .int x] h (fun rv h' => rv = some (.int (aIn x T.length (fun t => nI (cnP n N T t (4 ^ n))))) ∧ iq n N h h' ∧ cI h' n N) := by
  have hn := ok.2.1
  have h4 := four_n hn
  have h41 := four_pos n
  have l8 := o.1
  by_cases hx : inR x T.length
  · have q1 := b01_t hx
    obtain ⟨t, ht, rfl⟩ := hx
    rw [aIn_t ht (by omega)]
    have loop : ∀ (j v : Nat) (h1 : MH), v + j = 4 ^ n → iq n N h h1 → cI h1 n N → Ev G (d + 6) M_X11_passCount 23 [some (.ref 0), some (.int (nI t)), some (.int (nI (cnP n N T t v))), some (.int (nI (4 ^ n - 1))), some (.int (nI v))] [] h1 (fun rv h' => rv = some (.int (nI (cnP n N T t (4 ^ n)))) ∧ iq n N h h' ∧ cI h' n N) := by
      intro j
      induction j with
      | zero =>
        intro v h1 hv i1 c1
        obtain rfl : v = 4 ^ n := by omega
        refine ev_iload dX11_passCount_23 rfl ?_
        refine ev_iload_n dX11_passCount_25 rfl ?_
        refine ev_icmp_gtN 55 dX11_passCount_26 (by decide) (by omega) (by omega) (fun c26 => ?_) (fun c26 => ?_)
        · refine ev_iload_n dX11_passCount_55 rfl ?_
          refine ev_iret dX11_passCount_56 rfl ?_
          exact ⟨rfl, i1, c1⟩
        · omega
      | succ j ih =>
        intro v h1 hv i1 c1
        have cl := cnP_le (n := n) (N := N) (T := T) (t := t) v
        have q := ih (v + 1)
        rw [cnP] at q
        refine ev_iload dX11_passCount_23 rfl ?_
        refine ev_iload_n dX11_passCount_25 rfl ?_
        refine ev_icmp_gtN 55 dX11_passCount_26 (by decide) (by omega) (by omega) (fun c26 => ?_) (fun c26 => ?_)
        · omega
        · refine ev_aload_n dX11_passCount_29 rfl ?_
          refine ev_getR fl_X11_46 rfl rfl dX11_passCount_30 ?_
          refine ev_iload_n dX11_passCount_33 rfl ?_
          refine ev_iload dX11_passCount_34 rfl ?_
          refine ev_aload_n dX11_passCount_36 rfl ?_
          refine ev_getR fl_X11_23 rfl rfl dX11_passCount_37 ?_
          refine ev_callV (cl_accepts (gC_iq g i1) ok c1 (by omega) (tC_iq tc i1) o ht) ok_X10_accepts ml_X11_249 rfl rfl rfl rfl (Nat.le_of_ble_eq_true rfl) dX11_passCount_40 ?_
          rintro rv h2 ⟨rfl, i2, c2⟩
          refine ev_if_eqN 49 dX11_passCount_43 (by decide) (by have := b01_lt (PS n N v T t); omega) (fun c43 => ?_) (fun c43 => ?_)
          · refine ev_inc4N dX11_passCount_49 (by decide) rfl ?_
            refine ev_goto 23 dX11_passCount_52 (by decide) ?_
            rw [c43] at q
            exact q h2 (by omega) (i1.tr i2) c2
          · refine ev_inc2N dX11_passCount_46 (by decide) rfl ?_
            refine ev_inc4N dX11_passCount_49 (by decide) rfl ?_
            refine ev_goto 23 dX11_passCount_52 (by decide) ?_
            rw [show b01 (PS n N v T t) = 1 by have := b01_lt (PS n N v T t); omega] at q
            exact q h2 (by omega) (i1.tr i2) c2
    refine ev_start 3 (lv := [some (.ref 0), some (.int (nI t)), none, none, none]) rfl (by decide) (Nat.le_of_ble_eq_true rfl) ?_
    refine ev_aload_n dX11_passCount_0 rfl ?_
    refine ev_iload_n dX11_passCount_1 rfl ?_
    refine ev_callV (cl_isTestC tc l8) ok_X11_isTest ml_X11_245 rfl rfl rfl rfl (Nat.le_of_ble_eq_true rfl) dX11_passCount_2 (kI ?_)
    refine ev_if_neN 10 dX11_passCount_5 (by decide) (by omega) (fun c5 => ?_) (fun c5 => ?_)
    · refine ev_iconst (nI 0) dX11_passCount_10 rfl ?_
      refine ev_ist2 dX11_passCount_11 (by decide) rfl ?_
      refine ev_aload_n dX11_passCount_12 rfl ?_
      refine ev_getR fl_X11_14 rfl rfl dX11_passCount_13 ?_
      refine ev_callV (cl_greatestCode g hn) ok_X1_greatestCode ml_X11_137 rfl rfl rfl rfl (Nat.le_of_ble_eq_true rfl) dX11_passCount_16 (kI ?_)
      refine ev_ist3 dX11_passCount_19 (by decide) rfl ?_
      refine ev_iconst (nI 0) dX11_passCount_20 rfl ?_
      refine ev_ist4 dX11_passCount_21 (by decide) rfl ?_
      exact loop (4 ^ n) 0 h (by omega) iq.rf c
    · omega
  · have q1 := b01_f hx
    rw [aIn_f hx]
    refine ev_start 3 (lv := [some (.ref 0), some (.int x), none, none, none]) rfl (by decide) (Nat.le_of_ble_eq_true rfl) ?_
    refine ev_aload_n dX11_passCount_0 rfl ?_
    refine ev_iload_n dX11_passCount_1 rfl ?_
    refine ev_callV (cl_isTestC tc l8) ok_X11_isTest ml_X11_245 rfl rfl rfl rfl (Nat.le_of_ble_eq_true rfl) dX11_passCount_2 (kI ?_)
    refine ev_if_neN 10 dX11_passCount_5 (by decide) (by omega) (fun c5 => ?_) (fun c5 => ?_)
    · omega
    · refine ev_iconst (-1) dX11_passCount_8 rfl ?_
      refine ev_iret dX11_passCount_9 rfl ?_
      exact ⟨rfl, iq.rf, c⟩
theorem cl_passCountM {n N : Nat} {T : List Tst} {x : Int32} (g : gM h n N) (ok : gOK n N) (c : cacheM h n N) (tr : tR h T) (o : okT T) : Cl G (d + 10) M_X12_passCount [.ref 67, .int x] h (fun rv h' => rv = some (.int (aIn x T.length (fun t => nI (cnP n N T t (4 ^ n))))) ∧ ms h h' ∧ cacheM h' n N) := by
  have hn := ok.2.1
  have h4 := four_n hn
  have h41 := four_pos n
  have l8 := o.1
  by_cases hx : inR x T.length
  · have q1 := b01_t hx
    obtain ⟨t, ht, rfl⟩ := hx
    rw [aIn_t ht (by omega)]
    have loop : ∀ (h1 : MH), ms h h1 → tM h1 n N → tR h1 T → gM h1 n N → ∀ (j v : Nat), v + j = 4 ^ n → Ev G (d + 10) M_X12_passCount 18 [some (.ref 67), some (.int (nI t)), some (.int (nI (cnP n N T t v))), some (.int (nI v))] [] h1 (fun rv h' => rv = some (.int (nI (cnP n N T t (4 ^ n)))) ∧ ms h h' ∧ cacheM h' n N) := by
      intro h1 m1 t1 tr1 g1 j
      induction j with
      | zero =>
        intro v hv
        obtain rfl : v = 4 ^ n := by omega
        refine ev_iload_n dX12_passCount_18 rfl ?_
        refine ev_aload_n dX12_passCount_19 rfl ?_
        refine ev_callV (cl_codeCount g1 hn) ok_X12_codeCount ml_X12_125 rfl rfl rfl rfl (Nat.le_of_ble_eq_true rfl) dX12_passCount_20 (kI ?_)
        refine ev_icmp_geN 49 dX12_passCount_23 (by decide) (by omega) (by omega) (fun c23 => ?_) (fun c23 => ?_)
        · refine ev_iload_n dX12_passCount_49 rfl ?_
          refine ev_iret dX12_passCount_50 rfl ?_
          exact ⟨rfl, m1, Or.inr t1⟩
        · omega
      | succ j ih =>
        intro v hv
        have cl := cnP_le (n := n) (N := N) (T := T) (t := t) v
        have q := ih (v + 1)
        rw [cnP] at q
        refine ev_iload_n dX12_passCount_18 rfl ?_
        refine ev_aload_n dX12_passCount_19 rfl ?_
        refine ev_callV (cl_codeCount g1 hn) ok_X12_codeCount ml_X12_125 rfl rfl rfl rfl (Nat.le_of_ble_eq_true rfl) dX12_passCount_20 (kI ?_)
        refine ev_icmp_geN 49 dX12_passCount_23 (by decide) (by omega) (by omega) (fun c23 => ?_) (fun c23 => ?_)
        · omega
        · refine ev_iload_n dX12_passCount_26 rfl ?_
          refine ev_aload_n dX12_passCount_27 rfl ?_
          refine ev_iload_n dX12_passCount_28 rfl ?_
          refine ev_iload_n dX12_passCount_29 rfl ?_
          refine ev_callV (cl_isP ok (by omega) t1 tr1 o ht) ok_X12_isPassed ml_X12_248 rfl rfl rfl rfl (Nat.le_of_ble_eq_true rfl) dX12_passCount_30 (kI ?_)
          refine ev_if_eqN 40 dX12_passCount_33 (by decide) (by have := b01_lt (PS n N v T t); omega) (fun c33 => ?_) (fun c33 => ?_)
          · refine ev_iconst (nI 0) dX12_passCount_40 rfl ?_
            refine ev_iaddN dX12_passCount_41 ?_
            refine ev_ist2 dX12_passCount_42 (by decide) rfl ?_
            refine ev_inc3N dX12_passCount_43 (by decide) rfl ?_
            refine ev_goto 18 dX12_passCount_46 (by decide) ?_
            rw [c33] at q
            exact q (by omega)
          · refine ev_iconst (nI 1) dX12_passCount_36 rfl ?_
            refine ev_goto 41 dX12_passCount_37 (by decide) ?_
            refine ev_iaddN dX12_passCount_41 ?_
            refine ev_ist2 dX12_passCount_42 (by decide) rfl ?_
            refine ev_inc3N dX12_passCount_43 (by decide) rfl ?_
            refine ev_goto 18 dX12_passCount_46 (by decide) ?_
            rw [show b01 (PS n N v T t) = 1 by have := b01_lt (PS n N v T t); omega] at q
            exact q (by omega)
    refine ev_start 2 (lv := [some (.ref 67), some (.int (nI t)), none, none]) rfl (by decide) (Nat.le_of_ble_eq_true rfl) ?_
    refine ev_aload_n dX12_passCount_0 rfl ?_
    refine ev_iload_n dX12_passCount_1 rfl ?_
    refine ev_callV (cl_isTestM tr l8) ok_X12_isTest ml_X12_245 rfl rfl rfl rfl (Nat.le_of_ble_eq_true rfl) dX12_passCount_2 (kI ?_)
    refine ev_if_neN 10 dX12_passCount_5 (by decide) (by omega) (fun c5 => ?_) (fun c5 => ?_)
    · refine ev_aload_n dX12_passCount_10 rfl ?_
      refine ev_callV (cl_update g ok c) ok_X12_update ml_X12_144 rfl rfl rfl rfl (Nat.le_of_ble_eq_true rfl) dX12_passCount_11 ?_
      rintro rv h1 ⟨rfl, m1, t1⟩
      refine ev_iconst (nI 0) dX12_passCount_14 rfl ?_
      refine ev_ist2 dX12_passCount_15 (by decide) rfl ?_
      refine ev_iconst (nI 0) dX12_passCount_16 rfl ?_
      refine ev_ist3 dX12_passCount_17 (by decide) rfl ?_
      exact loop h1 (ms_mq m1) t1 (tR_ms tr (ms_mq m1)) (gM_mq g m1) (4 ^ n) 0 (by omega)
    · omega
  · have q1 := b01_f hx
    rw [aIn_f hx]
    refine ev_start 2 (lv := [some (.ref 67), some (.int x), none, none]) rfl (by decide) (Nat.le_of_ble_eq_true rfl) ?_
    refine ev_aload_n dX12_passCount_0 rfl ?_
    refine ev_iload_n dX12_passCount_1 rfl ?_
    refine ev_callV (cl_isTestM tr l8) ok_X12_isTest ml_X12_245 rfl rfl rfl rfl (Nat.le_of_ble_eq_true rfl) dX12_passCount_2 (kI ?_)
    refine ev_if_neN 10 dX12_passCount_5 (by decide) (by omega) (fun c5 => ?_) (fun c5 => ?_)
    · omega
    · refine ev_iconst (-1) dX12_passCount_8 rfl ?_
      refine ev_iret dX12_passCount_9 rfl ?_
      exact ⟨rfl, mod.rf, c⟩
noncomputable def nth (P : Nat → Prop) (i : Nat) : Nat → Nat → Nat → Int32
  | 0, _, _ => -2
  | k + 1, v, b => if b01 (P v) = 0 then nth P i k (v + 1) b else if b = i then nI v else nth P i k (v + 1) (b + 1)
noncomputable def aPg (n N : Nat) (T : List Tst) (x y : Int32) : Int32 := aIn x T.length (fun t => if y < 0 then -1 else nth (fun m => PS n N m T t) y.toNatClampNeg (4 ^ n) 0 0)
theorem raw_nn {y : Int32} (hy : ¬ y < 0) : ∃ i, i < 2 ^ 31 ∧ y = nI i ∧ y.toNatClampNeg = i := by
  obtain ⟨i, hi, e⟩ := raw_nat hy
  exact ⟨i, by omega, e, by rw [e, nI_clamp (by omega)]⟩
theorem cl_passingC {n N : Nat} {T : List Tst} {x y : Int32} (g : gC h n N) (ok : gOK n N) (c : cI h n N) (tc : tC h T) (o : okT T) : Cl G (d + 6) M_X11_passing [.ref 0, .int x, .int y] h (fun rv h' => rv = some (.int (aPg n N T x y)) ∧ iq n N h h' ∧ cI h' n N) := by
  have hn := ok.2.1
  have h4 := four_n hn
  have h41 := four_pos n
  have l8 := o.1
  unfold aPg
  by_cases hx : inR x T.length
  · have q1 := b01_t hx
    obtain ⟨t, ht, rfl⟩ := hx
    rw [aIn_t ht (by omega)]
    by_cases hy : y < 0
    · rw [if_pos hy]
      refine ev_start 3 (lv := [some (.ref 0), some (.int (nI t)), some (.int y), none, none, none]) rfl (by decide) (Nat.le_of_ble_eq_true rfl) ?_
      refine ev_aload_n dX11_passing_0 rfl ?_
      refine ev_iload_n dX11_passing_1 rfl ?_
      refine ev_callV (cl_isTestC tc l8) ok_X11_isTest ml_X11_245 rfl rfl rfl rfl (Nat.le_of_ble_eq_true rfl) dX11_passing_2 (kI ?_)
      refine ev_if_eqN 12 dX11_passing_5 (by decide) (by omega) (fun c5 => ?_) (fun c5 => ?_)
      · omega
      · refine ev_iload_n dX11_passing_8 rfl ?_
        refine ev_if_ge 14 dX11_passing_9 (by decide) (fun c9 => ?_) (fun c9 => ?_)
        · exact absurd hy (Int32.not_lt.mpr c9)
        · refine ev_iconst (-1) dX11_passing_12 rfl ?_
          refine ev_iret dX11_passing_13 rfl ?_
          exact ⟨rfl, iq.rf, c⟩
    · rw [if_neg hy]
      obtain ⟨i, hi, rfl, ei⟩ := raw_nn hy
      rw [ei]
      have loop : ∀ (j v b : Nat) (h1 : MH), v + j = 4 ^ n → b ≤ v → iq n N h h1 → cI h1 n N → Ev G (d + 6) M_X11_passing 28 [some (.ref 0), some (.int (nI t)), some (.int (nI i)), some (.int (nI b)), some (.int (nI (4 ^ n - 1))), some (.int (nI v))] [] h1 (fun rv h' => rv = some (.int (nth (fun m => PS n N m T t) i j v b)) ∧ iq n N h h' ∧ cI h' n N) := by
        intro j
        induction j with
        | zero =>
          intro v b h1 hv hb i1 c1
          obtain rfl : v = 4 ^ n := by omega
          refine ev_iload dX11_passing_28 rfl ?_
          refine ev_iload dX11_passing_30 rfl ?_
          refine ev_icmp_gtN 69 dX11_passing_32 (by decide) (by omega) (by omega) (fun c32 => ?_) (fun c32 => ?_)
          · refine ev_bipush (-2) dX11_passing_69 rfl ?_
            refine ev_iret dX11_passing_71 rfl ?_
            exact ⟨rfl, i1, c1⟩
          · omega
        | succ j ih =>
          intro v b h1 hv hb i1 c1
          rw [nth]
          refine ev_iload dX11_passing_28 rfl ?_
          refine ev_iload dX11_passing_30 rfl ?_
          refine ev_icmp_gtN 69 dX11_passing_32 (by decide) (by omega) (by omega) (fun c32 => ?_) (fun c32 => ?_)
          · omega
          · refine ev_aload_n dX11_passing_35 rfl ?_
            refine ev_getR fl_X11_46 rfl rfl dX11_passing_36 ?_
            refine ev_iload_n dX11_passing_39 rfl ?_
            refine ev_iload dX11_passing_40 rfl ?_
            refine ev_aload_n dX11_passing_42 rfl ?_
            refine ev_getR fl_X11_23 rfl rfl dX11_passing_43 ?_
            refine ev_callV (cl_accepts (gC_iq g i1) ok c1 (by omega) (tC_iq tc i1) o ht) ok_X10_accepts ml_X11_249 rfl rfl rfl rfl (Nat.le_of_ble_eq_true rfl) dX11_passing_46 ?_
            rintro rv h2 ⟨rfl, i2, c2⟩
            refine ev_if_eqN 63 dX11_passing_49 (by decide) (by have := b01_lt (PS n N v T t); omega) (fun c49 => ?_) (fun c49 => ?_)
            · refine ev_inc5N dX11_passing_63 (by decide) rfl ?_
              refine ev_goto 28 dX11_passing_66 (by decide) ?_
              rw [if_pos c49]
              exact ih (v + 1) b h2 (by omega) (by omega) (i1.tr i2) c2
            · refine ev_iload_n dX11_passing_52 rfl ?_
              refine ev_iload_n dX11_passing_53 rfl ?_
              refine ev_icmp_neN 60 dX11_passing_54 (by decide) (by omega) (by omega) (fun c54 => ?_) (fun c54 => ?_)
              · refine ev_inc3N dX11_passing_60 (by decide) rfl ?_
                refine ev_inc5N dX11_passing_63 (by decide) rfl ?_
                refine ev_goto 28 dX11_passing_66 (by decide) ?_
                rw [if_neg c49, if_neg c54]
                exact ih (v + 1) (b + 1) h2 (by omega) (by omega) (i1.tr i2) c2
              · refine ev_iload dX11_passing_57 rfl ?_
                refine ev_iret dX11_passing_59 rfl ?_
                exact ⟨by rw [if_neg c49, if_pos (by omega)], i1.tr i2, c2⟩
      refine ev_start 3 (lv := [some (.ref 0), some (.int (nI t)), some (.int (nI i)), none, none, none]) rfl (by decide) (Nat.le_of_ble_eq_true rfl) ?_
      refine ev_aload_n dX11_passing_0 rfl ?_
      refine ev_iload_n dX11_passing_1 rfl ?_
      refine ev_callV (cl_isTestC tc l8) ok_X11_isTest ml_X11_245 rfl rfl rfl rfl (Nat.le_of_ble_eq_true rfl) dX11_passing_2 (kI ?_)
      refine ev_if_eqN 12 dX11_passing_5 (by decide) (by omega) (fun c5 => ?_) (fun c5 => ?_)
      · omega
      · refine ev_iload_n dX11_passing_8 rfl ?_
        refine ev_if_geN 14 dX11_passing_9 (by decide) (by omega) (fun c9 => ?_) (fun c9 => ?_)
        · refine ev_iconst (nI 0) dX11_passing_14 rfl ?_
          refine ev_ist3 dX11_passing_15 (by decide) rfl ?_
          refine ev_aload_n dX11_passing_16 rfl ?_
          refine ev_getR fl_X11_14 rfl rfl dX11_passing_17 ?_
          refine ev_callV (cl_greatestCode g hn) ok_X1_greatestCode ml_X11_137 rfl rfl rfl rfl (Nat.le_of_ble_eq_true rfl) dX11_passing_20 (kI ?_)
          refine ev_ist4 dX11_passing_23 (by decide) rfl ?_
          refine ev_iconst (nI 0) dX11_passing_25 rfl ?_
          refine ev_ist5 dX11_passing_26 (by decide) rfl ?_
          exact loop (4 ^ n) 0 0 h (by omega) (by omega) iq.rf c
        · exact c9.elim
  · have q1 := b01_f hx
    rw [aIn_f hx]
    refine ev_start 3 (lv := [some (.ref 0), some (.int x), some (.int y), none, none, none]) rfl (by decide) (Nat.le_of_ble_eq_true rfl) ?_
    refine ev_aload_n dX11_passing_0 rfl ?_
    refine ev_iload_n dX11_passing_1 rfl ?_
    refine ev_callV (cl_isTestC tc l8) ok_X11_isTest ml_X11_245 rfl rfl rfl rfl (Nat.le_of_ble_eq_true rfl) dX11_passing_2 (kI ?_)
    refine ev_if_eqN 12 dX11_passing_5 (by decide) (by omega) (fun c5 => ?_) (fun c5 => ?_)
    · refine ev_iconst (-1) dX11_passing_12 rfl ?_
      refine ev_iret dX11_passing_13 rfl ?_
      exact ⟨rfl, iq.rf, c⟩
    · omega
theorem cl_passingM {n N : Nat} {T : List Tst} {x y : Int32} (g : gM h n N) (ok : gOK n N) (c : cacheM h n N) (tr : tR h T) (o : okT T) : Cl G (d + 10) M_X12_passing [.ref 67, .int x, .int y] h (fun rv h' => rv = some (.int (aPg n N T x y)) ∧ ms h h' ∧ cacheM h' n N) := by
  have hn := ok.2.1
  have h4 := four_n hn
  have h41 := four_pos n
  have l8 := o.1
  unfold aPg
  by_cases hx : inR x T.length
  · have q1 := b01_t hx
    obtain ⟨t, ht, rfl⟩ := hx
    rw [aIn_t ht (by omega)]
    by_cases hy : y < 0
    · rw [if_pos hy]
      refine ev_start 2 (lv := [some (.ref 67), some (.int (nI t)), some (.int y), none, none]) rfl (by decide) (Nat.le_of_ble_eq_true rfl) ?_
      refine ev_aload_n dX12_passing_0 rfl ?_
      refine ev_iload_n dX12_passing_1 rfl ?_
      refine ev_callV (cl_isTestM tr l8) ok_X12_isTest ml_X12_245 rfl rfl rfl rfl (Nat.le_of_ble_eq_true rfl) dX12_passing_2 (kI ?_)
      refine ev_if_eqN 12 dX12_passing_5 (by decide) (by omega) (fun c5 => ?_) (fun c5 => ?_)
      · omega
      · refine ev_iload_n dX12_passing_8 rfl ?_
        refine ev_if_ge 14 dX12_passing_9 (by decide) (fun c9 => ?_) (fun c9 => ?_)
        · exact absurd hy (Int32.not_lt.mpr c9)
        · refine ev_iconst (-1) dX12_passing_12 rfl ?_
          refine ev_iret dX12_passing_13 rfl ?_
          exact ⟨rfl, mod.rf, c⟩
    · rw [if_neg hy]
      obtain ⟨i, hi, rfl, ei⟩ := raw_nn hy
      rw [ei]
      have loop : ∀ (h1 : MH), ms h h1 → tM h1 n N → tR h1 T → gM h1 n N → ∀ (j v b : Nat), v + j = 4 ^ n → b ≤ v → Ev G (d + 10) M_X12_passing 23 [some (.ref 67), some (.int (nI t)), some (.int (nI i)), some (.int (nI b)), some (.int (nI v))] [] h1 (fun rv h' => rv = some (.int (nth (fun m => PS n N m T t) i j v b)) ∧ ms h h' ∧ cacheM h' n N) := by
        intro h1 m1 t1 tr1 g1 j
        induction j with
        | zero =>
          intro v b hv hb
          obtain rfl : v = 4 ^ n := by omega
          refine ev_iload dX12_passing_23 rfl ?_
          refine ev_aload_n dX12_passing_25 rfl ?_
          refine ev_callV (cl_codeCount g1 hn) ok_X12_codeCount ml_X12_125 rfl rfl rfl rfl (Nat.le_of_ble_eq_true rfl) dX12_passing_26 (kI ?_)
          refine ev_icmp_geN 59 dX12_passing_29 (by decide) (by omega) (by omega) (fun c29 => ?_) (fun c29 => ?_)
          · refine ev_bipush (-2) dX12_passing_59 rfl ?_
            refine ev_iret dX12_passing_61 rfl ?_
            exact ⟨rfl, m1, Or.inr t1⟩
          · omega
        | succ j ih =>
          intro v b hv hb
          rw [nth]
          refine ev_iload dX12_passing_23 rfl ?_
          refine ev_aload_n dX12_passing_25 rfl ?_
          refine ev_callV (cl_codeCount g1 hn) ok_X12_codeCount ml_X12_125 rfl rfl rfl rfl (Nat.le_of_ble_eq_true rfl) dX12_passing_26 (kI ?_)
          refine ev_icmp_geN 59 dX12_passing_29 (by decide) (by omega) (by omega) (fun c29 => ?_) (fun c29 => ?_)
          · omega
          · refine ev_aload_n dX12_passing_32 rfl ?_
            refine ev_iload_n dX12_passing_33 rfl ?_
            refine ev_iload dX12_passing_34 rfl ?_
            refine ev_callV (cl_isP ok (by omega) t1 tr1 o ht) ok_X12_isPassed ml_X12_248 rfl rfl rfl rfl (Nat.le_of_ble_eq_true rfl) dX12_passing_36 (kI ?_)
            refine ev_if_eqN 53 dX12_passing_39 (by decide) (by have := b01_lt (PS n N v T t); omega) (fun c39 => ?_) (fun c39 => ?_)
            · refine ev_inc4N dX12_passing_53 (by decide) rfl ?_
              refine ev_goto 23 dX12_passing_56 (by decide) ?_
              rw [if_pos c39]
              exact ih (v + 1) b (by omega) (by omega)
            · refine ev_iload_n dX12_passing_42 rfl ?_
              refine ev_iload_n dX12_passing_43 rfl ?_
              refine ev_icmp_neN 50 dX12_passing_44 (by decide) (by omega) (by omega) (fun c44 => ?_) (fun c44 => ?_)
              · refine ev_inc3N dX12_passing_50 (by decide) rfl ?_
                refine ev_inc4N dX12_passing_53 (by decide) rfl ?_
                refine ev_goto 23 dX12_passing_56 (by decide) ?_
                rw [if_neg c39, if_neg c44]
                exact ih (v + 1) (b + 1) (by omega) (by omega)
              · refine ev_iload dX12_passing_47 rfl ?_
                refine ev_iret dX12_passing_49 rfl ?_
                exact ⟨by rw [if_neg c39, if_pos (by omega)], m1, Or.inr t1⟩
      refine ev_start 2 (lv := [some (.ref 67), some (.int (nI t)), some (.int (nI i)), none, none]) rfl (by decide) (Nat.le_of_ble_eq_true rfl) ?_
      refine ev_aload_n dX12_passing_0 rfl ?_
      refine ev_iload_n dX12_passing_1 rfl ?_
      refine ev_callV (cl_isTestM tr l8) ok_X12_isTest ml_X12_245 rfl rfl rfl rfl (Nat.le_of_ble_eq_true rfl) dX12_passing_2 (kI ?_)
      refine ev_if_eqN 12 dX12_passing_5 (by decide) (by omega) (fun c5 => ?_) (fun c5 => ?_)
      · omega
      · refine ev_iload_n dX12_passing_8 rfl ?_
        refine ev_if_geN 14 dX12_passing_9 (by decide) (by omega) (fun c9 => ?_) (fun c9 => ?_)
        · refine ev_aload_n dX12_passing_14 rfl ?_
          refine ev_callV (cl_update g ok c) ok_X12_update ml_X12_144 rfl rfl rfl rfl (Nat.le_of_ble_eq_true rfl) dX12_passing_15 ?_
          rintro rv h1 ⟨rfl, m1, t1⟩
          refine ev_iconst (nI 0) dX12_passing_18 rfl ?_
          refine ev_ist3 dX12_passing_19 (by decide) rfl ?_
          refine ev_iconst (nI 0) dX12_passing_20 rfl ?_
          refine ev_ist4 dX12_passing_21 (by decide) rfl ?_
          exact loop h1 (ms_mq m1) t1 (tR_ms tr (ms_mq m1)) (gM_mq g m1) (4 ^ n) 0 0 (by omega) (by omega)
        · exact c9.elim
  · have q1 := b01_f hx
    rw [aIn_f hx]
    refine ev_start 2 (lv := [some (.ref 67), some (.int x), some (.int y), none, none]) rfl (by decide) (Nat.le_of_ble_eq_true rfl) ?_
    refine ev_aload_n dX12_passing_0 rfl ?_
    refine ev_iload_n dX12_passing_1 rfl ?_
    refine ev_callV (cl_isTestM tr l8) ok_X12_isTest ml_X12_245 rfl rfl rfl rfl (Nat.le_of_ble_eq_true rfl) dX12_passing_2 (kI ?_)
    refine ev_if_eqN 12 dX12_passing_5 (by decide) (by omega) (fun c5 => ?_) (fun c5 => ?_)
    · refine ev_iconst (-1) dX12_passing_12 rfl ?_
      refine ev_iret dX12_passing_13 rfl ?_
      exact ⟨rfl, mod.rf, c⟩
    · omega
end PASS2
