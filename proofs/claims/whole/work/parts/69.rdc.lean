section RDC
variable {G : MG} {d : Nat} {h : MH}
def pC (h : MH) (s : Ps) : Prop := h.1 46 2 = nI s.1 ∧ (s.1 ≠ 0 → h.1 46 3 = nI s.2.1) ∧ (2 ≤ s.1 → h.1 46 4 = nI s.2.2.1) ∧ rowIs h 49 s.2.2.2
abbrev sP (h h' : MH) : Prop := same (fun k => k ≠ 46 ∧ k ≠ 49 ∧ k ≠ 50) h h'
/-- what a reading step answers -/
abbrev qT (h : MH) (o : Option Ps) : Option Value → MH → Prop := fun rv h' => sP h h' ∧ ((o = none ∧ rv = some (.int (nI 0))) ∨ ∃ s', o = some s' ∧ rv = some (.int (nI 1)) ∧ pC h' s')
theorem rowIs_46 {h : MH} {j : Nat} {x : Int32} {K : List Nat} (r : rowIs h 49 K) : rowIs (m_put h 46 j x) 49 K := ⟨by rw [mp_k (by decide)]; exact r.1, by rw [mp_k (by decide)]; exact r.2⟩
theorem cl_takeComma {s : Ps} (w : wPs s) (q : pC h s) : Cl G (d + 1) M_X3_takeComma [.ref 46] h (qT h (pst 44 s)) := by
  obtain ⟨st, c, lv, K⟩ := s
  obtain ⟨q1, q2, q3, q4⟩ := q
  obtain ⟨w1, w2, w3, w4, w5, w6⟩ := w
  simp only at q1 q2 q3 q4 w1 w2 w3
  have l24 := w2.1
  have e : pst 44 (st, c, lv, K) = if st = 0 ∨ K.length = 23 then none else some (0, 0, 0, K ++ [c]) := rfl
  rw [e]
  by_cases c0 : st = 0 ∨ K.length = 23
  · rw [if_pos c0]
    refine ev_start 0 (lv := [some (.ref 46)]) rfl (by decide) (Nat.le_of_ble_eq_true rfl) ?_
    refine ev_aload_n dX3_takeComma_0 rfl ?_
    refine ev_getIv (q1) fl_X3_23 rfl rfl dX3_takeComma_1 ?_
    refine ev_if_eqN 19 dX3_takeComma_4 (by decide) (by omega) (fun c4 => ?_) (fun c4 => ?_)
    · refine ev_iconst (nI 0) dX3_takeComma_19 rfl ?_
      refine ev_zret dX3_takeComma_20 rfl rfl ?_
      exact ⟨same.rf, Or.inl ⟨rfl, rfl⟩⟩
    · refine ev_aload_n dX3_takeComma_7 rfl ?_
      refine ev_getR fl_X3_20 rfl rfl dX3_takeComma_8 ?_
      refine ev_getIv (q4.1) fl_X3_27 rfl rfl dX3_takeComma_11 ?_
      refine ev_bipush (nI 23) dX3_takeComma_14 rfl ?_
      refine ev_icmp_neN 21 dX3_takeComma_16 (by decide) (by omega) (by omega) (fun c16 => ?_) (fun c16 => ?_)
      · omega
      · refine ev_iconst (nI 0) dX3_takeComma_19 rfl ?_
        refine ev_zret dX3_takeComma_20 rfl rfl ?_
        exact ⟨same.rf, Or.inl ⟨rfl, rfl⟩⟩
  · rw [if_neg c0]
    refine ev_start 0 (lv := [some (.ref 46)]) rfl (by decide) (Nat.le_of_ble_eq_true rfl) ?_
    refine ev_aload_n dX3_takeComma_0 rfl ?_
    refine ev_getIv (q1) fl_X3_23 rfl rfl dX3_takeComma_1 ?_
    refine ev_if_eqN 19 dX3_takeComma_4 (by decide) (by omega) (fun c4 => ?_) (fun c4 => ?_)
    · omega
    · refine ev_aload_n dX3_takeComma_7 rfl ?_
      refine ev_getR fl_X3_20 rfl rfl dX3_takeComma_8 ?_
      refine ev_getIv (q4.1) fl_X3_27 rfl rfl dX3_takeComma_11 ?_
      refine ev_bipush (nI 23) dX3_takeComma_14 rfl ?_
      refine ev_icmp_neN 21 dX3_takeComma_16 (by decide) (by omega) (by omega) (fun c16 => ?_) (fun c16 => ?_)
      · refine ev_aload_n dX3_takeComma_21 rfl ?_
        refine ev_getR fl_X3_20 rfl rfl dX3_takeComma_22 ?_
        refine ev_aload_n dX3_takeComma_25 rfl ?_
        refine ev_getIv (q2 (by omega)) fl_X3_38 rfl rfl dX3_takeComma_26 ?_
        refine ev_callV (cl_addR row_49 q4 (by omega)) ok_X7_add ml_X3_41 rfl rfl rfl rfl (Nat.le_of_ble_eq_true rfl) dX3_takeComma_29 ?_
        rintro rv h1 ⟨rfl, s1, r1⟩
        refine ev_pop dX3_takeComma_32 rfl ?_
        refine ev_aload_n dX3_takeComma_33 rfl ?_
        refine ev_iconst (nI 0) dX3_takeComma_34 rfl ?_
        refine ev_putI fp_X3_23 rfl rfl rfl rfl dX3_takeComma_35 ?_
        refine ev_iconst (nI 1) dX3_takeComma_38 rfl ?_
        refine ev_zret dX3_takeComma_39 rfl rfl ?_
        exact ⟨(s1.mono (fun k hk => hk.2)).tr (same_put (by decide)), Or.inr ⟨_, rfl, rfl, mp_eq _ _ _ _, fun z => absurd rfl z, fun z => absurd z (show ¬ 2 ≤ 0 by decide), rowIs_46 r1⟩⟩
      · omega
theorem cl_takeOne {s : Ps} (w : wPs s) (q : pC h s) : Cl G d M_X3_takeOne [.ref 46] h (qT h (pst 49 s)) := by
  obtain ⟨st, c, lv, K⟩ := s
  obtain ⟨q1, q2, q3, q4⟩ := q
  obtain ⟨w1, w2, w3, w4, w5, w6⟩ := w
  simp only at q1 q2 q3 q4 w1 w2 w3
  have e : pst 49 (st, c, lv, K) = if st = 0 then some (1, 0, 0, K) else none := rfl
  rw [e]
  by_cases c0 : st = 0
  · rw [if_pos c0]
    refine ev_start 0 (lv := [some (.ref 46)]) rfl (by decide) (Nat.le_of_ble_eq_true rfl) ?_
    refine ev_aload_n dX3_takeOne_0 rfl ?_
    refine ev_getIv (q1) fl_X3_23 rfl rfl dX3_takeOne_1 ?_
    refine ev_if_eqN 9 dX3_takeOne_4 (by decide) (by omega) (fun c4 => ?_) (fun c4 => ?_)
    · refine ev_aload_n dX3_takeOne_9 rfl ?_
      refine ev_iconst (nI 0) dX3_takeOne_10 rfl ?_
      refine ev_putI fp_X3_38 rfl rfl rfl rfl dX3_takeOne_11 ?_
      refine ev_aload_n dX3_takeOne_14 rfl ?_
      refine ev_iconst (nI 1) dX3_takeOne_15 rfl ?_
      refine ev_putI fp_X3_23 rfl rfl rfl rfl dX3_takeOne_16 ?_
      refine ev_iconst (nI 1) dX3_takeOne_19 rfl ?_
      refine ev_zret dX3_takeOne_20 rfl rfl ?_
      exact ⟨(same_put (by decide)).tr (same_put (by decide)), Or.inr ⟨_, rfl, rfl, mp_eq _ _ _ _, fun _ => by rw [mp_j (by decide)]; exact mp_eq _ _ _ _, fun z => absurd z (show ¬ 2 ≤ 1 by decide), rowIs_46 (rowIs_46 q4)⟩⟩
    · omega
  · rw [if_neg c0]
    refine ev_start 0 (lv := [some (.ref 46)]) rfl (by decide) (Nat.le_of_ble_eq_true rfl) ?_
    refine ev_aload_n dX3_takeOne_0 rfl ?_
    refine ev_getIv (q1) fl_X3_23 rfl rfl dX3_takeOne_1 ?_
    refine ev_if_eqN 9 dX3_takeOne_4 (by decide) (by omega) (fun c4 => ?_) (fun c4 => ?_)
    · omega
    · refine ev_iconst (nI 0) dX3_takeOne_7 rfl ?_
      refine ev_zret dX3_takeOne_8 rfl rfl ?_
      exact ⟨same.rf, Or.inl ⟨rfl, rfl⟩⟩
theorem cl_takeDigit {s : Ps} {b : Nat} (hb : b = 50 ∨ b = 51) (w : wPs s) (q : pC h s) : Cl G (d + 1) M_X3_takeDigit [.ref 46, .int (nI (b - 48))] h (qT h (pst b s)) := by
  have wc := wPs_c w
  obtain ⟨st, c, lv, K⟩ := s
  obtain ⟨q1, q2, q3, q4⟩ := q
  obtain ⟨w1, w2, w3, w4, w5, w6⟩ := w
  simp only at q1 q2 q3 q4 w1 w2 w3 w5 wc
  have e : pst b (st, c, lv, K) = if st = 2 then some (3, c + (b - 48 - 1) * 4 ^ lv, lv, K) else none := by
    unfold pst
    rw [if_neg (show ¬ b = 44 by omega), if_neg (show ¬ b = 49 by omega), if_pos hb]
  rw [e]
  by_cases c0 : st = 2
  · rw [if_pos c0]
    have lv7 := (w5 c0).1
    have p4 := p46 lv7
    have pm : (b - 48 - 1) * 4 ^ lv ≤ 2 * 4 ^ lv := Nat.mul_le_mul_right _ (by omega)
    have ccc := wc (by omega)
    refine ev_start 0 (lv := [some (.ref 46), some (.int (nI (b - 48)))]) rfl (by decide) (Nat.le_of_ble_eq_true rfl) ?_
    refine ev_aload_n dX3_takeDigit_0 rfl ?_
    refine ev_getIv (q1) fl_X3_23 rfl rfl dX3_takeDigit_1 ?_
    refine ev_iconst (nI 2) dX3_takeDigit_4 rfl ?_
    refine ev_icmp_eqN 10 dX3_takeDigit_5 (by decide) (by omega) (by omega) (fun c5 => ?_) (fun c5 => ?_)
    · refine ev_aload_n dX3_takeDigit_10 rfl ?_
      refine ev_dup dX3_takeDigit_11 rfl ?_
      refine ev_getIv (q2 (by omega)) fl_X3_38 rfl rfl dX3_takeDigit_12 ?_
      refine ev_iload_n dX3_takeDigit_15 rfl ?_
      refine ev_iconst (nI 1) dX3_takeDigit_16 rfl ?_
      refine ev_isubN dX3_takeDigit_17 (by omega) ?_
      refine ev_aload_n dX3_takeDigit_18 rfl ?_
      refine ev_getIv (q3 (by omega)) fl_X3_57 rfl rfl dX3_takeDigit_19 ?_
      refine ev_callS (cl_unit (by omega)) ok_X6_unit ml_X3_60 rfl rfl (Nat.le_of_ble_eq_true rfl) dX3_takeDigit_22 (kI ?_)
      refine ev_imulN dX3_takeDigit_25 ?_
      refine ev_iaddN dX3_takeDigit_26 ?_
      refine ev_putI fp_X3_38 rfl rfl rfl rfl dX3_takeDigit_27 ?_
      refine ev_aload_n dX3_takeDigit_30 rfl ?_
      refine ev_iconst (nI 3) dX3_takeDigit_31 rfl ?_
      refine ev_putI fp_X3_23 rfl rfl rfl rfl dX3_takeDigit_32 ?_
      refine ev_iconst (nI 1) dX3_takeDigit_35 rfl ?_
      refine ev_zret dX3_takeDigit_36 rfl rfl ?_
      exact ⟨(same_put (by decide)).tr (same_put (by decide)), Or.inr ⟨_, rfl, rfl, mp_eq _ _ _ _, fun _ => by rw [mp_j (by decide)]; exact mp_eq _ _ _ _, fun _ => by rw [mp_j (by decide), mp_j (by decide)]; exact q3 (by omega), rowIs_46 (rowIs_46 q4)⟩⟩
    · omega
  · rw [if_neg c0]
    refine ev_start 0 (lv := [some (.ref 46), some (.int (nI (b - 48)))]) rfl (by decide) (Nat.le_of_ble_eq_true rfl) ?_
    refine ev_aload_n dX3_takeDigit_0 rfl ?_
    refine ev_getIv (q1) fl_X3_23 rfl rfl dX3_takeDigit_1 ?_
    refine ev_iconst (nI 2) dX3_takeDigit_4 rfl ?_
    refine ev_icmp_eqN 10 dX3_takeDigit_5 (by decide) (by omega) (by omega) (fun c5 => ?_) (fun c5 => ?_)
    · omega
    · refine ev_iconst (nI 0) dX3_takeDigit_8 rfl ?_
      refine ev_zret dX3_takeDigit_9 rfl rfl ?_
      exact ⟨same.rf, Or.inl ⟨rfl, rfl⟩⟩
theorem cl_takeLetter {s : Ps} {b : Nat} (hb : 97 ≤ b ∧ b ≤ 103) (w : wPs s) (q : pC h s) : Cl G (d + 1) M_X3_takeLetter [.ref 46, .int (nI (b - 97))] h (qT h (pst b s)) := by
  have wc := wPs_c w
  obtain ⟨st, c, lv, K⟩ := s
  obtain ⟨q1, q2, q3, q4⟩ := q
  obtain ⟨w1, w2, w3, w4, w5, w6⟩ := w
  simp only at q1 q2 q3 q4 w1 w2 w3 w5 w6 wc
  have e : pst b (st, c, lv, K) = if st = 0 then some (2, 0 + 4 ^ (b - 97), b - 97, K) else if st = 1 ∨ b - 97 ≤ lv then none else some (2, c + 4 ^ (b - 97), b - 97, K) := by
    unfold pst
    rw [if_neg (show ¬ b = 44 by omega), if_neg (show ¬ b = 49 by omega), if_neg (show ¬ (b = 50 ∨ b = 51) by omega), if_pos hb]
  rw [e]
  have p4 := p46 (show b - 97 < 7 by omega)
  by_cases c0 : st = 0
  · rw [if_pos c0]
    refine ev_start 0 (lv := [some (.ref 46), some (.int (nI (b - 97)))]) rfl (by decide) (Nat.le_of_ble_eq_true rfl) ?_
    refine ev_aload_n dX3_takeLetter_0 rfl ?_
    refine ev_getIv (q1) fl_X3_23 rfl rfl dX3_takeLetter_1 ?_
    refine ev_if_neN 15 dX3_takeLetter_4 (by decide) (by omega) (fun c4 => ?_) (fun c4 => ?_)
    · omega
    · refine ev_aload_n dX3_takeLetter_7 rfl ?_
      refine ev_iconst (nI 0) dX3_takeLetter_8 rfl ?_
      refine ev_putI fp_X3_38 rfl rfl rfl rfl dX3_takeLetter_9 ?_
      refine ev_goto 33 dX3_takeLetter_12 (by decide) ?_
      refine ev_aload_n dX3_takeLetter_33 rfl ?_
      refine ev_dup dX3_takeLetter_34 rfl ?_
      refine ev_getIv ((show (m_put h 46 3 (nI 0)).1 46 3 = nI 0 from mp_eq _ _ _ _)) fl_X3_38 rfl rfl dX3_takeLetter_35 ?_
      refine ev_iload_n dX3_takeLetter_38 rfl ?_
      refine ev_callS (cl_unit (by omega)) ok_X6_unit ml_X3_60 rfl rfl (Nat.le_of_ble_eq_true rfl) dX3_takeLetter_39 (kI ?_)
      refine ev_iaddN dX3_takeLetter_42 ?_
      refine ev_putI fp_X3_38 rfl rfl rfl rfl dX3_takeLetter_43 ?_
      refine ev_aload_n dX3_takeLetter_46 rfl ?_
      refine ev_iload_n dX3_takeLetter_47 rfl ?_
      refine ev_putI fp_X3_57 rfl rfl rfl rfl dX3_takeLetter_48 ?_
      refine ev_aload_n dX3_takeLetter_51 rfl ?_
      refine ev_iconst (nI 2) dX3_takeLetter_52 rfl ?_
      refine ev_putI fp_X3_23 rfl rfl rfl rfl dX3_takeLetter_53 ?_
      refine ev_iconst (nI 1) dX3_takeLetter_56 rfl ?_
      refine ev_zret dX3_takeLetter_57 rfl rfl ?_
      refine ⟨(((same_put (by decide)).tr (same_put (by decide))).tr (same_put (by decide))).tr (same_put (by decide)), Or.inr ⟨_, rfl, rfl, mp_eq _ _ _ _, fun _ => ?_, fun _ => ?_, rowIs_46 (rowIs_46 (rowIs_46 (rowIs_46 q4)))⟩⟩
      · rw [mp_j (by decide), mp_j (by decide)]; exact mp_eq _ _ _ _
      · rw [mp_j (by decide)]; exact mp_eq _ _ _ _
  · rw [if_neg c0]
    have q2' := q2 c0
    have ccc := wc c0
    by_cases c1 : st = 1 ∨ b - 97 ≤ lv
    · rw [if_pos c1]
      by_cases c2 : st = 1
      · skip
        refine ev_start 0 (lv := [some (.ref 46), some (.int (nI (b - 97)))]) rfl (by decide) (Nat.le_of_ble_eq_true rfl) ?_
        refine ev_aload_n dX3_takeLetter_0 rfl ?_
        refine ev_getIv (q1) fl_X3_23 rfl rfl dX3_takeLetter_1 ?_
        refine ev_if_neN 15 dX3_takeLetter_4 (by decide) (by omega) (fun c4 => ?_) (fun c4 => ?_)
        · refine ev_aload_n dX3_takeLetter_15 rfl ?_
          refine ev_getIv (q1) fl_X3_23 rfl rfl dX3_takeLetter_16 ?_
          refine ev_iconst (nI 1) dX3_takeLetter_19 rfl ?_
          refine ev_icmp_eqN 31 dX3_takeLetter_20 (by decide) (by omega) (by omega) (fun c20 => ?_) (fun c20 => ?_)
          · refine ev_iconst (nI 0) dX3_takeLetter_31 rfl ?_
            refine ev_zret dX3_takeLetter_32 rfl rfl ?_
            exact ⟨same.rf, Or.inl ⟨rfl, rfl⟩⟩
          · omega
        · omega
      · have lv7 : lv < 7 := by
          rcases (show st = 2 ∨ st = 3 by omega) with z | z
          · exact (w5 z).1
          · exact (w6 z).1
        refine ev_start 0 (lv := [some (.ref 46), some (.int (nI (b - 97)))]) rfl (by decide) (Nat.le_of_ble_eq_true rfl) ?_
        refine ev_aload_n dX3_takeLetter_0 rfl ?_
        refine ev_getIv (q1) fl_X3_23 rfl rfl dX3_takeLetter_1 ?_
        refine ev_if_neN 15 dX3_takeLetter_4 (by decide) (by omega) (fun c4 => ?_) (fun c4 => ?_)
        · refine ev_aload_n dX3_takeLetter_15 rfl ?_
          refine ev_getIv (q1) fl_X3_23 rfl rfl dX3_takeLetter_16 ?_
          refine ev_iconst (nI 1) dX3_takeLetter_19 rfl ?_
          refine ev_icmp_eqN 31 dX3_takeLetter_20 (by decide) (by omega) (by omega) (fun c20 => ?_) (fun c20 => ?_)
          · omega
          · refine ev_iload_n dX3_takeLetter_23 rfl ?_
            refine ev_aload_n dX3_takeLetter_24 rfl ?_
            refine ev_getIv (q3 (by omega)) fl_X3_57 rfl rfl dX3_takeLetter_25 ?_
            refine ev_icmp_gtN 33 dX3_takeLetter_28 (by decide) (by omega) (by omega) (fun c28 => ?_) (fun c28 => ?_)
            · omega
            · refine ev_iconst (nI 0) dX3_takeLetter_31 rfl ?_
              refine ev_zret dX3_takeLetter_32 rfl rfl ?_
              exact ⟨same.rf, Or.inl ⟨rfl, rfl⟩⟩
        · omega
    · rw [if_neg c1]
      have lv7 : lv < 7 := by
        rcases (show st = 2 ∨ st = 3 by omega) with z | z
        · exact (w5 z).1
        · exact (w6 z).1
      refine ev_start 0 (lv := [some (.ref 46), some (.int (nI (b - 97)))]) rfl (by decide) (Nat.le_of_ble_eq_true rfl) ?_
      refine ev_aload_n dX3_takeLetter_0 rfl ?_
      refine ev_getIv (q1) fl_X3_23 rfl rfl dX3_takeLetter_1 ?_
      refine ev_if_neN 15 dX3_takeLetter_4 (by decide) (by omega) (fun c4 => ?_) (fun c4 => ?_)
      · refine ev_aload_n dX3_takeLetter_15 rfl ?_
        refine ev_getIv (q1) fl_X3_23 rfl rfl dX3_takeLetter_16 ?_
        refine ev_iconst (nI 1) dX3_takeLetter_19 rfl ?_
        refine ev_icmp_eqN 31 dX3_takeLetter_20 (by decide) (by omega) (by omega) (fun c20 => ?_) (fun c20 => ?_)
        · omega
        · refine ev_iload_n dX3_takeLetter_23 rfl ?_
          refine ev_aload_n dX3_takeLetter_24 rfl ?_
          refine ev_getIv (q3 (by omega)) fl_X3_57 rfl rfl dX3_takeLetter_25 ?_
          refine ev_icmp_gtN 33 dX3_takeLetter_28 (by decide) (by omega) (by omega) (fun c28 => ?_) (fun c28 => ?_)
          · refine ev_aload_n dX3_takeLetter_33 rfl ?_
            refine ev_dup dX3_takeLetter_34 rfl ?_
            refine ev_getIv (q2') fl_X3_38 rfl rfl dX3_takeLetter_35 ?_
            refine ev_iload_n dX3_takeLetter_38 rfl ?_
            refine ev_callS (cl_unit (by omega)) ok_X6_unit ml_X3_60 rfl rfl (Nat.le_of_ble_eq_true rfl) dX3_takeLetter_39 (kI ?_)
            refine ev_iaddN dX3_takeLetter_42 ?_
            refine ev_putI fp_X3_38 rfl rfl rfl rfl dX3_takeLetter_43 ?_
            refine ev_aload_n dX3_takeLetter_46 rfl ?_
            refine ev_iload_n dX3_takeLetter_47 rfl ?_
            refine ev_putI fp_X3_57 rfl rfl rfl rfl dX3_takeLetter_48 ?_
            refine ev_aload_n dX3_takeLetter_51 rfl ?_
            refine ev_iconst (nI 2) dX3_takeLetter_52 rfl ?_
            refine ev_putI fp_X3_23 rfl rfl rfl rfl dX3_takeLetter_53 ?_
            refine ev_iconst (nI 1) dX3_takeLetter_56 rfl ?_
            refine ev_zret dX3_takeLetter_57 rfl rfl ?_
            refine ⟨((same_put (by decide)).tr (same_put (by decide))).tr (same_put (by decide)), Or.inr ⟨_, rfl, rfl, mp_eq _ _ _ _, fun _ => ?_, fun _ => ?_, rowIs_46 (rowIs_46 (rowIs_46 q4))⟩⟩
            · rw [mp_j (by decide), mp_j (by decide)]; exact mp_eq _ _ _ _
            · rw [mp_j (by decide)]; exact mp_eq _ _ _ _
          · omega
      · omega
theorem pst_no {b : Nat} {s : Ps} (h1 : b ≠ 44) (h2 : b ≠ 49) (h3 : ¬ (b = 50 ∨ b = 51)) (h4 : ¬ (97 ≤ b ∧ b ≤ 103)) : pst b s = none := by
  unfold pst
  rw [if_neg h1, if_neg h2, if_neg h3, if_neg h4]
theorem cl_take {s : Ps} {b : Nat} (hb : b < 256) (w : wPs s) (q : pC h s) : Cl G (d + 2) M_X3_take [.ref 46, .int (nI b)] h (qT h (pst b s)) := by
  have nz : ∀ {o : Option Ps} {rv : Option Value} {h1 : MH}, qT h o rv h1 → ∃ z, z < 2 ∧ rv = some (.int (nI z)) := by
    intro o rv h1 q
    rcases q.2 with ⟨_, e⟩ | ⟨_, _, e, _⟩
    · exact ⟨0, by decide, e⟩
    · exact ⟨1, by decide, e⟩
  by_cases dd1 : b = 44
  · subst dd1
    refine ev_start 0 (lv := [some (.ref 46), some (.int (nI 44))]) rfl (by decide) (Nat.le_of_ble_eq_true rfl) ?_
    refine ev_iload_n dX3_take_0 rfl ?_
    refine ev_bipush (nI 44) dX3_take_1 rfl ?_
    refine ev_icmp_neN 11 dX3_take_3 (by decide) (by omega) (by omega) (fun c3 => ?_) (fun c3 => ?_)
    · omega
    · refine ev_aload_n dX3_take_6 rfl ?_
      refine ev_callV (cl_takeComma w q) ok_X3_takeComma ml_X3_44 rfl rfl rfl rfl (Nat.le_of_ble_eq_true rfl) dX3_take_7 ?_
      intro rv h1 t
      obtain ⟨z, hz, rfl⟩ := nz t
      refine ev_zret dX3_take_10 rfl (by rcases (show z = 0 ∨ z = 1 by omega) with rfl | rfl <;> rfl) ?_
      exact t
  · by_cases dd2 : b = 49
    · subst dd2
      refine ev_start 0 (lv := [some (.ref 46), some (.int (nI 49))]) rfl (by decide) (Nat.le_of_ble_eq_true rfl) ?_
      refine ev_iload_n dX3_take_0 rfl ?_
      refine ev_bipush (nI 44) dX3_take_1 rfl ?_
      refine ev_icmp_neN 11 dX3_take_3 (by decide) (by omega) (by omega) (fun c3 => ?_) (fun c3 => ?_)
      · refine ev_iload_n dX3_take_11 rfl ?_
        refine ev_bipush (nI 49) dX3_take_12 rfl ?_
        refine ev_icmp_neN 22 dX3_take_14 (by decide) (by omega) (by omega) (fun c14 => ?_) (fun c14 => ?_)
        · omega
        · refine ev_aload_n dX3_take_17 rfl ?_
          refine ev_callV (cl_takeOne w q) ok_X3_takeOne ml_X3_48 rfl rfl rfl rfl (Nat.le_of_ble_eq_true rfl) dX3_take_18 ?_
          intro rv h1 t
          obtain ⟨z, hz, rfl⟩ := nz t
          refine ev_zret dX3_take_21 rfl (by rcases (show z = 0 ∨ z = 1 by omega) with rfl | rfl <;> rfl) ?_
          exact t
      · omega
    · by_cases dd3 : b = 50 ∨ b = 51
      · skip
        refine ev_start 0 (lv := [some (.ref 46), some (.int (nI b))]) rfl (by decide) (Nat.le_of_ble_eq_true rfl) ?_
        refine ev_iload_n dX3_take_0 rfl ?_
        refine ev_bipush (nI 44) dX3_take_1 rfl ?_
        refine ev_icmp_neN 11 dX3_take_3 (by decide) (by omega) (by omega) (fun c3 => ?_) (fun c3 => ?_)
        · refine ev_iload_n dX3_take_11 rfl ?_
          refine ev_bipush (nI 49) dX3_take_12 rfl ?_
          refine ev_icmp_neN 22 dX3_take_14 (by decide) (by omega) (by omega) (fun c14 => ?_) (fun c14 => ?_)
          · refine ev_iload_n dX3_take_22 rfl ?_
            refine ev_bipush (nI 50) dX3_take_23 rfl ?_
            refine ev_icmp_eqN 34 dX3_take_25 (by decide) (by omega) (by omega) (fun c25 => ?_) (fun c25 => ?_)
            · refine ev_aload_n dX3_take_34 rfl ?_
              refine ev_iload_n dX3_take_35 rfl ?_
              refine ev_bipush (nI 48) dX3_take_36 rfl ?_
              refine ev_isubN dX3_take_38 (by omega) ?_
              refine ev_callV (cl_takeDigit dd3 w q) ok_X3_takeDigit ml_X3_51 rfl rfl rfl rfl (Nat.le_of_ble_eq_true rfl) dX3_take_39 ?_
              intro rv h1 t
              obtain ⟨z, hz, rfl⟩ := nz t
              refine ev_zret dX3_take_42 rfl (by rcases (show z = 0 ∨ z = 1 by omega) with rfl | rfl <;> rfl) ?_
              exact t
            · refine ev_iload_n dX3_take_28 rfl ?_
              refine ev_bipush (nI 51) dX3_take_29 rfl ?_
              refine ev_icmp_neN 43 dX3_take_31 (by decide) (by omega) (by omega) (fun c31 => ?_) (fun c31 => ?_)
              · omega
              · refine ev_aload_n dX3_take_34 rfl ?_
                refine ev_iload_n dX3_take_35 rfl ?_
                refine ev_bipush (nI 48) dX3_take_36 rfl ?_
                refine ev_isubN dX3_take_38 (by omega) ?_
                refine ev_callV (cl_takeDigit dd3 w q) ok_X3_takeDigit ml_X3_51 rfl rfl rfl rfl (Nat.le_of_ble_eq_true rfl) dX3_take_39 ?_
                intro rv h1 t
                obtain ⟨z, hz, rfl⟩ := nz t
                refine ev_zret dX3_take_42 rfl (by rcases (show z = 0 ∨ z = 1 by omega) with rfl | rfl <;> rfl) ?_
                exact t
          · omega
        · omega
      · by_cases dd4 : 97 ≤ b ∧ b ≤ 103
        · skip
          refine ev_start 0 (lv := [some (.ref 46), some (.int (nI b))]) rfl (by decide) (Nat.le_of_ble_eq_true rfl) ?_
          refine ev_iload_n dX3_take_0 rfl ?_
          refine ev_bipush (nI 44) dX3_take_1 rfl ?_
          refine ev_icmp_neN 11 dX3_take_3 (by decide) (by omega) (by omega) (fun c3 => ?_) (fun c3 => ?_)
          · refine ev_iload_n dX3_take_11 rfl ?_
            refine ev_bipush (nI 49) dX3_take_12 rfl ?_
            refine ev_icmp_neN 22 dX3_take_14 (by decide) (by omega) (by omega) (fun c14 => ?_) (fun c14 => ?_)
            · refine ev_iload_n dX3_take_22 rfl ?_
              refine ev_bipush (nI 50) dX3_take_23 rfl ?_
              refine ev_icmp_eqN 34 dX3_take_25 (by decide) (by omega) (by omega) (fun c25 => ?_) (fun c25 => ?_)
              · omega
              · refine ev_iload_n dX3_take_28 rfl ?_
                refine ev_bipush (nI 51) dX3_take_29 rfl ?_
                refine ev_icmp_neN 43 dX3_take_31 (by decide) (by omega) (by omega) (fun c31 => ?_) (fun c31 => ?_)
                · refine ev_iload_n dX3_take_43 rfl ?_
                  refine ev_bipush (nI 97) dX3_take_44 rfl ?_
                  refine ev_icmp_ltN 70 dX3_take_46 (by decide) (by omega) (by omega) (fun c46 => ?_) (fun c46 => ?_)
                  · omega
                  · refine ev_iload_n dX3_take_49 rfl ?_
                    refine ev_bipush (nI 103) dX3_take_50 rfl ?_
                    refine ev_icmp_gtN 70 dX3_take_52 (by decide) (by omega) (by omega) (fun c52 => ?_) (fun c52 => ?_)
                    · omega
                    · refine ev_aload_n dX3_take_55 rfl ?_
                      refine ev_iload_n dX3_take_56 rfl ?_
                      refine ev_bipush (nI 97) dX3_take_57 rfl ?_
                      refine ev_isubN dX3_take_59 (by omega) ?_
                      refine ev_callV (cl_takeLetter dd4 w q) ok_X3_takeLetter ml_X3_54 rfl rfl rfl rfl (Nat.le_of_ble_eq_true rfl) dX3_take_60 ?_
                      intro rv h1 t
                      obtain ⟨z, hz, rfl⟩ := nz t
                      refine ev_if_eqN 70 dX3_take_63 (by decide) (by omega) (fun c63 => ?_) (fun c63 => ?_)
                      · refine ev_iconst (nI 0) dX3_take_70 rfl ?_
                        refine ev_zret dX3_take_71 rfl rfl ?_
                        rw [c63] at t; exact t
                      · refine ev_iconst (nI 1) dX3_take_66 rfl ?_
                        refine ev_goto 71 dX3_take_67 (by decide) ?_
                        refine ev_zret dX3_take_71 rfl rfl ?_
                        rw [show z = 1 by omega] at t; exact t
                · omega
            · omega
          · omega
        · have e := pst_no (s := s) dd1 dd2 dd3 dd4
          rw [e]
          refine ev_start 0 (lv := [some (.ref 46), some (.int (nI b))]) rfl (by decide) (Nat.le_of_ble_eq_true rfl) ?_
          refine ev_iload_n dX3_take_0 rfl ?_
          refine ev_bipush (nI 44) dX3_take_1 rfl ?_
          refine ev_icmp_neN 11 dX3_take_3 (by decide) (by omega) (by omega) (fun c3 => ?_) (fun c3 => ?_)
          · refine ev_iload_n dX3_take_11 rfl ?_
            refine ev_bipush (nI 49) dX3_take_12 rfl ?_
            refine ev_icmp_neN 22 dX3_take_14 (by decide) (by omega) (by omega) (fun c14 => ?_) (fun c14 => ?_)
            · refine ev_iload_n dX3_take_22 rfl ?_
              refine ev_bipush (nI 50) dX3_take_23 rfl ?_
              refine ev_icmp_eqN 34 dX3_take_25 (by decide) (by omega) (by omega) (fun c25 => ?_) (fun c25 => ?_)
              · omega
              · refine ev_iload_n dX3_take_28 rfl ?_
                refine ev_bipush (nI 51) dX3_take_29 rfl ?_
                refine ev_icmp_neN 43 dX3_take_31 (by decide) (by omega) (by omega) (fun c31 => ?_) (fun c31 => ?_)
                · refine ev_iload_n dX3_take_43 rfl ?_
                  refine ev_bipush (nI 97) dX3_take_44 rfl ?_
                  refine ev_icmp_ltN 70 dX3_take_46 (by decide) (by omega) (by omega) (fun c46 => ?_) (fun c46 => ?_)
                  · refine ev_iconst (nI 0) dX3_take_70 rfl ?_
                    refine ev_zret dX3_take_71 rfl rfl ?_
                    exact ⟨same.rf, Or.inl ⟨rfl, rfl⟩⟩
                  · refine ev_iload_n dX3_take_49 rfl ?_
                    refine ev_bipush (nI 103) dX3_take_50 rfl ?_
                    refine ev_icmp_gtN 70 dX3_take_52 (by decide) (by omega) (by omega) (fun c52 => ?_) (fun c52 => ?_)
                    · refine ev_iconst (nI 0) dX3_take_70 rfl ?_
                      refine ev_zret dX3_take_71 rfl rfl ?_
                      exact ⟨same.rf, Or.inl ⟨rfl, rfl⟩⟩
                    · omega
                · omega
            · omega
          · omega
def rdE : Nat ⊕ List Nat → Int32
  | .inl p => nI p
  | .inr _ => -2
theorem cl_read {I : List Nat} (r : rowIs h 47 I) (o : okI I) : Cl G (d + 3) M_X3_read [.ref 46] h (fun rv h' => rv = some (.int (rdE (prF I I.length 0 (0, 0, 0, [])))) ∧ sP h h' ∧ ∀ K, prF I I.length 0 (0, 0, 0, []) = .inr K → rowIs h' 49 K ∧ okL K) := by
  have l60 := o.1
  generalize hR : prF I I.length 0 (0, 0, 0, []) = R
  have loop : ∀ (k p : Nat) (s : Ps) (h1 : MH), p + k = I.length → wPs s → pC h1 s → sP h h1 → prF I k p s = R → Ev G (d + 3) M_X3_read 15 [some (.ref 46), some (.int (nI p))] [] h1 (fun rv h' => rv = some (.int (rdE R)) ∧ sP h h' ∧ ∀ K, R = .inr K → rowIs h' 49 K ∧ okL K) := by
    intro k
    induction k with
    | zero =>
      intro p s h1 hp w q s1 e
      obtain rfl : p = I.length := by omega
      have r47 := rowIs_same r s1 (by decide) (by decide)
      have wc := wPs_c w
      have sl := w.1
      rw [prF] at e
      by_cases c0 : s.1 = 0
      · rw [if_pos c0] at e
        have e1 : h1.1 46 2 = nI 0 := by rw [q.1, c0]
        refine ev_iload_n dX3_read_15 rfl ?_
        refine ev_aload_n dX3_read_16 rfl ?_
        refine ev_getR fl_X3_14 rfl rfl dX3_read_17 ?_
        refine ev_getIv (r47.1) fl_X3_27 rfl rfl dX3_read_20 ?_
        refine ev_icmp_geN 50 dX3_read_23 (by decide) (by omega) (by omega) (fun c23 => ?_) (fun c23 => ?_)
        · refine ev_aload_n dX3_read_50 rfl ?_
          refine ev_getIv (e1) fl_X3_23 rfl rfl dX3_read_51 ?_
          refine ev_if_neN 65 dX3_read_54 (by decide) (by omega) (fun c54 => ?_) (fun c54 => ?_)
          · exact absurd rfl c54
          · refine ev_aload_n dX3_read_57 rfl ?_
            refine ev_getR fl_X3_14 rfl rfl dX3_read_58 ?_
            refine ev_getIv (r47.1) fl_X3_27 rfl rfl dX3_read_61 ?_
            refine ev_iret dX3_read_64 rfl ?_
            exact ⟨by rw [← e]; rfl, s1, fun K z => by rw [← e] at z; cases z⟩
        · omega
      · rw [if_neg c0] at e
        have kl := w.2.2.1
        refine ev_iload_n dX3_read_15 rfl ?_
        refine ev_aload_n dX3_read_16 rfl ?_
        refine ev_getR fl_X3_14 rfl rfl dX3_read_17 ?_
        refine ev_getIv (r47.1) fl_X3_27 rfl rfl dX3_read_20 ?_
        refine ev_icmp_geN 50 dX3_read_23 (by decide) (by omega) (by omega) (fun c23 => ?_) (fun c23 => ?_)
        · refine ev_aload_n dX3_read_50 rfl ?_
          refine ev_getIv (q.1) fl_X3_23 rfl rfl dX3_read_51 ?_
          refine ev_if_neN 65 dX3_read_54 (by decide) (by omega) (fun c54 => ?_) (fun c54 => ?_)
          · refine ev_aload_n dX3_read_65 rfl ?_
            refine ev_getR fl_X3_20 rfl rfl dX3_read_66 ?_
            refine ev_aload_n dX3_read_69 rfl ?_
            refine ev_getIv (q.2.1 c0) fl_X3_38 rfl rfl dX3_read_70 ?_
            refine ev_callV (cl_addR row_49 q.2.2.2 (by omega)) ok_X7_add ml_X3_41 rfl rfl rfl rfl (Nat.le_of_ble_eq_true rfl) dX3_read_73 ?_
            rintro rv h2 ⟨rfl, s2, r2⟩
            refine ev_pop dX3_read_76 rfl ?_
            refine ev_bipush (-2) dX3_read_77 rfl ?_
            refine ev_iret dX3_read_79 rfl ?_
            exact ⟨by rw [← e]; rfl, s1.tr (s2.mono (fun k hk => hk.2)), fun K z => by
            rw [← e] at z
            cases z
            exact ⟨r2, okL_snoc w.2.1 (by omega) (wc c0)⟩⟩
          · omega
        · omega
    | succ k ih =>
      intro p s h1 hp w q s1 e
      have r47 := rowIs_same r s1 (by decide) (by decide)
      have ob := o.2 p (by omega)
      rw [prF] at e
      refine ev_iload_n dX3_read_15 rfl ?_
      refine ev_aload_n dX3_read_16 rfl ?_
      refine ev_getR fl_X3_14 rfl rfl dX3_read_17 ?_
      refine ev_getIv (r47.1) fl_X3_27 rfl rfl dX3_read_20 ?_
      refine ev_icmp_geN 50 dX3_read_23 (by decide) (by omega) (by omega) (fun c23 => ?_) (fun c23 => ?_)
      · omega
      · refine ev_aload_n dX3_read_26 rfl ?_
        refine ev_aload_n dX3_read_27 rfl ?_
        refine ev_getR fl_X3_14 rfl rfl dX3_read_28 ?_
        refine ev_getR fl_X3_30 rfl rfl dX3_read_31 ?_
        refine ev_iload_n dX3_read_34 rfl ?_
        refine ev_ialdv (r47.2 p (by omega)) rfl dX3_read_35 (by omega) (by omega) ?_
        refine ev_callV (cl_take ob w q) ok_X3_take ml_X3_34 rfl rfl rfl rfl (Nat.le_of_ble_eq_true rfl) dX3_read_36 ?_
        rintro rv h2 ⟨s2, t⟩
        obtain ⟨z, hz, rfl⟩ : ∃ z, z < 2 ∧ rv = some (.int (nI z)) := by
          rcases t with ⟨_, e⟩ | ⟨_, _, e, _⟩
          · exact ⟨0, by decide, e⟩
          · exact ⟨1, by decide, e⟩
        refine ev_if_neN 44 dX3_read_39 (by decide) (by omega) (fun c39 => ?_) (fun c39 => ?_)
        · refine ev_inc1N dX3_read_44 (by decide) rfl ?_
          refine ev_goto 15 dX3_read_47 (by decide) ?_
          rcases t with ⟨t1, t2⟩ | ⟨s', t1, t2, t3⟩
          · exact absurd (nI_ij (by omega) (by omega) (Value.int.inj (Option.some.inj t2))) c39
          · rw [t1] at e
            exact ih (p + 1) s' h2 (by omega) (wPs_s w t1) t3 (s1.tr s2) e
        · refine ev_iload_n dX3_read_42 rfl ?_
          refine ev_iret dX3_read_43 rfl ?_
          rcases t with ⟨t1, t2⟩ | ⟨s', t1, t2, t3⟩
          · rw [t1] at e
            exact ⟨by rw [← e]; rfl, s1.tr s2, fun K z => by rw [← e] at z; cases z⟩
          · exact absurd (nI_ij (by omega) (by omega) (Value.int.inj (Option.some.inj t2))) (by omega)
  refine ev_start 1 (lv := [some (.ref 46), none]) rfl (by decide) (Nat.le_of_ble_eq_true rfl) ?_
  refine ev_aload_n dX3_read_0 rfl ?_
  refine ev_getR fl_X3_20 rfl rfl dX3_read_1 ?_
  refine ev_iconst (nI 0) dX3_read_4 rfl ?_
  refine ev_putI fp_X3_27 rfl rfl rfl rfl dX3_read_5 ?_
  refine ev_aload_n dX3_read_8 rfl ?_
  refine ev_iconst (nI 0) dX3_read_9 rfl ?_
  refine ev_putI fp_X3_23 rfl rfl rfl rfl dX3_read_10 ?_
  refine ev_iconst (nI 0) dX3_read_13 rfl ?_
  refine ev_ist1 dX3_read_14 (by decide) rfl ?_
  exact loop I.length 0 (0, 0, 0, []) _ (by omega) ⟨by decide, okL_nil, by decide, fun z => absurd z (by decide), fun z => absurd z (by decide), fun z => absurd z (by decide)⟩ ⟨mp_eq _ _ _ _, fun z => absurd rfl z, fun z => absurd z (show ¬ 2 ≤ 0 by decide), rowIs_46 ⟨mp_eq _ _ _ _, hold_nil _⟩⟩ ((same_put (by decide)).tr (same_put (by decide))) hR
def prA : Nat ⊕ List Nat → Int32
  | .inl p => -1000 - nI p
  | .inr K => nI K.length
def prL (L : List Nat) : Nat ⊕ List Nat → List Nat
  | .inl _ => L
  | .inr K => K
def prR (I : List Nat) : Nat ⊕ List Nat := prF I I.length 0 (0, 0, 0, [])
theorem prF_p {I : List Nat} {q : Nat} : ∀ (k p : Nat) (s : Ps), prF I k p s = .inl q → q ≤ p + k
  | 0, p, s => fun e => by
    rw [prF] at e
    by_cases c : s.1 = 0
    · rw [if_pos c] at e; cases e; omega
    · rw [if_neg c] at e; cases e
  | k + 1, p, s => fun e => by
    rw [prF] at e
    cases hp : pst (I.getD p 0) s with
    | none => rw [hp] at e; cases e; omega
    | some s' => rw [hp] at e; have := prF_p k (p + 1) s' e; omega
theorem cl_parseC {I L : List Nat} (r : rowIs h 47 I) (o : okI I) (rl : rowIs h 40 L) : Cl G (d + 4) M_X11_parse [.ref 0] h (fun rv h' => rv = some (.int (prA (prR I))) ∧ same (fun k => (k < 40 ∨ 45 < k) ∧ (k < 46 ∨ 50 < k)) h h' ∧ rowIs h' 47 [] ∧ rowIs h' 40 (prL L (prR I)) ∧ (okL L → okL (prL L (prR I)))) := by
  unfold prR
  have l60 := o.1
  have bnd := fun q => prF_p (I := I) (q := q) I.length 0 (0, 0, 0, [])
  have cr := cl_read (G := G) (d := d) r o
  generalize prF I I.length 0 (0, 0, 0, []) = R at *
  cases R with
  | inl p =>
    have hp := bnd p rfl
    refine ev_start 1 (lv := [some (.ref 0), none]) rfl (by decide) (Nat.le_of_ble_eq_true rfl) ?_
    refine ev_aload_n dX11_parse_0 rfl ?_
    refine ev_getR fl_X11_60 rfl rfl dX11_parse_1 ?_
    refine ev_callV (cr) ok_X3_read ml_X11_300 rfl rfl rfl rfl (Nat.le_of_ble_eq_true rfl) dX11_parse_4 ?_
    rintro rv h1 ⟨rfl, s1, -⟩
    refine ev_ist1 dX11_parse_7 (by decide) rfl ?_
    refine ev_aload_n dX11_parse_8 rfl ?_
    refine ev_getR fl_X11_60 rfl rfl dX11_parse_9 ?_
    refine ev_getR fl_X11_297 rfl rfl dX11_parse_12 ?_
    refine ev_iconst (nI 0) dX11_parse_15 rfl ?_
    refine ev_putI fp_X11_148 rfl rfl rfl rfl dX11_parse_16 ?_
    refine ev_iload_n dX11_parse_19 rfl ?_
    refine ev_bipush (-2) dX11_parse_20 rfl ?_
    refine ev_icmp_eq 31 dX11_parse_22 (by decide) (fun c22 => ?_) (fun c22 => ?_)
    · exact absurd c22 (nI_m2 (by omega))
    · refine ev_sipush (-1000) dX11_parse_25 rfl ?_
      refine ev_iload_n dX11_parse_28 rfl ?_
      refine ev_isub dX11_parse_29 ?_
      refine ev_iret dX11_parse_30 rfl ?_
      refine ⟨rfl, (s1.mono (fun k hk => by omega)).tr (same_put (by decide)), ⟨mp_eq _ _ _ _, hold_nil _⟩, ?_, id⟩
      exact rowIs_same (rowIs_same rl s1 (by decide) (by decide)) (same_put (P := fun k => k ≠ 47) (by simp)) (by decide) (by decide)
  | inr K =>
    refine ev_start 1 (lv := [some (.ref 0), none]) rfl (by decide) (Nat.le_of_ble_eq_true rfl) ?_
    refine ev_aload_n dX11_parse_0 rfl ?_
    refine ev_getR fl_X11_60 rfl rfl dX11_parse_1 ?_
    refine ev_callV (cr) ok_X3_read ml_X11_300 rfl rfl rfl rfl (Nat.le_of_ble_eq_true rfl) dX11_parse_4 ?_
    rintro rv h1 ⟨rfl, s1, rK⟩
    obtain ⟨rK, oK⟩ := rK K rfl
    have r2 : rowIs (m_put h1 47 1 (nI 0)) 49 K := ⟨by rw [mp_k (by decide)]; exact rK.1, by rw [mp_k (by decide)]; exact rK.2⟩
    have k24 := oK.1
    refine ev_ist1 dX11_parse_7 (by decide) rfl ?_
    refine ev_aload_n dX11_parse_8 rfl ?_
    refine ev_getR fl_X11_60 rfl rfl dX11_parse_9 ?_
    refine ev_getR fl_X11_297 rfl rfl dX11_parse_12 ?_
    refine ev_iconst (nI 0) dX11_parse_15 rfl ?_
    refine ev_putI fp_X11_148 rfl rfl rfl rfl dX11_parse_16 ?_
    refine ev_iload_n dX11_parse_19 rfl ?_
    refine ev_bipush (-2) dX11_parse_20 rfl ?_
    refine ev_icmp_eq 31 dX11_parse_22 (by decide) (fun c22 => ?_) (fun c22 => ?_)
    · refine ev_aload_n dX11_parse_31 rfl ?_
      refine ev_getR fl_X11_53 rfl rfl dX11_parse_32 ?_
      refine ev_getR fl_X11_253 rfl rfl dX11_parse_35 ?_
      refine ev_aload_n dX11_parse_38 rfl ?_
      refine ev_getR fl_X11_60 rfl rfl dX11_parse_39 ?_
      refine ev_getR fl_X11_303 rfl rfl dX11_parse_42 ?_
      refine ev_callV (cl_copyFrom row_40 row_49 (by decide) (by decide) r2.1 (by omega) (by omega)) ok_X7_copyFrom ml_X11_293 rfl rfl rfl rfl (Nat.le_of_ble_eq_true rfl) dX11_parse_45 (kV ?_)
      refine ev_aload_n dX11_parse_48 rfl ?_
      refine ev_getR fl_X11_53 rfl rfl dX11_parse_49 ?_
      refine ev_getR fl_X11_253 rfl rfl dX11_parse_52 ?_
      refine ev_getIv ((rowIs_copy (p := 40) r2).1) fl_X11_148 rfl rfl dX11_parse_55 ?_
      refine ev_iret dX11_parse_58 rfl ?_
      refine ⟨rfl, ((s1.mono (fun k hk => by omega)).tr (same_put (by decide))).tr (same_copy (by decide) (by decide)), ?_, rowIs_copy r2, fun _ => oK⟩
      exact rowIs_same (P := fun k => k ≠ 40 ∧ k ≠ 41) ⟨mp_eq _ _ _ _, hold_nil _⟩ (same_copy (by decide) (by decide)) (by decide) (by decide)
    · exact absurd rfl c22
end RDC
