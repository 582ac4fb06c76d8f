section LIST7
variable {G : MG} {d : Nat} {h : MH}
def Hit (L : List Nat) (s : Nat) : Prop := ∀ i, i < L.length → L.getD i 0 &&& mk s ≠ 0
noncomputable def hnF (L : List Nat) : Nat → Nat
  | 0 => 8
  | s + 1 => if pop s < hnF L s ∧ b01 (Hit L s) = 1 then pop s else hnF L s
theorem hnF_le (L : List Nat) (s : Nat) (hs : s ≤ 128) : hnF L s ≤ 8 := by
  induction s with
  | zero => exact Nat.le_refl _
  | succ s ih =>
    have := pop_le s (by omega)
    rw [hnF]
    by_cases c : pop s < hnF L s ∧ b01 (Hit L s) = 1
    · rw [if_pos c]; omega
    · rw [if_neg c]; exact ih (by omega)
noncomputable def hnE (s : Nat) : Int32 := if 7 < s then -2 else nI s
def spF (m : Nat) : Nat → Nat
  | 0 => 0
  | v + 1 => spF m v ||| (if 0 < ex m v then 2 ^ v else 0)
theorem spF_lt (m v : Nat) : spF m v < 2 ^ v := by
  induction v with
  | zero => exact Nat.one_pos
  | succ v ih =>
    have p := Nat.pow_pos (n := v) (show 0 < 2 by decide)
    rw [spF]
    refine Nat.or_lt_two_pow (Nat.lt_of_lt_of_le ih (Nat.pow_le_pow_right (by decide) (by omega))) ?_
    rw [Nat.pow_succ]
    by_cases c : 0 < ex m v
    · rw [if_pos c]; omega
    · rw [if_neg c]; omega
theorem spF_bit (m v u : Nat) : (spF m v).testBit u = true ↔ u < v ∧ 0 < ex m u := by
  induction v with
  | zero => rw [spF, Nat.zero_testBit]; exact ⟨fun z => absurd z (by decide), fun z => absurd z.1 (Nat.not_lt_zero _)⟩
  | succ v ih =>
    rw [spF, Nat.testBit_or, Bool.or_eq_true, ih]
    by_cases c : 0 < ex m v
    · rw [if_pos c, Nat.testBit_two_pow, decide_eq_true_eq]
      constructor
      · rintro (z | rfl)
        · exact ⟨by omega, z.2⟩
        · exact ⟨by omega, c⟩
      · intro z
        by_cases e : v = u
        · exact Or.inr e
        · exact Or.inl ⟨by omega, z.2⟩
    · rw [if_neg c, Nat.zero_testBit]
      constructor
      · rintro (z | z)
        · exact ⟨by omega, z.2⟩
        · exact absurd z (by decide)
      · intro z
        by_cases e : u = v
        · subst e; exact absurd z.2 c
        · exact Or.inl ⟨by omega, z.2⟩
theorem sp_hit {m s : Nat} (hm : m < 16384) (hs : s < 128) : spF m 7 &&& s = 0 ↔ m &&& mk s = 0 := by
  constructor
  · intro e
    refine ex_ext (Nat.lt_of_le_of_lt Nat.and_le_left hm) (by decide) (fun w hw => ?_)
    rw [ex_mk hs hw]
    by_cases c : s.testBit w = true
    · rw [if_pos c]
      by_cases q : 0 < ex m w
      · have t : (spF m 7 &&& s).testBit w = true := by rw [Nat.testBit_and, (spF_bit m 7 w).mpr ⟨hw, q⟩, c]; rfl
        rw [e, Nat.zero_testBit] at t
        exact absurd t (by decide)
      · rw [show ex 0 w = 0 by unfold ex; rw [Nat.zero_div]]; omega
    · rw [if_neg c, show ex 0 w = 0 by unfold ex; rw [Nat.zero_div]]
  · intro e
    refine Nat.eq_of_testBit_eq (fun w => ?_)
    rw [Nat.zero_testBit]
    cases hb : (spF m 7 &&& s).testBit w with
    | false => rfl
    | true =>
      rw [Nat.testBit_and, Bool.and_eq_true, spF_bit] at hb
      have := ex_mk (m := m) hs hb.1.1
      rw [e, if_pos hb.2, show ex 0 w = 0 by unfold ex; rw [Nat.zero_div]] at this
      omega
theorem cl_hitsAll {L : List Nat} {s : Nat} (r : rowIs h 40 L) (o : okL L) (hs : s < 128) : Cl G (d + 1) M_X5_hitsAll [.ref 39, .int (nI (mk s))] h (qI (nI (b01 (Hit L s))) h) := by
  have l24 := o.1
  have mkl := (mk_ok s hs).1
  have loop : ∀ (k i : Nat), i + k = L.length → (∀ j, j < i → L.getD j 0 &&& mk s ≠ 0) → Ev G (d + 1) M_X5_hitsAll 2 [some (.ref 39), some (.int (nI (mk s))), some (.int (nI i))] [] h (qI (nI (b01 (Hit L s))) h) := by
    intro k
    induction k with
    | zero =>
      intro i hi hw
      obtain rfl : i = L.length := by omega
      refine ev_iload_n dX5_hitsAll_2 rfl ?_
      refine ev_aload_n dX5_hitsAll_3 rfl ?_
      refine ev_getR fl_X5_14 rfl rfl dX5_hitsAll_4 ?_
      refine ev_getIv (r.1) fl_X5_26 rfl rfl dX5_hitsAll_7 ?_
      refine ev_icmp_geN 35 dX5_hitsAll_10 (by decide) (by omega) (by omega) (fun c10 => ?_) (fun c10 => ?_)
      · refine ev_iconst (nI 1) dX5_hitsAll_35 rfl ?_
        refine ev_zret dX5_hitsAll_36 rfl rfl ?_
        exact ⟨rv1 hw, rfl⟩
      · omega
    | succ k ih =>
      intro i hi hw
      have oi := o.2 i (by omega)
      have al : L.getD i 0 &&& mk s < 16384 := Nat.lt_of_le_of_lt Nat.and_le_left oi
      refine ev_iload_n dX5_hitsAll_2 rfl ?_
      refine ev_aload_n dX5_hitsAll_3 rfl ?_
      refine ev_getR fl_X5_14 rfl rfl dX5_hitsAll_4 ?_
      refine ev_getIv (r.1) fl_X5_26 rfl rfl dX5_hitsAll_7 ?_
      refine ev_icmp_geN 35 dX5_hitsAll_10 (by decide) (by omega) (by omega) (fun c10 => ?_) (fun c10 => ?_)
      · omega
      · refine ev_aload_n dX5_hitsAll_13 rfl ?_
        refine ev_getR fl_X5_14 rfl rfl dX5_hitsAll_14 ?_
        refine ev_getR fl_X5_34 rfl rfl dX5_hitsAll_17 ?_
        refine ev_iload_n dX5_hitsAll_20 rfl ?_
        refine ev_ialdv (r.2 i (by omega)) rfl dX5_hitsAll_21 (by omega) (by omega) ?_
        refine ev_iload_n dX5_hitsAll_22 rfl ?_
        refine ev_iandN dX5_hitsAll_23 ?_
        refine ev_if_neN 29 dX5_hitsAll_24 (by decide) (by omega) (fun c24 => ?_) (fun c24 => ?_)
        · refine ev_inc2N dX5_hitsAll_29 (by decide) rfl ?_
          refine ev_goto 2 dX5_hitsAll_32 (by decide) ?_
          exact ih (i + 1) (by omega) (fun j hj => by
          by_cases e : j = i
          · subst e; exact c24
          · exact hw j (by omega))
        · refine ev_iconst (nI 0) dX5_hitsAll_27 rfl ?_
          refine ev_zret dX5_hitsAll_28 rfl rfl ?_
          exact ⟨rv0 (fun z => z i (by omega) (by omega)), rfl⟩
  refine ev_start 1 (lv := [some (.ref 39), some (.int (nI (mk s))), none]) rfl (by decide) (Nat.le_of_ble_eq_true rfl) ?_
  refine ev_iconst (nI 0) dX5_hitsAll_0 rfl ?_
  refine ev_ist2 dX5_hitsAll_1 (by decide) rfl ?_
  exact loop L.length 0 (by omega) (fun j hj => absurd hj (Nat.not_lt_zero _))
theorem cl_smallestHittingSize {L : List Nat} (r : rowIs h 40 L) (o : okL L) : Cl G (d + 2) M_X5_smallestHittingSize [.ref 39] h (qI (hnE (hnF L 128)) h) := by
  have loop : ∀ (k s : Nat), s + k = 128 → Ev G (d + 2) M_X5_smallestHittingSize 5 [some (.ref 39), some (.int (nI (hnF L s))), some (.int (nI s))] [] h (qI (hnE (hnF L 128)) h) := by
    intro k
    induction k with
    | zero =>
      intro s hs
      obtain rfl : s = 128 := by omega
      have hl := hnF_le L 128 (by omega)
      generalize hnF L 128 = z at *
      refine ev_iload_n dX5_smallestHittingSize_5 rfl ?_
      refine ev_sipush (nI 128) dX5_smallestHittingSize_6 rfl ?_
      refine ev_icmp_geN 42 dX5_smallestHittingSize_9 (by decide) (by omega) (by omega) (fun c9 => ?_) (fun c9 => ?_)
      · refine ev_iload_n dX5_smallestHittingSize_42 rfl ?_
        refine ev_bipush (nI 7) dX5_smallestHittingSize_43 rfl ?_
        refine ev_icmp_leN 53 dX5_smallestHittingSize_45 (by decide) (by omega) (by omega) (fun c45 => ?_) (fun c45 => ?_)
        · refine ev_iload_n dX5_smallestHittingSize_53 rfl ?_
          refine ev_iret dX5_smallestHittingSize_54 rfl ?_
          exact ⟨by unfold hnE; rw [if_neg (by omega)], rfl⟩
        · refine ev_bipush (-2) dX5_smallestHittingSize_48 rfl ?_
          refine ev_goto 54 dX5_smallestHittingSize_50 (by decide) ?_
          refine ev_iret dX5_smallestHittingSize_54 rfl ?_
          exact ⟨by unfold hnE; rw [if_pos (by omega)], rfl⟩
      · exact absurd c9 (by decide)
    | succ k ih =>
      intro s hs
      have hl := hnF_le L s (by omega)
      have pl := pop_le s (by omega)
      have wl := b01_lt (Hit L s)
      have q := ih (s + 1) (by omega)
      rw [hnF] at q
      refine ev_iload_n dX5_smallestHittingSize_5 rfl ?_
      refine ev_sipush (nI 128) dX5_smallestHittingSize_6 rfl ?_
      refine ev_icmp_geN 42 dX5_smallestHittingSize_9 (by decide) (by omega) (by omega) (fun c9 => ?_) (fun c9 => ?_)
      · omega
      · refine ev_iload_n dX5_smallestHittingSize_12 rfl ?_
        refine ev_callS (cl_bc (by omega)) ok_J6_bitCount_0f7a4 ml_X5_71 rfl rfl (Nat.le_of_ble_eq_true rfl) dX5_smallestHittingSize_13 (kI ?_)
        refine ev_iload_n dX5_smallestHittingSize_16 rfl ?_
        refine ev_icmp_geN 36 dX5_smallestHittingSize_17 (by decide) (by omega) (by omega) (fun c17 => ?_) (fun c17 => ?_)
        · refine ev_inc2N dX5_smallestHittingSize_36 (by decide) rfl ?_
          refine ev_goto 5 dX5_smallestHittingSize_39 (by decide) ?_
          rw [if_neg (by omega)] at q; exact q
        · refine ev_aload_n dX5_smallestHittingSize_20 rfl ?_
          refine ev_iload_n dX5_smallestHittingSize_21 rfl ?_
          refine ev_callS (cl_maskOf (by omega)) ok_X6_maskOf ml_X5_76 rfl rfl (Nat.le_of_ble_eq_true rfl) dX5_smallestHittingSize_22 (kI ?_)
          refine ev_callV (cl_hitsAll r o (by omega)) ok_X5_hitsAll ml_X5_79 rfl rfl rfl rfl (Nat.le_of_ble_eq_true rfl) dX5_smallestHittingSize_25 (kI ?_)
          refine ev_if_eqN 36 dX5_smallestHittingSize_28 (by decide) (by omega) (fun c28 => ?_) (fun c28 => ?_)
          · refine ev_inc2N dX5_smallestHittingSize_36 (by decide) rfl ?_
            refine ev_goto 5 dX5_smallestHittingSize_39 (by decide) ?_
            rw [if_neg (by omega)] at q; exact q
          · refine ev_iload_n dX5_smallestHittingSize_31 rfl ?_
            refine ev_callS (cl_bc (by omega)) ok_J6_bitCount_0f7a4 ml_X5_71 rfl rfl (Nat.le_of_ble_eq_true rfl) dX5_smallestHittingSize_32 (kI ?_)
            refine ev_ist1 dX5_smallestHittingSize_35 (by decide) rfl ?_
            refine ev_inc2N dX5_smallestHittingSize_36 (by decide) rfl ?_
            refine ev_goto 5 dX5_smallestHittingSize_39 (by decide) ?_
            rw [if_pos ⟨by omega, by omega⟩] at q; exact q
  refine ev_start 2 (lv := [some (.ref 39), none, none]) rfl (by decide) (Nat.le_of_ble_eq_true rfl) ?_
  refine ev_bipush (nI 8) dX5_smallestHittingSize_0 rfl ?_
  refine ev_ist1 dX5_smallestHittingSize_2 (by decide) rfl ?_
  refine ev_iconst (nI 0) dX5_smallestHittingSize_3 rfl ?_
  refine ev_ist2 dX5_smallestHittingSize_4 (by decide) rfl ?_
  exact loop 128 0 (by omega)
theorem cl_hittingNumberC {L : List Nat} (r : rowIs h 40 L) (o : okL L) : Cl G (d + 3) M_X11_hittingNumber [.ref 0] h (qI (hnE (hnF L 128)) h) := by
  refine ev_start 0 (lv := [some (.ref 0)]) rfl (by decide) (Nat.le_of_ble_eq_true rfl) ?_
  refine ev_aload_n dX11_hittingNumber_0 rfl ?_
  refine ev_getR fl_X11_53 rfl rfl dX11_hittingNumber_1 ?_
  refine ev_callV (cl_smallestHittingSize r o) ok_X5_smallestHittingSize ml_X11_290 rfl rfl rfl rfl (Nat.le_of_ble_eq_true rfl) dX11_hittingNumber_4 (kI ?_)
  refine ev_iret dX11_hittingNumber_7 rfl ?_
  exact ⟨by with_reducible rfl, rfl⟩
theorem cl_support {m : Nat} (hm : m < 16384) : Cl G (d + 1) M_X12_support [.int (nI m)] h (qI (nI (spF m 7)) h) := by
  have loop : ∀ (k v : Nat), v + k = 7 → Ev G (d + 1) M_X12_support 4 [some (.int (nI m)), some (.int (nI (spF m v))), some (.int (nI v))] [] h (qI (nI (spF m 7)) h) := by
    intro k
    induction k with
    | zero =>
      intro v hv
      obtain rfl : v = 7 := by omega
      refine ev_iload_n dX12_support_4 rfl ?_
      refine ev_bipush (nI 7) dX12_support_5 rfl ?_
      refine ev_icmp_geN 34 dX12_support_7 (by decide) (by omega) (by omega) (fun c7 => ?_) (fun c7 => ?_)
      · refine ev_iload_n dX12_support_34 rfl ?_
        refine ev_iret dX12_support_35 rfl ?_
        exact ⟨rfl, rfl⟩
      · omega
    | succ k ih =>
      intro v hv
      have xl := ex_lt m v
      have p7 := pow7 (v := v) (by omega)
      have q := ih (v + 1) (by omega)
      rw [spF] at q
      refine ev_iload_n dX12_support_4 rfl ?_
      refine ev_bipush (nI 7) dX12_support_5 rfl ?_
      refine ev_icmp_geN 34 dX12_support_7 (by decide) (by omega) (by omega) (fun c7 => ?_) (fun c7 => ?_)
      · omega
      · refine ev_iload_n dX12_support_10 rfl ?_
        refine ev_iload_n dX12_support_11 rfl ?_
        refine ev_iload_n dX12_support_12 rfl ?_
        refine ev_callS (cl_exponentOfM (by omega) (by omega)) ok_X12_exponentOf ml_X12_128 rfl rfl (Nat.le_of_ble_eq_true rfl) dX12_support_13 (kI ?_)
        refine ev_if_leN 25 dX12_support_16 (by decide) (by omega) (fun c16 => ?_) (fun c16 => ?_)
        · refine ev_iconst (nI 0) dX12_support_25 rfl ?_
          refine ev_iorN dX12_support_26 ?_
          refine ev_ist1 dX12_support_27 (by decide) rfl ?_
          refine ev_inc2N dX12_support_28 (by decide) rfl ?_
          refine ev_goto 4 dX12_support_31 (by decide) ?_
          rw [if_neg (by omega)] at q; exact q
        · refine ev_iconst (nI 1) dX12_support_19 rfl ?_
          refine ev_iload_n dX12_support_20 rfl ?_
          refine ev_ishlN dX12_support_21 (by omega) (by rw [Nat.one_mul]; omega) ?_
          rw [Nat.one_mul]
          refine ev_goto 26 dX12_support_22 (by decide) ?_
          refine ev_iorN dX12_support_26 ?_
          refine ev_ist1 dX12_support_27 (by decide) rfl ?_
          refine ev_inc2N dX12_support_28 (by decide) rfl ?_
          refine ev_goto 4 dX12_support_31 (by decide) ?_
          rw [if_pos (by omega)] at q; exact q
  refine ev_start 2 (lv := [some (.int (nI m)), none, none]) rfl (by decide) (Nat.le_of_ble_eq_true rfl) ?_
  refine ev_iconst (nI 0) dX12_support_0 rfl ?_
  refine ev_ist1 dX12_support_1 (by decide) rfl ?_
  refine ev_iconst (nI 0) dX12_support_2 rfl ?_
  refine ev_ist2 dX12_support_3 (by decide) rfl ?_
  exact loop 7 0 (by omega)
theorem cl_hittingNumberM {L : List Nat} (r : lM h L) (o : okL L) : Cl G (d + 2) M_X12_hittingNumber [.ref 67] h (qI (hnE (hnF L 128)) h) := by
  have l24 := o.1
  have loop : ∀ (k s : Nat) (x3 x4 : Option Value), s + k = 128 → Ev G (d + 2) M_X12_hittingNumber 5 [some (.ref 67), some (.int (hnE (hnF L s))), some (.int (nI s)), x3, x4] [] h (qI (hnE (hnF L 128)) h) := by
    intro k
    induction k with
    | zero =>
      intro s x3 x4 hs
      obtain rfl : s = 128 := by omega
      refine ev_iload_n dX12_hittingNumber_5 rfl ?_
      refine ev_sipush (nI 128) dX12_hittingNumber_6 rfl ?_
      refine ev_icmp_geN 90 dX12_hittingNumber_9 (by decide) (by omega) (by omega) (fun c9 => ?_) (fun c9 => ?_)
      · refine ev_iload_n dX12_hittingNumber_90 rfl ?_
        refine ev_iret dX12_hittingNumber_91 rfl ?_
        exact ⟨rfl, rfl⟩
      · exact absurd c9 (by decide)
    | succ k ih =>
      intro s x3 x4 hs
      have hl := hnF_le L s (by omega)
      have pl := pop_le s (by omega)
      have q := ih (s + 1)
      rw [hnF] at q
      have fin : ∀ (b : Nat) (x4 : Option Value), b < 2 → (b = 1 ↔ Hit L s) → Ev G (d + 2) M_X12_hittingNumber 57 [some (.ref 67), some (.int (hnE (hnF L s))), some (.int (nI s)), some (.int (nI b)), x4] [] h (qI (hnE (hnF L 128)) h) := by
        intro b x4 hb hbi
        have hw : b = b01 (Hit L s) := by
          by_cases z : Hit L s
          · rw [b01_t z]; exact hbi.mpr z
          · rw [b01_f z]; have : b ≠ 1 := fun y => z (hbi.mp y); omega
        by_cases c7 : 7 < hnF L s
        · have e8 : hnF L s = 8 := by omega
          rw [show hnE (hnF L s) = -2 by unfold hnE; rw [if_pos c7]]
          refine ev_iload_n dX12_hittingNumber_57 rfl ?_
          refine ev_if_eqN 82 dX12_hittingNumber_58 (by decide) (by omega) (fun c58 => ?_) (fun c58 => ?_)
          · refine ev_iload_n dX12_hittingNumber_82 rfl ?_
            refine ev_ist1 dX12_hittingNumber_83 (by decide) rfl ?_
            refine ev_inc2N dX12_hittingNumber_84 (by decide) rfl ?_
            refine ev_goto 5 dX12_hittingNumber_87 (by decide) ?_
            rw [if_neg (by omega), show hnE (hnF L s) = -2 by unfold hnE; rw [if_pos c7]] at q; exact q _ _ (by omega)
          · refine ev_iload_n dX12_hittingNumber_61 rfl ?_
            refine ev_bipush (-2) dX12_hittingNumber_62 rfl ?_
            refine ev_icmp_eq 75 dX12_hittingNumber_64 (by decide) (fun c64 => ?_) (fun c64 => ?_)
            · refine ev_iload_n dX12_hittingNumber_75 rfl ?_
              refine ev_callS (cl_bcM (by omega)) ok_X12_bitCount ml_X12_109 rfl rfl (Nat.le_of_ble_eq_true rfl) dX12_hittingNumber_76 (kI ?_)
              refine ev_goto 83 dX12_hittingNumber_79 (by decide) ?_
              refine ev_ist1 dX12_hittingNumber_83 (by decide) rfl ?_
              refine ev_inc2N dX12_hittingNumber_84 (by decide) rfl ?_
              refine ev_goto 5 dX12_hittingNumber_87 (by decide) ?_
              rw [if_pos (by omega), show hnE (pop s) = nI (pop s) by unfold hnE; rw [if_neg (by omega)]] at q; exact q _ _ (by omega)
            · exact absurd rfl c64
        · have eE : hnE (hnF L s) = nI (hnF L s) := by unfold hnE; rw [if_neg c7]
          rw [eE]
          refine ev_iload_n dX12_hittingNumber_57 rfl ?_
          refine ev_if_eqN 82 dX12_hittingNumber_58 (by decide) (by omega) (fun c58 => ?_) (fun c58 => ?_)
          · refine ev_iload_n dX12_hittingNumber_82 rfl ?_
            refine ev_ist1 dX12_hittingNumber_83 (by decide) rfl ?_
            refine ev_inc2N dX12_hittingNumber_84 (by decide) rfl ?_
            refine ev_goto 5 dX12_hittingNumber_87 (by decide) ?_
            rw [if_neg (by omega), eE] at q; exact q _ _ (by omega)
          · refine ev_iload_n dX12_hittingNumber_61 rfl ?_
            skip
            refine ev_bipush (-2) dX12_hittingNumber_62 rfl ?_
            refine ev_icmp_eq 75 dX12_hittingNumber_64 (by decide) (fun c64 => ?_) (fun c64 => ?_)
            · exact absurd c64 (nI_m2 (by omega))
            · refine ev_iload_n dX12_hittingNumber_67 rfl ?_
              refine ev_callS (cl_bcM (by omega)) ok_X12_bitCount ml_X12_109 rfl rfl (Nat.le_of_ble_eq_true rfl) dX12_hittingNumber_68 (kI ?_)
              refine ev_iload_n dX12_hittingNumber_71 rfl ?_
              refine ev_icmp_geN 82 dX12_hittingNumber_72 (by decide) (by omega) (by omega) (fun c72 => ?_) (fun c72 => ?_)
              · refine ev_iload_n dX12_hittingNumber_82 rfl ?_
                refine ev_ist1 dX12_hittingNumber_83 (by decide) rfl ?_
                refine ev_inc2N dX12_hittingNumber_84 (by decide) rfl ?_
                refine ev_goto 5 dX12_hittingNumber_87 (by decide) ?_
                rw [if_neg (by omega), eE] at q; exact q _ _ (by omega)
              · refine ev_iload_n dX12_hittingNumber_75 rfl ?_
                refine ev_callS (cl_bcM (by omega)) ok_X12_bitCount ml_X12_109 rfl rfl (Nat.le_of_ble_eq_true rfl) dX12_hittingNumber_76 (kI ?_)
                refine ev_goto 83 dX12_hittingNumber_79 (by decide) ?_
                refine ev_ist1 dX12_hittingNumber_83 (by decide) rfl ?_
                refine ev_inc2N dX12_hittingNumber_84 (by decide) rfl ?_
                refine ev_goto 5 dX12_hittingNumber_87 (by decide) ?_
                rw [if_pos (by omega), show hnE (pop s) = nI (pop s) by unfold hnE; rw [if_neg (by omega)]] at q; exact q _ _ (by omega)
      have inner : ∀ (j i b : Nat), i + j = L.length → b < 2 → (b = 1 ↔ ∀ u, u < i → L.getD u 0 &&& mk s ≠ 0) → Ev G (d + 2) M_X12_hittingNumber 17 [some (.ref 67), some (.int (hnE (hnF L s))), some (.int (nI s)), some (.int (nI b)), some (.int (nI i))] [] h (qI (hnE (hnF L 128)) h) := by
        intro j
        induction j with
        | zero =>
          intro i b hi hb hbi
          obtain rfl : i = L.length := by omega
          refine ev_iload dX12_hittingNumber_17 rfl ?_
          refine ev_aload_n dX12_hittingNumber_19 rfl ?_
          refine ev_getIv (r.1) fl_X12_251 rfl rfl dX12_hittingNumber_20 ?_
          refine ev_icmp_geN 57 dX12_hittingNumber_23 (by decide) (by omega) (by omega) (fun c23 => ?_) (fun c23 => ?_)
          · exact fin b _ hb hbi
          · omega
        | succ j jh =>
          intro i b hi hb hbi
          have oi := o.2 i (by omega)
          have sl : spF (L.getD i 0) 7 < 128 := spF_lt _ 7
          have al : spF (L.getD i 0) 7 &&& s < 128 := Nat.lt_of_le_of_lt Nat.and_le_left sl
          have key := sp_hit oi (show s < 128 by omega)
          refine ev_iload dX12_hittingNumber_17 rfl ?_
          refine ev_aload_n dX12_hittingNumber_19 rfl ?_
          refine ev_getIv (r.1) fl_X12_251 rfl rfl dX12_hittingNumber_20 ?_
          refine ev_icmp_geN 57 dX12_hittingNumber_23 (by decide) (by omega) (by omega) (fun c23 => ?_) (fun c23 => ?_)
          · omega
          · refine ev_iload_n dX12_hittingNumber_26 rfl ?_
            refine ev_if_eqN 57 dX12_hittingNumber_27 (by decide) (by omega) (fun c27 => ?_) (fun c27 => ?_)
            · exact fin b _ hb ⟨fun z => absurd z (by omega), fun z => hbi.mpr (fun u hu => z u (by omega))⟩
            · refine ev_aload_n dX12_hittingNumber_30 rfl ?_
              refine ev_getR fl_X12_50 rfl rfl dX12_hittingNumber_31 ?_
              refine ev_iload dX12_hittingNumber_34 rfl ?_
              refine ev_ialdv (r.2 i (by omega)) rfl dX12_hittingNumber_36 (by omega) (by omega) ?_
              refine ev_callS (cl_support oi) ok_X12_support ml_X12_274 rfl rfl (Nat.le_of_ble_eq_true rfl) dX12_hittingNumber_37 (kI ?_)
              refine ev_iload_n dX12_hittingNumber_40 rfl ?_
              refine ev_iandN dX12_hittingNumber_41 ?_
              refine ev_if_eqN 49 dX12_hittingNumber_42 (by decide) (by omega) (fun c42 => ?_) (fun c42 => ?_)
              · refine ev_iconst (nI 0) dX12_hittingNumber_49 rfl ?_
                refine ev_ist3 dX12_hittingNumber_50 (by decide) rfl ?_
                refine ev_inc4N dX12_hittingNumber_51 (by decide) rfl ?_
                refine ev_goto 17 dX12_hittingNumber_54 (by decide) ?_
                exact jh (i + 1) 0 (by omega) (by decide) ⟨fun z => absurd z (by decide), fun z => absurd (key.mp c42) (z i (by omega))⟩
              · refine ev_iconst (nI 1) dX12_hittingNumber_45 rfl ?_
                refine ev_goto 50 dX12_hittingNumber_46 (by decide) ?_
                refine ev_ist3 dX12_hittingNumber_50 (by decide) rfl ?_
                refine ev_inc4N dX12_hittingNumber_51 (by decide) rfl ?_
                refine ev_goto 17 dX12_hittingNumber_54 (by decide) ?_
                exact jh (i + 1) 1 (by omega) (by decide) ⟨fun _ u hu => by
                by_cases e : u = i
                · subst e; exact fun z => c42 (key.mpr z)
                · exact hbi.mp (by omega) u (by omega), fun _ => rfl⟩
      refine ev_iload_n dX12_hittingNumber_5 rfl ?_
      refine ev_sipush (nI 128) dX12_hittingNumber_6 rfl ?_
      refine ev_icmp_geN 90 dX12_hittingNumber_9 (by decide) (by omega) (by omega) (fun c9 => ?_) (fun c9 => ?_)
      · omega
      · refine ev_iconst (nI 1) dX12_hittingNumber_12 rfl ?_
        refine ev_ist3 dX12_hittingNumber_13 (by decide) rfl ?_
        refine ev_iconst (nI 0) dX12_hittingNumber_14 rfl ?_
        refine ev_ist4 dX12_hittingNumber_15 (by decide) rfl ?_
        exact inner L.length 0 1 (by omega) (by decide) ⟨fun _ u hu => absurd hu (Nat.not_lt_zero _), fun _ => rfl⟩
  refine ev_start 4 (lv := [some (.ref 67), none, none, none, none]) rfl (by decide) (Nat.le_of_ble_eq_true rfl) ?_
  refine ev_bipush (-2) dX12_hittingNumber_0 rfl ?_
  refine ev_ist1 dX12_hittingNumber_2 (by decide) rfl ?_
  refine ev_iconst (nI 0) dX12_hittingNumber_3 rfl ?_
  refine ev_ist2 dX12_hittingNumber_4 (by decide) rfl ?_
  exact loop 128 0 _ _ (by omega)
end LIST7
