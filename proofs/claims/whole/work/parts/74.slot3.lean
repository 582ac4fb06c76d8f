section SLOT3
variable {G : MG} {d : Nat} {h : MH}
theorem cl_btwL {x : Int32} {s : Nat} {z : Int64} (hs : s < 2 ^ 31) (hz : z = (nI s - nI 1).toInt64) : Cl G d M_X12_isBetween [.long x.toInt64, .long (lN 0), .long z] h (qI (nI (b01 (inR x s))) h) := by
  subst hz
  by_cases e : s = 0
  · subst e
    have e : b01 (inR x 0) = b01 (lN 0 ≤ x.toInt64 ∧ x.toInt64 ≤ (nI 0 - nI 1).toInt64) := b01_c ⟨fun ⟨j, hj, _⟩ => absurd hj (Nat.not_lt_zero _), fun ⟨h1, h2⟩ => by
      have q1 : nI 0 ≤ x := (i2l_le _ _).mp h1
      have q2 : x ≤ nI 0 - nI 1 := (i2l_le _ _).mp h2
      exact absurd (Int32.le_trans q1 q2) (by decide)⟩
    rw [e]
    exact cl_isBetween
  · rw [b01_c (rg_inR (x := x) (show 0 < s by omega)), pk_sub (show 1 ≤ s by omega)]
    exact cl_btw (a := 0) (b := s - 1) rfl rfl (by omega) (by omega)
noncomputable def seE (S : Nat → Sl) (x y : Int32) : Int32 := slE S x 2 (fun k => if b01 (inR y (S k).2.length) = 0 then -13 else nI 1)
noncomputable def seS (S : Nat → Sl) (x y z : Int32) : Nat → Sl := if b01 (gdS S x 2 ∧ inR y (S x.toNatClampNeg).2.length) = 0 then S else upS S x.toNatClampNeg (2, (S x.toNatClampNeg).2.set y.toNatClampNeg z)
theorem seS_ok {S : Nat → Sl} {x y z : Int32} (o : okSS S) : okSS (seS S x y z) := by
  unfold seS
  by_cases c : gdS S x 2 ∧ inR y (S x.toNatClampNeg).2.length
  · rw [b01_t c, if_neg (show ¬ 1 = 0 by decide)]
    obtain ⟨⟨k, hk, rfl, e⟩, _⟩ := c
    rw [nI_clamp (show k < 2 ^ 31 by omega)]
    exact okSS_up o ⟨by simp, by show ((S k).2.set _ z).length ≤ 30; rw [List.length_set]; exact (o k hk).2.1, fun q => absurd q (by simp)⟩
  · rw [b01_f c, if_pos (show 0 = 0 from rfl)]; exact o
theorem cl_setArrayElementC {S : Nat → Sl} {x y z : Int32} (s : SC h S) (o : okSS S) : Cl G (d + 2) M_X11_setArrayElement [.ref 0, .int x, .int y, .int z] h (fun rv h' => rv = some (.int (seE S x y)) ∧ same (fun j => j < 51 ∨ 63 < j) h h' ∧ SC h' (seS S x y z)) := by
  unfold seE seS
  have ce := cl_slotErrorC (G := G) (d := d + 0) (x := x) (q := 2) s o (by decide)
  by_cases c : gdS S x 2
  · have c0 := c
    obtain ⟨k, hk, rfl, e⟩ := c
    rw [slE_g hk e (by decide)] at ce
    rw [nI_clamp (show k < 2 ^ 31 by omega), slE_g hk e (by decide)]
    have sk := (s k hk).2 (by omega)
    have l30 := (o k hk).2.1
    have hs := sl_hs hk
    have hrow := sl_row hk
    obtain ⟨hr, ha, -⟩ := sl_row hk
    by_cases hy : inR y (S k).2.length
    · rw [b01_t (⟨c0, hy⟩ : gdS S (nI k) 2 ∧ inR y (S k).2.length), b01_t hy, if_neg (show ¬ 1 = 0 by decide), if_neg (show ¬ 1 = 0 by decide)]
      have q2 := b01_t hy
      obtain ⟨i, hi, rfl⟩ := hy
      rw [nI_clamp (show i < 2 ^ 31 by omega)]
      refine ev_start 1 (lv := [some (.ref 0), some (.int (nI k)), some (.int (nI i)), some (.int z), none]) rfl (by decide) (Nat.le_of_ble_eq_true rfl) ?_
      refine ev_aload_n dX11_setArrayElement_0 rfl ?_
      refine ev_iload_n dX11_setArrayElement_1 rfl ?_
      refine ev_iconst (nI 2) dX11_setArrayElement_2 rfl ?_
      refine ev_callV (ce) ok_X11_slotError ml_X11_316 rfl rfl rfl rfl (Nat.le_of_ble_eq_true rfl) dX11_setArrayElement_3 (kI ?_)
      refine ev_ist4 dX11_setArrayElement_6 (by decide) rfl ?_
      refine ev_iload dX11_setArrayElement_8 rfl ?_
      refine ev_if_eqN 16 dX11_setArrayElement_10 (by decide) (by omega) (fun c10 => ?_) (fun c10 => ?_)
      · refine ev_aload_n dX11_setArrayElement_16 rfl ?_
        refine ev_getR fl_X11_66 rfl rfl dX11_setArrayElement_17 ?_
        refine ev_iload_n dX11_setArrayElement_20 rfl ?_
        refine ev_aaldN (kd := 1) rfl dX11_setArrayElement_21 (by decide) (by omega) (by omega) (sl_el hk) ?_
        refine ev_getR fl_X11_315 hs rfl dX11_setArrayElement_22 ?_
        refine ev_iload_n dX11_setArrayElement_25 rfl ?_
        refine ev_callV (cl_has hrow sk.1 (by omega)) ok_X7_has ml_X11_274 hr rfl rfl rfl (Nat.le_of_ble_eq_true rfl) dX11_setArrayElement_26 (kI ?_)
        refine ev_if_neN 35 dX11_setArrayElement_29 (by decide) (by omega) (fun c29 => ?_) (fun c29 => ?_)
        · refine ev_aload_n dX11_setArrayElement_35 rfl ?_
          refine ev_getR fl_X11_66 rfl rfl dX11_setArrayElement_36 ?_
          refine ev_iload_n dX11_setArrayElement_39 rfl ?_
          refine ev_aaldN (kd := 1) rfl dX11_setArrayElement_40 (by decide) (by omega) (by omega) (sl_el hk) ?_
          refine ev_getR fl_X11_315 hs rfl dX11_setArrayElement_41 ?_
          refine ev_getR fl_X11_215 hr rfl dX11_setArrayElement_44 ?_
          refine ev_iload_n dX11_setArrayElement_47 rfl ?_
          refine ev_iload_n dX11_setArrayElement_48 rfl ?_
          refine ev_iastN ha dX11_setArrayElement_49 (by omega) (by omega) ?_
          refine ev_iconst (nI 1) dX11_setArrayElement_50 rfl ?_
          refine ev_iret dX11_setArrayElement_51 rfl ?_
          refine ⟨rfl, same_put (by omega), SC_up s (same_put (by omega)) ⟨?_, fun _ => ⟨?_, fun j hj => ?_⟩⟩⟩
          · rw [mp_k (by omega)]; rw [(s k hk).1, e]
          · rw [mp_k (by omega), List.length_set]; exact sk.1
          · rw [List.length_set] at hj
            rw [set_get hj]
            by_cases q : j = i
            · subst q; rw [if_pos rfl]; exact mp_eq _ _ _ _
            · rw [if_neg q, mp_j q]; exact sk.2 j hj
        · omega
      · exact absurd rfl c10
    · rw [b01_f (fun z => hy z.2 : ¬ (gdS S (nI k) 2 ∧ inR y (S k).2.length)), b01_f hy, if_pos (show 0 = 0 from rfl), if_pos (show 0 = 0 from rfl)]
      have q2 := b01_f hy
      refine ev_start 1 (lv := [some (.ref 0), some (.int (nI k)), some (.int y), some (.int z), none]) rfl (by decide) (Nat.le_of_ble_eq_true rfl) ?_
      refine ev_aload_n dX11_setArrayElement_0 rfl ?_
      refine ev_iload_n dX11_setArrayElement_1 rfl ?_
      refine ev_iconst (nI 2) dX11_setArrayElement_2 rfl ?_
      refine ev_callV (ce) ok_X11_slotError ml_X11_316 rfl rfl rfl rfl (Nat.le_of_ble_eq_true rfl) dX11_setArrayElement_3 (kI ?_)
      refine ev_ist4 dX11_setArrayElement_6 (by decide) rfl ?_
      refine ev_iload dX11_setArrayElement_8 rfl ?_
      refine ev_if_eqN 16 dX11_setArrayElement_10 (by decide) (by omega) (fun c10 => ?_) (fun c10 => ?_)
      · refine ev_aload_n dX11_setArrayElement_16 rfl ?_
        refine ev_getR fl_X11_66 rfl rfl dX11_setArrayElement_17 ?_
        refine ev_iload_n dX11_setArrayElement_20 rfl ?_
        refine ev_aaldN (kd := 1) rfl dX11_setArrayElement_21 (by decide) (by omega) (by omega) (sl_el hk) ?_
        refine ev_getR fl_X11_315 hs rfl dX11_setArrayElement_22 ?_
        refine ev_iload_n dX11_setArrayElement_25 rfl ?_
        refine ev_callV (cl_has hrow sk.1 (by omega)) ok_X7_has ml_X11_274 hr rfl rfl rfl (Nat.le_of_ble_eq_true rfl) dX11_setArrayElement_26 (kI ?_)
        refine ev_if_neN 35 dX11_setArrayElement_29 (by decide) (by omega) (fun c29 => ?_) (fun c29 => ?_)
        · omega
        · refine ev_bipush (-13) dX11_setArrayElement_32 rfl ?_
          refine ev_iret dX11_setArrayElement_34 rfl ?_
          exact ⟨rfl, same.rf, s⟩
      · exact absurd rfl c10
  · obtain ⟨E, E0, hE⟩ := slE_n c
    rw [hE, b01_f (fun z => c z.1), if_pos (show 0 = 0 from rfl)]
    rw [hE] at ce
    refine ev_start 1 (lv := [some (.ref 0), some (.int x), some (.int y), some (.int z), none]) rfl (by decide) (Nat.le_of_ble_eq_true rfl) ?_
    refine ev_aload_n dX11_setArrayElement_0 rfl ?_
    refine ev_iload_n dX11_setArrayElement_1 rfl ?_
    refine ev_iconst (nI 2) dX11_setArrayElement_2 rfl ?_
    refine ev_callV (ce) ok_X11_slotError ml_X11_316 rfl rfl rfl rfl (Nat.le_of_ble_eq_true rfl) dX11_setArrayElement_3 (kI ?_)
    refine ev_ist4 dX11_setArrayElement_6 (by decide) rfl ?_
    refine ev_iload dX11_setArrayElement_8 rfl ?_
    refine ev_if_eq 16 dX11_setArrayElement_10 (by decide) (fun c10 => ?_) (fun c10 => ?_)
    · exact absurd c10 E0
    · refine ev_iload dX11_setArrayElement_13 rfl ?_
      refine ev_iret dX11_setArrayElement_15 rfl ?_
      exact ⟨rfl, same.rf, s⟩
theorem cl_setArrayElementM {S : Nat → Sl} {x y z : Int32} (s : SM h S) (o : okSS S) : Cl G (d + 3) M_X12_setArrayElement [.ref 67, .int x, .int y, .int z] h (fun rv h' => rv = some (.int (seE S x y)) ∧ mS h h' ∧ SM h' (seS S x y z)) := by
  unfold seE seS
  have ce := cl_slotErrorM (G := G) (d := d) (x := x) (q := 2) s o (by decide)
  by_cases c : gdS S x 2
  · have c0 := c
    obtain ⟨k, hk, rfl, e⟩ := c
    rw [slE_g hk e (by decide)] at ce
    rw [nI_clamp (show k < 2 ^ 31 by omega), slE_g hk e (by decide)]
    have sk := (s k hk).2 (by omega)
    have l30 := (o k hk).2.1
    have ha := sl_ha hk
    by_cases hy : inR y (S k).2.length
    · rw [b01_t (⟨c0, hy⟩ : gdS S (nI k) 2 ∧ inR y (S k).2.length), b01_t hy, if_neg (show ¬ 1 = 0 by decide), if_neg (show ¬ 1 = 0 by decide)]
      have q2 := b01_t hy
      obtain ⟨i, hi, rfl⟩ := hy
      rw [nI_clamp (show i < 2 ^ 31 by omega)]
      refine ev_start 1 (lv := [some (.ref 67), some (.int (nI k)), some (.int (nI i)), some (.int z), none]) rfl (by decide) (Nat.le_of_ble_eq_true rfl) ?_
      refine ev_aload_n dX12_setArrayElement_0 rfl ?_
      refine ev_iload_n dX12_setArrayElement_1 rfl ?_
      refine ev_iconst (nI 2) dX12_setArrayElement_2 rfl ?_
      refine ev_callV (ce) ok_X12_slotError ml_X12_305 rfl rfl rfl rfl (Nat.le_of_ble_eq_true rfl) dX12_setArrayElement_3 (kI ?_)
      refine ev_ist4 dX12_setArrayElement_6 (by decide) rfl ?_
      refine ev_iload dX12_setArrayElement_8 rfl ?_
      refine ev_if_eqN 16 dX12_setArrayElement_10 (by decide) (by omega) (fun c10 => ?_) (fun c10 => ?_)
      · refine ev_iload_n dX12_setArrayElement_16 rfl ?_
        refine ev_i2l dX12_setArrayElement_17 rfl ?_
        refine ev_lconst (lN 0) dX12_setArrayElement_18 rfl ?_
        refine ev_aload_n dX12_setArrayElement_19 rfl ?_
        refine ev_getR fl_X12_68 rfl rfl dX12_setArrayElement_20 ?_
        refine ev_iload_n dX12_setArrayElement_23 rfl ?_
        refine ev_ialdv (sk.1) rfl dX12_setArrayElement_24 (by omega) (by omega) ?_
        refine ev_iconst (nI 1) dX12_setArrayElement_25 rfl ?_
        refine ev_isub dX12_setArrayElement_26 ?_
        refine ev_i2l dX12_setArrayElement_27 rfl ?_
        refine ev_callS (cl_btwL (by omega) rfl) ok_X12_isBetween ml_X12_79 rfl rfl (Nat.le_of_ble_eq_true rfl) dX12_setArrayElement_28 (kI ?_)
        refine ev_if_neN 37 dX12_setArrayElement_31 (by decide) (by omega) (fun c31 => ?_) (fun c31 => ?_)
        · refine ev_aload_n dX12_setArrayElement_37 rfl ?_
          refine ev_getR fl_X12_73 rfl rfl dX12_setArrayElement_38 ?_
          refine ev_iload_n dX12_setArrayElement_41 rfl ?_
          refine ev_aaldN (kd := 2) rfl dX12_setArrayElement_42 (by decide) (by omega) (by omega) (sl_ea hk) ?_
          refine ev_iload_n dX12_setArrayElement_43 rfl ?_
          refine ev_iload_n dX12_setArrayElement_44 rfl ?_
          refine ev_iastN ha dX12_setArrayElement_45 (by omega) (by omega) ?_
          refine ev_iconst (nI 1) dX12_setArrayElement_46 rfl ?_
          refine ev_iret dX12_setArrayElement_47 rfl ?_
          refine ⟨rfl, mod_p (by omega) (by omega), SM_up s (fun j hj => by rw [mp_k (by omega)]) (fun j hj => by rw [mp_k (by omega)]) (fun j hj => by rw [mp_k (by omega)]) ⟨?_, fun _ => ⟨?_, fun j hj => ?_⟩⟩⟩
          · rw [mp_k (by omega)]; rw [(s k hk).1, e]
          · rw [mp_k (by omega), List.length_set]; exact sk.1
          · rw [List.length_set] at hj
            rw [set_get hj]
            by_cases q : j = i
            · subst q; rw [if_pos rfl]; exact mp_eq _ _ _ _
            · rw [if_neg q, mp_j q]; exact sk.2 j hj
        · omega
      · exact absurd rfl c10
    · rw [b01_f (fun z => hy z.2 : ¬ (gdS S (nI k) 2 ∧ inR y (S k).2.length)), b01_f hy, if_pos (show 0 = 0 from rfl), if_pos (show 0 = 0 from rfl)]
      have q2 := b01_f hy
      refine ev_start 1 (lv := [some (.ref 67), some (.int (nI k)), some (.int y), some (.int z), none]) rfl (by decide) (Nat.le_of_ble_eq_true rfl) ?_
      refine ev_aload_n dX12_setArrayElement_0 rfl ?_
      refine ev_iload_n dX12_setArrayElement_1 rfl ?_
      refine ev_iconst (nI 2) dX12_setArrayElement_2 rfl ?_
      refine ev_callV (ce) ok_X12_slotError ml_X12_305 rfl rfl rfl rfl (Nat.le_of_ble_eq_true rfl) dX12_setArrayElement_3 (kI ?_)
      refine ev_ist4 dX12_setArrayElement_6 (by decide) rfl ?_
      refine ev_iload dX12_setArrayElement_8 rfl ?_
      refine ev_if_eqN 16 dX12_setArrayElement_10 (by decide) (by omega) (fun c10 => ?_) (fun c10 => ?_)
      · refine ev_iload_n dX12_setArrayElement_16 rfl ?_
        refine ev_i2l dX12_setArrayElement_17 rfl ?_
        refine ev_lconst (lN 0) dX12_setArrayElement_18 rfl ?_
        refine ev_aload_n dX12_setArrayElement_19 rfl ?_
        refine ev_getR fl_X12_68 rfl rfl dX12_setArrayElement_20 ?_
        refine ev_iload_n dX12_setArrayElement_23 rfl ?_
        refine ev_ialdv (sk.1) rfl dX12_setArrayElement_24 (by omega) (by omega) ?_
        refine ev_iconst (nI 1) dX12_setArrayElement_25 rfl ?_
        refine ev_isub dX12_setArrayElement_26 ?_
        refine ev_i2l dX12_setArrayElement_27 rfl ?_
        refine ev_callS (cl_btwL (by omega) rfl) ok_X12_isBetween ml_X12_79 rfl rfl (Nat.le_of_ble_eq_true rfl) dX12_setArrayElement_28 (kI ?_)
        refine ev_if_neN 37 dX12_setArrayElement_31 (by decide) (by omega) (fun c31 => ?_) (fun c31 => ?_)
        · omega
        · refine ev_bipush (-13) dX12_setArrayElement_34 rfl ?_
          refine ev_iret dX12_setArrayElement_36 rfl ?_
          exact ⟨rfl, mod.rf, s⟩
      · exact absurd rfl c10
  · obtain ⟨E, E0, hE⟩ := slE_n c
    rw [hE, b01_f (fun z => c z.1), if_pos (show 0 = 0 from rfl)]
    rw [hE] at ce
    refine ev_start 1 (lv := [some (.ref 67), some (.int x), some (.int y), some (.int z), none]) rfl (by decide) (Nat.le_of_ble_eq_true rfl) ?_
    refine ev_aload_n dX12_setArrayElement_0 rfl ?_
    refine ev_iload_n dX12_setArrayElement_1 rfl ?_
    refine ev_iconst (nI 2) dX12_setArrayElement_2 rfl ?_
    refine ev_callV (ce) ok_X12_slotError ml_X12_305 rfl rfl rfl rfl (Nat.le_of_ble_eq_true rfl) dX12_setArrayElement_3 (kI ?_)
    refine ev_ist4 dX12_setArrayElement_6 (by decide) rfl ?_
    refine ev_iload dX12_setArrayElement_8 rfl ?_
    refine ev_if_eq 16 dX12_setArrayElement_10 (by decide) (fun c10 => ?_) (fun c10 => ?_)
    · exact absurd c10 E0
    · refine ev_iload dX12_setArrayElement_13 rfl ?_
      refine ev_iret dX12_setArrayElement_15 rfl ?_
      exact ⟨rfl, mod.rf, s⟩
noncomputable def aeA (S : Nat → Sl) (x y : Int32) : Int64 := if b01 (gdS S x 2 ∧ inR y (S x.toNatClampNeg).2.length) = 0 then -9223372036854775808 else ((S x.toNatClampNeg).2.getD y.toNatClampNeg 0).toInt64
theorem cl_arrayElementC {S : Nat → Sl} {x y : Int32} (s : SC h S) (o : okSS S) : Cl G (d + 2) M_X11_arrayElement [.ref 0, .int x, .int y] h (qL (aeA S x y) h) := by
  unfold aeA
  have ce := cl_slotErrorC (G := G) (d := d + 0) (x := x) (q := 2) s o (by decide)
  by_cases c : gdS S x 2
  · have c0 := c
    obtain ⟨k, hk, rfl, e⟩ := c
    rw [slE_g hk e (by decide)] at ce
    rw [nI_clamp (show k < 2 ^ 31 by omega)]
    have sk := (s k hk).2 (by omega)
    have l30 := (o k hk).2.1
    have hs := sl_hs hk
    have hrow := sl_row hk
    obtain ⟨hr, ha, -⟩ := sl_row hk
    by_cases hy : inR y (S k).2.length
    · rw [b01_t (⟨c0, hy⟩ : gdS S (nI k) 2 ∧ inR y (S k).2.length), if_neg (show ¬ 1 = 0 by decide)]
      have q2 := b01_t hy
      obtain ⟨i, hi, rfl⟩ := hy
      rw [nI_clamp (show i < 2 ^ 31 by omega), ← sk.2 i hi]
      refine ev_start 0 (lv := [some (.ref 0), some (.int (nI k)), some (.int (nI i))]) rfl (by decide) (Nat.le_of_ble_eq_true rfl) ?_
      refine ev_aload_n dX11_arrayElement_0 rfl ?_
      refine ev_iload_n dX11_arrayElement_1 rfl ?_
      refine ev_iconst (nI 2) dX11_arrayElement_2 rfl ?_
      refine ev_callV (ce) ok_X11_slotError ml_X11_316 rfl rfl rfl rfl (Nat.le_of_ble_eq_true rfl) dX11_arrayElement_3 (kI ?_)
      refine ev_if_neN 25 dX11_arrayElement_6 (by decide) (by omega) (fun c6 => ?_) (fun c6 => ?_)
      · exact absurd rfl c6
      · refine ev_aload_n dX11_arrayElement_9 rfl ?_
        refine ev_getR fl_X11_66 rfl rfl dX11_arrayElement_10 ?_
        refine ev_iload_n dX11_arrayElement_13 rfl ?_
        refine ev_aaldN (kd := 1) rfl dX11_arrayElement_14 (by decide) (by omega) (by omega) (sl_el hk) ?_
        refine ev_getR fl_X11_315 hs rfl dX11_arrayElement_15 ?_
        refine ev_iload_n dX11_arrayElement_18 rfl ?_
        refine ev_callV (cl_has hrow sk.1 (by omega)) ok_X7_has ml_X11_274 hr rfl rfl rfl (Nat.le_of_ble_eq_true rfl) dX11_arrayElement_19 (kI ?_)
        refine ev_if_neN 29 dX11_arrayElement_22 (by decide) (by omega) (fun c22 => ?_) (fun c22 => ?_)
        · refine ev_aload_n dX11_arrayElement_29 rfl ?_
          refine ev_getR fl_X11_66 rfl rfl dX11_arrayElement_30 ?_
          refine ev_iload_n dX11_arrayElement_33 rfl ?_
          refine ev_aaldN (kd := 1) rfl dX11_arrayElement_34 (by decide) (by omega) (by omega) (sl_el hk) ?_
          refine ev_getR fl_X11_315 hs rfl dX11_arrayElement_35 ?_
          refine ev_getR fl_X11_215 hr rfl dX11_arrayElement_38 ?_
          refine ev_iload_n dX11_arrayElement_41 rfl ?_
          refine ev_ialdN ha dX11_arrayElement_42 (by omega) (by omega) ?_
          refine ev_i2l dX11_arrayElement_43 rfl ?_
          refine ev_lret dX11_arrayElement_44 rfl ?_
          exact ⟨by with_reducible rfl, rfl⟩
        · omega
    · rw [b01_f (fun z => hy z.2 : ¬ (gdS S (nI k) 2 ∧ inR y (S k).2.length)), if_pos (show 0 = 0 from rfl)]
      have q2 := b01_f hy
      refine ev_start 0 (lv := [some (.ref 0), some (.int (nI k)), some (.int y)]) rfl (by decide) (Nat.le_of_ble_eq_true rfl) ?_
      refine ev_aload_n dX11_arrayElement_0 rfl ?_
      refine ev_iload_n dX11_arrayElement_1 rfl ?_
      refine ev_iconst (nI 2) dX11_arrayElement_2 rfl ?_
      refine ev_callV (ce) ok_X11_slotError ml_X11_316 rfl rfl rfl rfl (Nat.le_of_ble_eq_true rfl) dX11_arrayElement_3 (kI ?_)
      refine ev_if_neN 25 dX11_arrayElement_6 (by decide) (by omega) (fun c6 => ?_) (fun c6 => ?_)
      · exact absurd rfl c6
      · refine ev_aload_n dX11_arrayElement_9 rfl ?_
        refine ev_getR fl_X11_66 rfl rfl dX11_arrayElement_10 ?_
        refine ev_iload_n dX11_arrayElement_13 rfl ?_
        refine ev_aaldN (kd := 1) rfl dX11_arrayElement_14 (by decide) (by omega) (by omega) (sl_el hk) ?_
        refine ev_getR fl_X11_315 hs rfl dX11_arrayElement_15 ?_
        refine ev_iload_n dX11_arrayElement_18 rfl ?_
        refine ev_callV (cl_has hrow sk.1 (by omega)) ok_X7_has ml_X11_274 hr rfl rfl rfl (Nat.le_of_ble_eq_true rfl) dX11_arrayElement_19 (kI ?_)
        refine ev_if_neN 29 dX11_arrayElement_22 (by decide) (by omega) (fun c22 => ?_) (fun c22 => ?_)
        · omega
        · refine ev_ldc2 (-9223372036854775808) dX11_arrayElement_25 kl_X11_234 ?_
          refine ev_lret dX11_arrayElement_28 rfl ?_
          exact ⟨by with_reducible rfl, rfl⟩
  · obtain ⟨E, E0, hE⟩ := slE_n c
    rw [b01_f (fun z => c z.1), if_pos (show 0 = 0 from rfl)]
    rw [hE] at ce
    refine ev_start 0 (lv := [some (.ref 0), some (.int x), some (.int y)]) rfl (by decide) (Nat.le_of_ble_eq_true rfl) ?_
    refine ev_aload_n dX11_arrayElement_0 rfl ?_
    refine ev_iload_n dX11_arrayElement_1 rfl ?_
    refine ev_iconst (nI 2) dX11_arrayElement_2 rfl ?_
    refine ev_callV (ce) ok_X11_slotError ml_X11_316 rfl rfl rfl rfl (Nat.le_of_ble_eq_true rfl) dX11_arrayElement_3 (kI ?_)
    refine ev_if_ne 25 dX11_arrayElement_6 (by decide) (fun c6 => ?_) (fun c6 => ?_)
    · refine ev_ldc2 (-9223372036854775808) dX11_arrayElement_25 kl_X11_234 ?_
      refine ev_lret dX11_arrayElement_28 rfl ?_
      exact ⟨by with_reducible rfl, rfl⟩
    · exact absurd c6 E0
theorem cl_arrayElementM {S : Nat → Sl} {x y : Int32} (s : SM h S) (o : okSS S) : Cl G (d + 3) M_X12_arrayElement [.ref 67, .int x, .int y] h (qL (aeA S x y) h) := by
  unfold aeA
  have ce := cl_slotErrorM (G := G) (d := d) (x := x) (q := 2) s o (by decide)
  by_cases c : gdS S x 2
  · have c0 := c
    obtain ⟨k, hk, rfl, e⟩ := c
    rw [slE_g hk e (by decide)] at ce
    rw [nI_clamp (show k < 2 ^ 31 by omega)]
    have sk := (s k hk).2 (by omega)
    have l30 := (o k hk).2.1
    have ha := sl_ha hk
    by_cases hy : inR y (S k).2.length
    · rw [b01_t (⟨c0, hy⟩ : gdS S (nI k) 2 ∧ inR y (S k).2.length), if_neg (show ¬ 1 = 0 by decide)]
      have q2 := b01_t hy
      obtain ⟨i, hi, rfl⟩ := hy
      rw [nI_clamp (show i < 2 ^ 31 by omega), ← sk.2 i hi]
      refine ev_start 0 (lv := [some (.ref 67), some (.int (nI k)), some (.int (nI i))]) rfl (by decide) (Nat.le_of_ble_eq_true rfl) ?_
      refine ev_aload_n dX12_arrayElement_0 rfl ?_
      refine ev_iload_n dX12_arrayElement_1 rfl ?_
      refine ev_iconst (nI 2) dX12_arrayElement_2 rfl ?_
      refine ev_callV (ce) ok_X12_slotError ml_X12_305 rfl rfl rfl rfl (Nat.le_of_ble_eq_true rfl) dX12_arrayElement_3 (kI ?_)
      refine ev_if_neN 39 dX12_arrayElement_6 (by decide) (by omega) (fun c6 => ?_) (fun c6 => ?_)
      · exact absurd rfl c6
      · refine ev_iload_n dX12_arrayElement_9 rfl ?_
        refine ev_i2l dX12_arrayElement_10 rfl ?_
        refine ev_lconst (lN 0) dX12_arrayElement_11 rfl ?_
        refine ev_aload_n dX12_arrayElement_12 rfl ?_
        refine ev_getR fl_X12_68 rfl rfl dX12_arrayElement_13 ?_
        refine ev_iload_n dX12_arrayElement_16 rfl ?_
        refine ev_ialdv (sk.1) rfl dX12_arrayElement_17 (by omega) (by omega) ?_
        refine ev_iconst (nI 1) dX12_arrayElement_18 rfl ?_
        refine ev_isub dX12_arrayElement_19 ?_
        refine ev_i2l dX12_arrayElement_20 rfl ?_
        refine ev_callS (cl_btwL (by omega) rfl) ok_X12_isBetween ml_X12_79 rfl rfl (Nat.le_of_ble_eq_true rfl) dX12_arrayElement_21 (kI ?_)
        refine ev_if_eqN 39 dX12_arrayElement_24 (by decide) (by omega) (fun c24 => ?_) (fun c24 => ?_)
        · omega
        · refine ev_aload_n dX12_arrayElement_27 rfl ?_
          refine ev_getR fl_X12_73 rfl rfl dX12_arrayElement_28 ?_
          refine ev_iload_n dX12_arrayElement_31 rfl ?_
          refine ev_aaldN (kd := 2) rfl dX12_arrayElement_32 (by decide) (by omega) (by omega) (sl_ea hk) ?_
          refine ev_iload_n dX12_arrayElement_33 rfl ?_
          refine ev_ialdN ha dX12_arrayElement_34 (by omega) (by omega) ?_
          refine ev_i2l dX12_arrayElement_35 rfl ?_
          refine ev_goto 42 dX12_arrayElement_36 (by decide) ?_
          refine ev_lret dX12_arrayElement_42 rfl ?_
          exact ⟨by with_reducible rfl, rfl⟩
    · rw [b01_f (fun z => hy z.2 : ¬ (gdS S (nI k) 2 ∧ inR y (S k).2.length)), if_pos (show 0 = 0 from rfl)]
      have q2 := b01_f hy
      refine ev_start 0 (lv := [some (.ref 67), some (.int (nI k)), some (.int y)]) rfl (by decide) (Nat.le_of_ble_eq_true rfl) ?_
      refine ev_aload_n dX12_arrayElement_0 rfl ?_
      refine ev_iload_n dX12_arrayElement_1 rfl ?_
      refine ev_iconst (nI 2) dX12_arrayElement_2 rfl ?_
      refine ev_callV (ce) ok_X12_slotError ml_X12_305 rfl rfl rfl rfl (Nat.le_of_ble_eq_true rfl) dX12_arrayElement_3 (kI ?_)
      refine ev_if_neN 39 dX12_arrayElement_6 (by decide) (by omega) (fun c6 => ?_) (fun c6 => ?_)
      · exact absurd rfl c6
      · refine ev_iload_n dX12_arrayElement_9 rfl ?_
        refine ev_i2l dX12_arrayElement_10 rfl ?_
        refine ev_lconst (lN 0) dX12_arrayElement_11 rfl ?_
        refine ev_aload_n dX12_arrayElement_12 rfl ?_
        refine ev_getR fl_X12_68 rfl rfl dX12_arrayElement_13 ?_
        refine ev_iload_n dX12_arrayElement_16 rfl ?_
        refine ev_ialdv (sk.1) rfl dX12_arrayElement_17 (by omega) (by omega) ?_
        refine ev_iconst (nI 1) dX12_arrayElement_18 rfl ?_
        refine ev_isub dX12_arrayElement_19 ?_
        refine ev_i2l dX12_arrayElement_20 rfl ?_
        refine ev_callS (cl_btwL (by omega) rfl) ok_X12_isBetween ml_X12_79 rfl rfl (Nat.le_of_ble_eq_true rfl) dX12_arrayElement_21 (kI ?_)
        refine ev_if_eqN 39 dX12_arrayElement_24 (by decide) (by omega) (fun c24 => ?_) (fun c24 => ?_)
        · refine ev_ldc2 (-9223372036854775808) dX12_arrayElement_39 kl_X12_230 ?_
          refine ev_lret dX12_arrayElement_42 rfl ?_
          exact ⟨by with_reducible rfl, rfl⟩
        · omega
  · obtain ⟨E, E0, hE⟩ := slE_n c
    rw [b01_f (fun z => c z.1), if_pos (show 0 = 0 from rfl)]
    rw [hE] at ce
    refine ev_start 0 (lv := [some (.ref 67), some (.int x), some (.int y)]) rfl (by decide) (Nat.le_of_ble_eq_true rfl) ?_
    refine ev_aload_n dX12_arrayElement_0 rfl ?_
    refine ev_iload_n dX12_arrayElement_1 rfl ?_
    refine ev_iconst (nI 2) dX12_arrayElement_2 rfl ?_
    refine ev_callV (ce) ok_X12_slotError ml_X12_305 rfl rfl rfl rfl (Nat.le_of_ble_eq_true rfl) dX12_arrayElement_3 (kI ?_)
    refine ev_if_ne 39 dX12_arrayElement_6 (by decide) (fun c6 => ?_) (fun c6 => ?_)
    · refine ev_ldc2 (-9223372036854775808) dX12_arrayElement_39 kl_X12_230 ?_
      refine ev_lret dX12_arrayElement_42 rfl ?_
      exact ⟨by with_reducible rfl, rfl⟩
    · exact absurd c6 E0
/-! the count of used slots -/
def usF (S : Nat → Sl) : Nat → Nat
  | 0 => 0
  | k + 1 => usF S k + (if (S k).1 = 0 then 0 else 1)
theorem usF_le (S : Nat → Sl) (k : Nat) : usF S k ≤ k := by
  induction k with
  | zero => exact Nat.le_refl _
  | succ k ih =>
    rw [usF]
    by_cases c : (S k).1 = 0
    · rw [if_pos c]; omega
    · rw [if_neg c]; omega
theorem cl_usedSlotCountC {S : Nat → Sl} (s : SC h S) (o : okSS S) : Cl G d M_X11_usedSlotCount [.ref 0] h (qI (nI (usF S 4)) h) := by
  have loop : ∀ (n k : Nat), k + n = 4 → Ev G d M_X11_usedSlotCount 4 [some (.ref 0), some (.int (nI (usF S k))), some (.int (nI k))] [] h (qI (nI (usF S 4)) h) := by
    intro n
    induction n with
    | zero =>
      intro k hk
      obtain rfl : k = 4 := by omega
      refine ev_iload_n dX11_usedSlotCount_4 rfl ?_
      refine ev_iconst (nI 4) dX11_usedSlotCount_5 rfl ?_
      refine ev_icmp_geN 30 dX11_usedSlotCount_6 (by decide) (by omega) (by omega) (fun c6 => ?_) (fun c6 => ?_)
      · refine ev_iload_n dX11_usedSlotCount_30 rfl ?_
        refine ev_iret dX11_usedSlotCount_31 rfl ?_
        exact ⟨rfl, rfl⟩
      · omega
    | succ n ih =>
      intro k hk
      have hk4 : k < 4 := by omega
      have hs := sl_hs hk4
      have s1 := (s k hk4).1
      have k2 := (o k hk4).1
      have ul := usF_le S k
      have q := ih (k + 1) (by omega)
      rw [usF] at q
      refine ev_iload_n dX11_usedSlotCount_4 rfl ?_
      refine ev_iconst (nI 4) dX11_usedSlotCount_5 rfl ?_
      refine ev_icmp_geN 30 dX11_usedSlotCount_6 (by decide) (by omega) (by omega) (fun c6 => ?_) (fun c6 => ?_)
      · omega
      · refine ev_aload_n dX11_usedSlotCount_9 rfl ?_
        refine ev_getR fl_X11_66 rfl rfl dX11_usedSlotCount_10 ?_
        refine ev_iload_n dX11_usedSlotCount_13 rfl ?_
        refine ev_aaldN (kd := 1) rfl dX11_usedSlotCount_14 (by decide) (by omega) (by omega) (sl_el hk4) ?_
        refine ev_getIv (s1) fl_X11_312 hs rfl dX11_usedSlotCount_15 ?_
        refine ev_if_eqN 24 dX11_usedSlotCount_18 (by decide) (by omega) (fun c18 => ?_) (fun c18 => ?_)
        · refine ev_inc2N dX11_usedSlotCount_24 (by decide) rfl ?_
          refine ev_goto 4 dX11_usedSlotCount_27 (by decide) ?_
          rw [if_pos c18] at q; exact q
        · refine ev_inc1N dX11_usedSlotCount_21 (by decide) rfl ?_
          refine ev_inc2N dX11_usedSlotCount_24 (by decide) rfl ?_
          refine ev_goto 4 dX11_usedSlotCount_27 (by decide) ?_
          rw [if_neg c18] at q; exact q
  refine ev_start 2 (lv := [some (.ref 0), none, none]) rfl (by decide) (Nat.le_of_ble_eq_true rfl) ?_
  refine ev_iconst (nI 0) dX11_usedSlotCount_0 rfl ?_
  refine ev_ist1 dX11_usedSlotCount_1 (by decide) rfl ?_
  refine ev_iconst (nI 0) dX11_usedSlotCount_2 rfl ?_
  refine ev_ist2 dX11_usedSlotCount_3 (by decide) rfl ?_
  exact loop 4 0 (by omega)
theorem cl_usedSlotCountM {S : Nat → Sl} (s : SM h S) (o : okSS S) : Cl G d M_X12_usedSlotCount [.ref 67] h (qI (nI (usF S 4)) h) := by
  have loop : ∀ (n k : Nat), k + n = 4 → Ev G d M_X12_usedSlotCount 4 [some (.ref 67), some (.int (nI (usF S k))), some (.int (nI k))] [] h (qI (nI (usF S 4)) h) := by
    intro n
    induction n with
    | zero =>
      intro k hk
      obtain rfl : k = 4 := by omega
      refine ev_iload_n dX12_usedSlotCount_4 rfl ?_
      refine ev_iconst (nI 4) dX12_usedSlotCount_5 rfl ?_
      refine ev_icmp_geN 32 dX12_usedSlotCount_6 (by decide) (by omega) (by omega) (fun c6 => ?_) (fun c6 => ?_)
      · refine ev_iload_n dX12_usedSlotCount_32 rfl ?_
        refine ev_iret dX12_usedSlotCount_33 rfl ?_
        exact ⟨rfl, rfl⟩
      · omega
    | succ n ih =>
      intro k hk
      have hk4 : k < 4 := by omega
      have s1 := (s k hk4).1
      have k2 := (o k hk4).1
      have ul := usF_le S k
      have q := ih (k + 1) (by omega)
      rw [usF] at q
      refine ev_iload_n dX12_usedSlotCount_4 rfl ?_
      refine ev_iconst (nI 4) dX12_usedSlotCount_5 rfl ?_
      refine ev_icmp_geN 32 dX12_usedSlotCount_6 (by decide) (by omega) (by omega) (fun c6 => ?_) (fun c6 => ?_)
      · omega
      · refine ev_iload_n dX12_usedSlotCount_9 rfl ?_
        refine ev_aload_n dX12_usedSlotCount_10 rfl ?_
        refine ev_getR fl_X12_65 rfl rfl dX12_usedSlotCount_11 ?_
        refine ev_iload_n dX12_usedSlotCount_14 rfl ?_
        refine ev_ialdv (s1) rfl dX12_usedSlotCount_15 (by omega) (by omega) ?_
        refine ev_if_eqN 23 dX12_usedSlotCount_16 (by decide) (by omega) (fun c16 => ?_) (fun c16 => ?_)
        · refine ev_iconst (nI 0) dX12_usedSlotCount_23 rfl ?_
          refine ev_iaddN dX12_usedSlotCount_24 ?_
          refine ev_ist1 dX12_usedSlotCount_25 (by decide) rfl ?_
          refine ev_inc2N dX12_usedSlotCount_26 (by decide) rfl ?_
          refine ev_goto 4 dX12_usedSlotCount_29 (by decide) ?_
          rw [if_pos c16] at q; exact q
        · refine ev_iconst (nI 1) dX12_usedSlotCount_19 rfl ?_
          refine ev_goto 24 dX12_usedSlotCount_20 (by decide) ?_
          refine ev_iaddN dX12_usedSlotCount_24 ?_
          refine ev_ist1 dX12_usedSlotCount_25 (by decide) rfl ?_
          refine ev_inc2N dX12_usedSlotCount_26 (by decide) rfl ?_
          refine ev_goto 4 dX12_usedSlotCount_29 (by decide) ?_
          rw [if_neg c16] at q; exact q
  refine ev_start 2 (lv := [some (.ref 67), none, none]) rfl (by decide) (Nat.le_of_ble_eq_true rfl) ?_
  refine ev_iconst (nI 0) dX12_usedSlotCount_0 rfl ?_
  refine ev_ist1 dX12_usedSlotCount_1 (by decide) rfl ?_
  refine ev_iconst (nI 0) dX12_usedSlotCount_2 rfl ?_
  refine ev_ist2 dX12_usedSlotCount_3 (by decide) rfl ?_
  exact loop 4 0 (by omega)
/-! the first mismatch -/
theorem mism_cg {f f' g g' : Nat → Int32} {s t : Nat} : ∀ n i, (∀ j, i ≤ j → j < i + n → f j = f' j ∧ g j = g' j) → mism f g s t n i = mism f' g' s t n i
  | 0, i => fun _ => rfl
  | n + 1, i => fun hh => by
    unfold mism
    have q := hh i (Nat.le_refl _) (by omega)
    rw [q.1, q.2, mism_cg n (i + 1) (fun j h1 h2 => hh j (by omega) (by omega))]
noncomputable def fmE (S : Nat → Sl) (n N : Nat) (x y : Int32) : Int32 := aRg y 1 3 (fun p => slE S x 2 (fun k => mism (fun i => (S k).2.getD i 0) (fun i => nI ((gnL n N p).getD i 0)) (S k).2.length (gnL n N p).length (min (S k).2.length (gnL n N p).length) 0))
theorem cl_firstMismatchC {S : Nat → Sl} {n N : Nat} {x y : Int32} (g : gC h n N) (ok : gOK n N) (c : cI h n N) (s : SC h S) (o : okSS S) : Cl G (d + 4) M_X11_firstMismatch [.ref 0, .int x, .int y] h (fun rv h' => rv = some (.int (fmE S n N x y)) ∧ iq n N h h' ∧ cI h' n N) := by
  unfold fmE
  have hn := ok.2.1
  have ce := cl_slotErrorC (G := G) (d := d + 2) (x := x) (q := 2) s o (by decide)
  by_cases hy : rg y 1 3
  · have q1 := b01_t hy
    obtain ⟨p, hp, rfl⟩ := rg_p hy
    rw [aRg_p hp]
    by_cases cg : gdS S x 2
    · obtain ⟨k, hk, rfl, e⟩ := cg
      rw [slE_g hk e (by decide)] at ce
      rw [slE_g hk e (by decide)]
      have l30 := (o k hk).2.1
      have hs := sl_hs hk
      have hrow := sl_row hk
      obtain ⟨hr, ha, -⟩ := sl_row hk
      have grow := rowG hp
      obtain ⟨gr, ga, -⟩ := rowG hp
      have hlen := gnL_len (N := N) hn (show 1 ≤ p + 1 by omega) (by omega)
      have sk := (s k hk).2 (by omega)
      refine ev_start 1 (lv := [some (.ref 0), some (.int (nI k)), some (.int (nI (p + 1))), none]) rfl (by decide) (Nat.le_of_ble_eq_true rfl) ?_
      refine ev_iload_n dX11_firstMismatch_0 rfl ?_
      refine ev_callS (cl_isPowerC) ok_X11_isPower ml_X11_188 rfl rfl (Nat.le_of_ble_eq_true rfl) dX11_firstMismatch_1 (kI ?_)
      refine ev_if_neN 9 dX11_firstMismatch_4 (by decide) (by omega) (fun c4 => ?_) (fun c4 => ?_)
      · refine ev_aload_n dX11_firstMismatch_9 rfl ?_
        refine ev_iload_n dX11_firstMismatch_10 rfl ?_
        refine ev_iconst (nI 2) dX11_firstMismatch_11 rfl ?_
        refine ev_callV (ce) ok_X11_slotError ml_X11_316 rfl rfl rfl rfl (Nat.le_of_ble_eq_true rfl) dX11_firstMismatch_12 (kI ?_)
        refine ev_ist3 dX11_firstMismatch_15 (by decide) rfl ?_
        refine ev_iload_n dX11_firstMismatch_16 rfl ?_
        refine ev_if_eqN 24 dX11_firstMismatch_17 (by decide) (by omega) (fun c17 => ?_) (fun c17 => ?_)
        · refine ev_aload_n dX11_firstMismatch_24 rfl ?_
          refine ev_getR fl_X11_66 rfl rfl dX11_firstMismatch_25 ?_
          refine ev_iload_n dX11_firstMismatch_28 rfl ?_
          refine ev_aaldN (kd := 1) rfl dX11_firstMismatch_29 (by decide) (by omega) (by omega) (sl_el hk) ?_
          refine ev_getR fl_X11_315 hs rfl dX11_firstMismatch_30 ?_
          refine ev_aload_n dX11_firstMismatch_33 rfl ?_
          refine ev_getR fl_X11_23 rfl rfl dX11_firstMismatch_34 ?_
          refine ev_iload_n dX11_firstMismatch_37 rfl ?_
          refine ev_callV (cl_generators g ok c hp) ok_X2_generators ml_X11_191 rfl rfl rfl rfl (Nat.le_of_ble_eq_true rfl) dX11_firstMismatch_38 ?_
          rintro rv h1 ⟨rfl, i1, c1, kn⟩
          have rk := kn.2.1
          have z1 : h1.1 (53 + 3 * k) 1 = nI (S k).2.length := by rw [(i1.1 (53 + 3 * k) (by omega)).1]; exact sk.1
          have z2 : ∀ i, i < (S k).2.length → h1.1 (53 + 3 * k + 1) i = (S k).2.getD i 0 := fun i hi => by rw [(i1.1 (53 + 3 * k + 1) (by omega)).1]; exact sk.2 i hi
          refine ev_callV (cl_mismatch hrow grow z1 rk.1 l30 hlen) ok_X7_mismatch ml_X11_197 hr rfl rfl rfl (Nat.le_of_ble_eq_true rfl) dX11_firstMismatch_41 (kI ?_)
          refine ev_iret dX11_firstMismatch_44 rfl ?_
          refine ⟨?_, i1, c1⟩
          rw [mism_cg (f' := fun i => (S k).2.getD i 0) (g' := fun i => nI ((gnL n N (p + 1)).getD i 0)) _ 0 (fun j _ hj => ⟨z2 j (by omega), rk.2 j (by omega)⟩)]
        · exact absurd rfl c17
      · omega
    · obtain ⟨E, E0, hE⟩ := slE_n cg
      rw [hE]
      rw [hE] at ce
      refine ev_start 1 (lv := [some (.ref 0), some (.int x), some (.int (nI (p + 1))), none]) rfl (by decide) (Nat.le_of_ble_eq_true rfl) ?_
      refine ev_iload_n dX11_firstMismatch_0 rfl ?_
      refine ev_callS (cl_isPowerC) ok_X11_isPower ml_X11_188 rfl rfl (Nat.le_of_ble_eq_true rfl) dX11_firstMismatch_1 (kI ?_)
      refine ev_if_neN 9 dX11_firstMismatch_4 (by decide) (by omega) (fun c4 => ?_) (fun c4 => ?_)
      · refine ev_aload_n dX11_firstMismatch_9 rfl ?_
        refine ev_iload_n dX11_firstMismatch_10 rfl ?_
        refine ev_iconst (nI 2) dX11_firstMismatch_11 rfl ?_
        refine ev_callV (ce) ok_X11_slotError ml_X11_316 rfl rfl rfl rfl (Nat.le_of_ble_eq_true rfl) dX11_firstMismatch_12 (kI ?_)
        refine ev_ist3 dX11_firstMismatch_15 (by decide) rfl ?_
        refine ev_iload_n dX11_firstMismatch_16 rfl ?_
        refine ev_if_eq 24 dX11_firstMismatch_17 (by decide) (fun c17 => ?_) (fun c17 => ?_)
        · exact absurd c17 E0
        · refine ev_iload_n dX11_firstMismatch_20 rfl ?_
          refine ev_goto 44 dX11_firstMismatch_21 (by decide) ?_
          refine ev_iret dX11_firstMismatch_44 rfl ?_
          exact ⟨rfl, iq.rf, c⟩
      · omega
  · have q1 := b01_f hy
    rw [aRg_f hy]
    refine ev_start 1 (lv := [some (.ref 0), some (.int x), some (.int y), none]) rfl (by decide) (Nat.le_of_ble_eq_true rfl) ?_
    refine ev_iload_n dX11_firstMismatch_0 rfl ?_
    refine ev_callS (cl_isPowerC) ok_X11_isPower ml_X11_188 rfl rfl (Nat.le_of_ble_eq_true rfl) dX11_firstMismatch_1 (kI ?_)
    refine ev_if_neN 9 dX11_firstMismatch_4 (by decide) (by omega) (fun c4 => ?_) (fun c4 => ?_)
    · omega
    · refine ev_iconst (-1) dX11_firstMismatch_7 rfl ?_
      refine ev_iret dX11_firstMismatch_8 rfl ?_
      exact ⟨rfl, iq.rf, c⟩
theorem cl_firstMismatchM {S : Nat → Sl} {n N : Nat} {x y : Int32} (g : gM h n N) (ok : gOK n N) (c : cacheM h n N) (s : SM h S) (o : okSS S) : Cl G (d + 4) M_X12_firstMismatch [.ref 67, .int x, .int y] h (fun rv h' => rv = some (.int (fmE S n N x y)) ∧ ms h h' ∧ cacheM h' n N) := by
  unfold fmE
  have hn := ok.2.1
  have ce := cl_slotErrorM (G := G) (d := d + 1) (x := x) (q := 2) s o (by decide)
  by_cases hy : rg y 1 3
  · have q1 := b01_t hy
    obtain ⟨p, hp, rfl⟩ := rg_p hy
    rw [aRg_p hp]
    by_cases cg : gdS S x 2
    · obtain ⟨k, hk, rfl, e⟩ := cg
      rw [slE_g hk e (by decide)] at ce
      rw [slE_g hk e (by decide)]
      have q2 := b01_t (show inR (nI k) 4 from ⟨k, hk, rfl⟩)
      have l30 := (o k hk).2.1
      have ha := sl_ha hk
      have sk := (s k hk).2 (by omega)
      have hlen := gL_len (b := 0) (s := p + 1) ok
      have e0 : gL n N 0 (p + 1) = gnL n N (p + 1) := gL_0 ok
      rw [e0] at hlen
      have fg := cl_findGenerators (G := G) (d := d) (s := p + 1) (b := 0) g ok c (by omega) (by decide)
      rw [e0] at fg
      generalize gnL n N (p + 1) = K at *
      generalize hV : (S k).2 = V at *
      have loop : ∀ h1 : MH, gLM h1 K → h1.1 84 k = nI V.length → (∀ i, i < V.length → h1.1 (86 + k) i = V.getD i 0) → ms h h1 → tM h1 n N → ∀ (u i : Nat), i + u = min V.length K.length → Ev G (d + 4) M_X12_firstMismatch 38 [some (.ref 67), some (.int (nI k)), some (.int (nI (p + 1))), some (.int (nI 0)), some (.int (nI i))] [] h1 (fun rv h' => rv = some (.int (mism (fun i => V.getD i 0) (fun i => nI (K.getD i 0)) V.length K.length u i)) ∧ ms h h' ∧ cacheM h' n N) := by
        intro h1 lg z1 z2 m1 t1 u
        induction u with
        | zero =>
          intro i hi
          unfold mism
          refine ev_iload dX12_firstMismatch_38 rfl ?_
          refine ev_aload_n dX12_firstMismatch_40 rfl ?_
          refine ev_getIv (lg.1) fl_X12_177 rfl rfl dX12_firstMismatch_41 ?_
          refine ev_icmp_geN 83 dX12_firstMismatch_44 (by decide) (by omega) (by omega) (fun c44 => ?_) (fun c44 => ?_)
          · refine ev_iload dX12_firstMismatch_83 rfl ?_
            refine ev_aload_n dX12_firstMismatch_85 rfl ?_
            refine ev_getIv (lg.1) fl_X12_177 rfl rfl dX12_firstMismatch_86 ?_
            refine ev_icmp_neN 108 dX12_firstMismatch_89 (by decide) (by omega) (by omega) (fun c89 => ?_) (fun c89 => ?_)
            · refine ev_iload dX12_firstMismatch_108 rfl ?_
              refine ev_iret dX12_firstMismatch_110 rfl ?_
              exact ⟨by
              first
              | rw [if_neg (by omega), show i = min V.length K.length by omega]
              | rw [if_pos (by omega)], m1, Or.inr t1⟩
            · refine ev_iload dX12_firstMismatch_92 rfl ?_
              refine ev_aload_n dX12_firstMismatch_94 rfl ?_
              refine ev_getR fl_X12_68 rfl rfl dX12_firstMismatch_95 ?_
              refine ev_iload_n dX12_firstMismatch_98 rfl ?_
              refine ev_ialdv (z1) rfl dX12_firstMismatch_99 (by omega) (by omega) ?_
              refine ev_icmp_neN 108 dX12_firstMismatch_100 (by decide) (by omega) (by omega) (fun c100 => ?_) (fun c100 => ?_)
              · refine ev_iload dX12_firstMismatch_108 rfl ?_
                refine ev_iret dX12_firstMismatch_110 rfl ?_
                exact ⟨by
                first
                | rw [if_neg (by omega), show i = min V.length K.length by omega]
                | rw [if_pos (by omega)], m1, Or.inr t1⟩
              · refine ev_bipush (-2) dX12_firstMismatch_103 rfl ?_
                refine ev_goto 110 dX12_firstMismatch_105 (by decide) ?_
                refine ev_iret dX12_firstMismatch_110 rfl ?_
                exact ⟨by
                first
                | rw [if_neg (by omega), show i = min V.length K.length by omega]
                | rw [if_pos (by omega)], m1, Or.inr t1⟩
          · refine ev_iload dX12_firstMismatch_47 rfl ?_
            refine ev_aload_n dX12_firstMismatch_49 rfl ?_
            refine ev_getR fl_X12_68 rfl rfl dX12_firstMismatch_50 ?_
            refine ev_iload_n dX12_firstMismatch_53 rfl ?_
            refine ev_ialdv (z1) rfl dX12_firstMismatch_54 (by omega) (by omega) ?_
            refine ev_icmp_geN 83 dX12_firstMismatch_55 (by decide) (by omega) (by omega) (fun c55 => ?_) (fun c55 => ?_)
            · refine ev_iload dX12_firstMismatch_83 rfl ?_
              refine ev_aload_n dX12_firstMismatch_85 rfl ?_
              refine ev_getIv (lg.1) fl_X12_177 rfl rfl dX12_firstMismatch_86 ?_
              refine ev_icmp_neN 108 dX12_firstMismatch_89 (by decide) (by omega) (by omega) (fun c89 => ?_) (fun c89 => ?_)
              · refine ev_iload dX12_firstMismatch_108 rfl ?_
                refine ev_iret dX12_firstMismatch_110 rfl ?_
                exact ⟨by
                first
                | rw [if_neg (by omega), show i = min V.length K.length by omega]
                | rw [if_pos (by omega)], m1, Or.inr t1⟩
              · refine ev_iload dX12_firstMismatch_92 rfl ?_
                refine ev_aload_n dX12_firstMismatch_94 rfl ?_
                refine ev_getR fl_X12_68 rfl rfl dX12_firstMismatch_95 ?_
                refine ev_iload_n dX12_firstMismatch_98 rfl ?_
                refine ev_ialdv (z1) rfl dX12_firstMismatch_99 (by omega) (by omega) ?_
                refine ev_icmp_neN 108 dX12_firstMismatch_100 (by decide) (by omega) (by omega) (fun c100 => ?_) (fun c100 => ?_)
                · refine ev_iload dX12_firstMismatch_108 rfl ?_
                  refine ev_iret dX12_firstMismatch_110 rfl ?_
                  exact ⟨by
                  first
                  | rw [if_neg (by omega), show i = min V.length K.length by omega]
                  | rw [if_pos (by omega)], m1, Or.inr t1⟩
                · refine ev_bipush (-2) dX12_firstMismatch_103 rfl ?_
                  refine ev_goto 110 dX12_firstMismatch_105 (by decide) ?_
                  refine ev_iret dX12_firstMismatch_110 rfl ?_
                  exact ⟨by
                  first
                  | rw [if_neg (by omega), show i = min V.length K.length by omega]
                  | rw [if_pos (by omega)], m1, Or.inr t1⟩
            · omega
        | succ u ih =>
          intro i hi
          unfold mism
          have gv : h1.1 75 i = nI (K.getD i 0) := lg.2 i (by omega)
          have zv : h1.1 (86 + k) i = V.getD i 0 := z2 i (by omega)
          refine ev_iload dX12_firstMismatch_38 rfl ?_
          refine ev_aload_n dX12_firstMismatch_40 rfl ?_
          refine ev_getIv (lg.1) fl_X12_177 rfl rfl dX12_firstMismatch_41 ?_
          refine ev_icmp_geN 83 dX12_firstMismatch_44 (by decide) (by omega) (by omega) (fun c44 => ?_) (fun c44 => ?_)
          · omega
          · refine ev_iload dX12_firstMismatch_47 rfl ?_
            refine ev_aload_n dX12_firstMismatch_49 rfl ?_
            refine ev_getR fl_X12_68 rfl rfl dX12_firstMismatch_50 ?_
            refine ev_iload_n dX12_firstMismatch_53 rfl ?_
            refine ev_ialdv (z1) rfl dX12_firstMismatch_54 (by omega) (by omega) ?_
            refine ev_icmp_geN 83 dX12_firstMismatch_55 (by decide) (by omega) (by omega) (fun c55 => ?_) (fun c55 => ?_)
            · omega
            · refine ev_aload_n dX12_firstMismatch_58 rfl ?_
              refine ev_getR fl_X12_41 rfl rfl dX12_firstMismatch_59 ?_
              refine ev_iload dX12_firstMismatch_62 rfl ?_
              refine ev_ialdv (gv) rfl dX12_firstMismatch_64 (by omega) (by omega) ?_
              refine ev_aload_n dX12_firstMismatch_65 rfl ?_
              refine ev_getR fl_X12_73 rfl rfl dX12_firstMismatch_66 ?_
              refine ev_iload_n dX12_firstMismatch_69 rfl ?_
              refine ev_aaldN (kd := 2) rfl dX12_firstMismatch_70 (by decide) (by omega) (by omega) (sl_ea hk) ?_
              refine ev_iload dX12_firstMismatch_71 rfl ?_
              refine ev_ialdN ha dX12_firstMismatch_73 (by omega) (by omega) ?_
              refine ev_icmp_ne 83 dX12_firstMismatch_74 (by decide) (fun c74 => ?_) (fun c74 => ?_)
              · refine ev_iload dX12_firstMismatch_83 rfl ?_
                refine ev_aload_n dX12_firstMismatch_85 rfl ?_
                refine ev_getIv (lg.1) fl_X12_177 rfl rfl dX12_firstMismatch_86 ?_
                refine ev_icmp_neN 108 dX12_firstMismatch_89 (by decide) (by omega) (by omega) (fun c89 => ?_) (fun c89 => ?_)
                · refine ev_iload dX12_firstMismatch_108 rfl ?_
                  refine ev_iret dX12_firstMismatch_110 rfl ?_
                  exact ⟨by
                  first
                  | rw [if_neg (show ¬ V.getD i 0 = nI (K.getD i 0) by rw [← zv]; exact fun z => c74 z.symm)]
                  | omega, m1, Or.inr t1⟩
                · refine ev_iload dX12_firstMismatch_92 rfl ?_
                  refine ev_aload_n dX12_firstMismatch_94 rfl ?_
                  refine ev_getR fl_X12_68 rfl rfl dX12_firstMismatch_95 ?_
                  refine ev_iload_n dX12_firstMismatch_98 rfl ?_
                  refine ev_ialdv (z1) rfl dX12_firstMismatch_99 (by omega) (by omega) ?_
                  refine ev_icmp_neN 108 dX12_firstMismatch_100 (by decide) (by omega) (by omega) (fun c100 => ?_) (fun c100 => ?_)
                  · refine ev_iload dX12_firstMismatch_108 rfl ?_
                    refine ev_iret dX12_firstMismatch_110 rfl ?_
                    exact ⟨by
                    first
                    | rw [if_neg (show ¬ V.getD i 0 = nI (K.getD i 0) by rw [← zv]; exact fun z => c74 z.symm)]
                    | omega, m1, Or.inr t1⟩
                  · omega
              · refine ev_inc4N dX12_firstMismatch_77 (by decide) rfl ?_
                refine ev_goto 38 dX12_firstMismatch_80 (by decide) ?_
                rw [if_pos (show V.getD i 0 = nI (K.getD i 0) by rw [← zv]; exact c74.symm)]
                exact ih (i + 1) (by omega)
      refine ev_start 2 (lv := [some (.ref 67), some (.int (nI k)), some (.int (nI (p + 1))), none, none]) rfl (by decide) (Nat.le_of_ble_eq_true rfl) ?_
      refine ev_iload_n dX12_firstMismatch_0 rfl ?_
      refine ev_callS (cl_isSlotM) ok_X12_isSlot ml_X12_302 rfl rfl (Nat.le_of_ble_eq_true rfl) dX12_firstMismatch_1 (kI ?_)
      refine ev_if_eqN 14 dX12_firstMismatch_4 (by decide) (by omega) (fun c4 => ?_) (fun c4 => ?_)
      · omega
      · refine ev_iload_n dX12_firstMismatch_7 rfl ?_
        refine ev_callS (cl_isPowerM) ok_X12_isPower ml_X12_185 rfl rfl (Nat.le_of_ble_eq_true rfl) dX12_firstMismatch_8 (kI ?_)
        refine ev_if_neN 16 dX12_firstMismatch_11 (by decide) (by omega) (fun c11 => ?_) (fun c11 => ?_)
        · refine ev_aload_n dX12_firstMismatch_16 rfl ?_
          refine ev_iload_n dX12_firstMismatch_17 rfl ?_
          refine ev_iconst (nI 2) dX12_firstMismatch_18 rfl ?_
          refine ev_callV (ce) ok_X12_slotError ml_X12_305 rfl rfl rfl rfl (Nat.le_of_ble_eq_true rfl) dX12_firstMismatch_19 (kI ?_)
          refine ev_ist3 dX12_firstMismatch_22 (by decide) rfl ?_
          refine ev_iload_n dX12_firstMismatch_23 rfl ?_
          refine ev_if_eqN 29 dX12_firstMismatch_24 (by decide) (by omega) (fun c24 => ?_) (fun c24 => ?_)
          · refine ev_aload_n dX12_firstMismatch_29 rfl ?_
            refine ev_iload_n dX12_firstMismatch_30 rfl ?_
            refine ev_iconst (nI 0) dX12_firstMismatch_31 rfl ?_
            refine ev_callV (fg) ok_X12_findGenerators ml_X12_188 rfl rfl rfl rfl (Nat.le_of_ble_eq_true rfl) dX12_firstMismatch_32 ?_
            rintro rv h1 ⟨rfl, m1, t1, l1⟩
            have ms1 := ms_gen m1
            refine ev_iconst (nI 0) dX12_firstMismatch_35 rfl ?_
            refine ev_ist4 dX12_firstMismatch_36 (by decide) rfl ?_
            exact loop h1 l1 (by rw [(ms1.1 84 (by decide) (by simp [scrP])).1]; exact sk.1) (fun i hi => by rw [(ms1.1 (86 + k) (by omega) (by simp only [scrP]; omega)).1]; exact sk.2 i hi) ms1 t1 _ 0 (by omega)
          · exact absurd rfl c24
        · omega
    · obtain ⟨E, E0, hE⟩ := slE_n cg
      rw [hE]
      rw [hE] at ce
      by_cases hx : inR x 4
      · have q2 := b01_t hx
        refine ev_start 2 (lv := [some (.ref 67), some (.int x), some (.int (nI (p + 1))), none, none]) rfl (by decide) (Nat.le_of_ble_eq_true rfl) ?_
        refine ev_iload_n dX12_firstMismatch_0 rfl ?_
        refine ev_callS (cl_isSlotM) ok_X12_isSlot ml_X12_302 rfl rfl (Nat.le_of_ble_eq_true rfl) dX12_firstMismatch_1 (kI ?_)
        refine ev_if_eqN 14 dX12_firstMismatch_4 (by decide) (by omega) (fun c4 => ?_) (fun c4 => ?_)
        · omega
        · refine ev_iload_n dX12_firstMismatch_7 rfl ?_
          refine ev_callS (cl_isPowerM) ok_X12_isPower ml_X12_185 rfl rfl (Nat.le_of_ble_eq_true rfl) dX12_firstMismatch_8 (kI ?_)
          refine ev_if_neN 16 dX12_firstMismatch_11 (by decide) (by omega) (fun c11 => ?_) (fun c11 => ?_)
          · refine ev_aload_n dX12_firstMismatch_16 rfl ?_
            refine ev_iload_n dX12_firstMismatch_17 rfl ?_
            refine ev_iconst (nI 2) dX12_firstMismatch_18 rfl ?_
            refine ev_callV (ce) ok_X12_slotError ml_X12_305 rfl rfl rfl rfl (Nat.le_of_ble_eq_true rfl) dX12_firstMismatch_19 (kI ?_)
            refine ev_ist3 dX12_firstMismatch_22 (by decide) rfl ?_
            refine ev_iload_n dX12_firstMismatch_23 rfl ?_
            refine ev_if_eq 29 dX12_firstMismatch_24 (by decide) (fun c24 => ?_) (fun c24 => ?_)
            · exact absurd c24 E0
            · refine ev_iload_n dX12_firstMismatch_27 rfl ?_
              refine ev_iret dX12_firstMismatch_28 rfl ?_
              exact ⟨rfl, mod.rf, c⟩
          · omega
      · have q2 := b01_f hx
        have eE : E = -1 := by rw [← hE (fun _ => 0)]; exact slE_f hx
        rw [eE]
        refine ev_start 2 (lv := [some (.ref 67), some (.int x), some (.int (nI (p + 1))), none, none]) rfl (by decide) (Nat.le_of_ble_eq_true rfl) ?_
        refine ev_iload_n dX12_firstMismatch_0 rfl ?_
        refine ev_callS (cl_isSlotM) ok_X12_isSlot ml_X12_302 rfl rfl (Nat.le_of_ble_eq_true rfl) dX12_firstMismatch_1 (kI ?_)
        refine ev_if_eqN 14 dX12_firstMismatch_4 (by decide) (by omega) (fun c4 => ?_) (fun c4 => ?_)
        · refine ev_iconst (-1) dX12_firstMismatch_14 rfl ?_
          refine ev_iret dX12_firstMismatch_15 rfl ?_
          exact ⟨rfl, mod.rf, c⟩
        · omega
  · have q1 := b01_f hy
    rw [aRg_f hy]
    have w2 := b01_lt (inR x 4)
    refine ev_start 2 (lv := [some (.ref 67), some (.int x), some (.int y), none, none]) rfl (by decide) (Nat.le_of_ble_eq_true rfl) ?_
    refine ev_iload_n dX12_firstMismatch_0 rfl ?_
    refine ev_callS (cl_isSlotM) ok_X12_isSlot ml_X12_302 rfl rfl (Nat.le_of_ble_eq_true rfl) dX12_firstMismatch_1 (kI ?_)
    refine ev_if_eqN 14 dX12_firstMismatch_4 (by decide) (by omega) (fun c4 => ?_) (fun c4 => ?_)
    · refine ev_iconst (-1) dX12_firstMismatch_14 rfl ?_
      refine ev_iret dX12_firstMismatch_15 rfl ?_
      exact ⟨rfl, mod.rf, c⟩
    · refine ev_iload_n dX12_firstMismatch_7 rfl ?_
      refine ev_callS (cl_isPowerM) ok_X12_isPower ml_X12_185 rfl rfl (Nat.le_of_ble_eq_true rfl) dX12_firstMismatch_8 (kI ?_)
      refine ev_if_neN 16 dX12_firstMismatch_11 (by decide) (by omega) (fun c11 => ?_) (fun c11 => ?_)
      · omega
      · refine ev_iconst (-1) dX12_firstMismatch_14 rfl ?_
        refine ev_iret dX12_firstMismatch_15 rfl ?_
        exact ⟨rfl, mod.rf, c⟩
end SLOT3
