section LIST5
variable {G : MG} {d : Nat} {h : MH}
theorem mkL_s (s : Nat) (g : Nat → Nat) : mkL (s + 1) g = mkL s g ++ [g s] := by unfold mkL; rw [List.range_succ, List.map_append]; rfl
def rtX (L : List Nat) (t k : Nat) : Nat := L.getD ((L.length - t % L.length + k) % L.length) 0
def rtL (L : List Nat) (t : Nat) : List Nat := mkL L.length (rtX L t)
theorem okL_rt {L : List Nat} {t : Nat} (o : okL L) : okL (rtL L t) := okL_mk o.1 (fun k hk => o.2 _ (Nat.mod_lt _ (by omega)))
theorem rot_inv {s t m : Nat} (hm : m < s) : ((s - t % s + m) % s + t) % s = m := by
  have h1 : t % s < s := Nat.mod_lt _ (by omega)
  have h2 := Nat.div_add_mod t s
  rw [Nat.mod_add_mod]
  have e : s - t % s + m + t = m + s * (1 + t / s) := by rw [Nat.mul_add, Nat.mul_one]; omega
  rw [e, Nat.add_mul_mod_self_left, Nat.mod_eq_of_lt hm]
theorem rot_inj {s t k v : Nat} (hk : k < v) (hv : v < s) : (k + t) % s ≠ (v + t) % s := fun e => by
  have := Nat.sub_mod_eq_zero_of_mod_eq e.symm
  rw [show v + t - (k + t) = v - k by omega, Nat.mod_eq_of_lt (by omega)] at this
  omega
noncomputable def roA (L : List Nat) (x : Int32) : Int32 := aRg x 0 24 (fun _ => nI L.length)
noncomputable def roL (L : List Nat) (x : Int32) : List Nat := if b01 (rg x 0 24) = 0 then L else rtL L x.toNatClampNeg
theorem roL_ok {L : List Nat} {x : Int32} (o : okL L) : okL (roL L x) := by
  unfold roL
  by_cases c : b01 (rg x 0 24) = 0
  · rw [if_pos c]; exact o
  · rw [if_neg c]; exact okL_rt o
theorem rtL_0 {L : List Nat} {t : Nat} (e : L.length = 0) : rtL L t = L := getD_ext (by rw [rtL, mkL_len]) (fun i hi => by rw [rtL, mkL_len] at hi; omega)
theorem cl_rotate {L : List Nat} {t : Nat} (r : rowIs h 40 L) (o : okL L) (ht : t ≤ 24) : Cl G (d + 2) M_X5_rotate [.ref 39, .int (nI t)] h (fun rv h' => rv = none ∧ same (fun k => k < 40 ∨ 45 < k) h h' ∧ rowIs h' 40 (rtL L t)) := by
  have l24 := o.1
  by_cases e : L.length = 0
  · have e1 : h.1 40 1 = nI 0 := by rw [r.1, e]
    refine ev_start 2 (lv := [some (.ref 39), some (.int (nI t)), none, none]) rfl (by decide) (Nat.le_of_ble_eq_true rfl) ?_
    refine ev_aload_n dX5_rotate_0 rfl ?_
    refine ev_getR fl_X5_14 rfl rfl dX5_rotate_1 ?_
    refine ev_getIv (e1) fl_X5_26 rfl rfl dX5_rotate_4 ?_
    refine ev_if_neN 11 dX5_rotate_7 (by decide) (by omega) (fun c7 => ?_) (fun c7 => ?_)
    · exact absurd rfl c7
    · refine ev_ret dX5_rotate_10 rfl ?_
      exact ⟨rfl, same.rf, by rw [rtL_0 e]; exact r⟩
  · have hm : t % L.length < L.length := Nat.mod_lt _ (by omega)
    have loop : ∀ (k i : Nat) (h1 : MH), i + k = L.length → same (fun k => k ≠ 42 ∧ k ≠ 43) h h1 → rowIs h1 42 (mkL i (rtX L t)) → Ev G (d + 2) M_X5_rotate 39 [some (.ref 39), some (.int (nI t)), some (.int (nI (L.length - t % L.length))), some (.int (nI i))] [] h1 (fun rv h' => rv = none ∧ same (fun k => k < 40 ∨ 45 < k) h h' ∧ rowIs h' 40 (rtL L t)) := by
      intro k
      induction k with
      | zero =>
        intro i h1 hi s1 r1
        obtain rfl : i = L.length := by omega
        have r40 := rowIs_same r s1 (by decide) (by decide)
        have ml := mkL_len L.length (rtX L t)
        refine ev_iload_n dX5_rotate_39 rfl ?_
        refine ev_aload_n dX5_rotate_40 rfl ?_
        refine ev_getR fl_X5_14 rfl rfl dX5_rotate_41 ?_
        refine ev_getIv (r40.1) fl_X5_26 rfl rfl dX5_rotate_44 ?_
        refine ev_icmp_geN 83 dX5_rotate_47 (by decide) (by omega) (by omega) (fun c47 => ?_) (fun c47 => ?_)
        · refine ev_aload_n dX5_rotate_83 rfl ?_
          refine ev_getR fl_X5_14 rfl rfl dX5_rotate_84 ?_
          refine ev_aload_n dX5_rotate_87 rfl ?_
          refine ev_getR fl_X5_20 rfl rfl dX5_rotate_88 ?_
          refine ev_callV (cl_copyFrom row_40 row_42 (by decide) (by decide) r1.1 (by omega) (by omega)) ok_X7_copyFrom ml_X5_41 rfl rfl rfl rfl (Nat.le_of_ble_eq_true rfl) dX5_rotate_91 (kV ?_)
          refine ev_ret dX5_rotate_94 rfl ?_
          exact ⟨rfl, (s1.mono (fun k hk => by omega)).tr (same_copy (by decide) (by decide)), rowIs_copy r1⟩
        · omega
      | succ k ih =>
        intro i h1 hi s1 r1
        have r40 := rowIs_same r s1 (by decide) (by decide)
        have ml := mkL_len i (rtX L t)
        have q := ih (i + 1)
        rw [mkL_s] at q
        have hm2 : (L.length - t % L.length + i) % L.length < L.length := Nat.mod_lt _ (by omega)
        refine ev_iload_n dX5_rotate_39 rfl ?_
        refine ev_aload_n dX5_rotate_40 rfl ?_
        refine ev_getR fl_X5_14 rfl rfl dX5_rotate_41 ?_
        refine ev_getIv (r40.1) fl_X5_26 rfl rfl dX5_rotate_44 ?_
        refine ev_icmp_geN 83 dX5_rotate_47 (by decide) (by omega) (by omega) (fun c47 => ?_) (fun c47 => ?_)
        · omega
        · refine ev_aload_n dX5_rotate_50 rfl ?_
          refine ev_getR fl_X5_20 rfl rfl dX5_rotate_51 ?_
          refine ev_aload_n dX5_rotate_54 rfl ?_
          refine ev_getR fl_X5_14 rfl rfl dX5_rotate_55 ?_
          refine ev_getR fl_X5_34 rfl rfl dX5_rotate_58 ?_
          refine ev_iload_n dX5_rotate_61 rfl ?_
          refine ev_iload_n dX5_rotate_62 rfl ?_
          refine ev_iaddN dX5_rotate_63 ?_
          refine ev_aload_n dX5_rotate_64 rfl ?_
          refine ev_getR fl_X5_14 rfl rfl dX5_rotate_65 ?_
          refine ev_getIv (r40.1) fl_X5_26 rfl rfl dX5_rotate_68 ?_
          refine ev_iremN dX5_rotate_71 (by omega) (by omega) (by omega) ?_
          refine ev_ialdv (r40.2 _ hm2) rfl dX5_rotate_72 (by omega) (by omega) ?_
          refine ev_callV (cl_add row_42 r1.1 (by omega)) ok_X7_add ml_X5_38 rfl rfl rfl rfl (Nat.le_of_ble_eq_true rfl) dX5_rotate_73 (kI ?_)
          refine ev_pop dX5_rotate_76 rfl ?_
          refine ev_inc3N dX5_rotate_77 (by decide) rfl ?_
          refine ev_goto 39 dX5_rotate_80 (by decide) ?_
          exact q _ (by omega) (s1.tr (same_add (by decide) (by decide))) (rowIs_add r1)
    refine ev_start 2 (lv := [some (.ref 39), some (.int (nI t)), none, none]) rfl (by decide) (Nat.le_of_ble_eq_true rfl) ?_
    refine ev_aload_n dX5_rotate_0 rfl ?_
    refine ev_getR fl_X5_14 rfl rfl dX5_rotate_1 ?_
    refine ev_getIv (r.1) fl_X5_26 rfl rfl dX5_rotate_4 ?_
    refine ev_if_neN 11 dX5_rotate_7 (by decide) (by omega) (fun c7 => ?_) (fun c7 => ?_)
    · refine ev_aload_n dX5_rotate_11 rfl ?_
      refine ev_getR fl_X5_14 rfl rfl dX5_rotate_12 ?_
      refine ev_getIv (r.1) fl_X5_26 rfl rfl dX5_rotate_15 ?_
      refine ev_iload_n dX5_rotate_18 rfl ?_
      refine ev_aload_n dX5_rotate_19 rfl ?_
      refine ev_getR fl_X5_14 rfl rfl dX5_rotate_20 ?_
      refine ev_getIv (r.1) fl_X5_26 rfl rfl dX5_rotate_23 ?_
      refine ev_iremN dX5_rotate_26 (by omega) (by omega) (by omega) ?_
      refine ev_isubN dX5_rotate_27 (by omega) ?_
      refine ev_ist2 dX5_rotate_28 (by decide) rfl ?_
      refine ev_aload_n dX5_rotate_29 rfl ?_
      refine ev_getR fl_X5_20 rfl rfl dX5_rotate_30 ?_
      refine ev_iconst (nI 0) dX5_rotate_33 rfl ?_
      refine ev_putI fp_X5_26 rfl rfl rfl rfl dX5_rotate_34 ?_
      refine ev_iconst (nI 0) dX5_rotate_37 rfl ?_
      refine ev_ist3 dX5_rotate_38 (by decide) rfl ?_
      exact loop L.length 0 _ (by omega) (same_put (by decide)) ⟨mp_eq _ _ _ _, hold_nil _⟩
    · omega
theorem cl_rotateListC {L : List Nat} {x : Int32} (r : rowIs h 40 L) (o : okL L) : Cl G (d + 3) M_X11_rotateList [.ref 0, .int x] h (fun rv h' => rv = some (.int (roA L x)) ∧ same (fun k => k < 40 ∨ 45 < k) h h' ∧ rowIs h' 40 (roL L x)) := by
  unfold roA roL
  by_cases hx : rg x 0 24
  · rw [b01_t hx, if_neg (show ¬ 1 = 0 by decide)]
    obtain ⟨t, t1, t2, rfl⟩ := hx
    rw [aRg_t t1 t2 (by decide), nI_clamp (by omega)]
    refine ev_start 0 (lv := [some (.ref 0), some (.int (nI t))]) rfl (by decide) (Nat.le_of_ble_eq_true rfl) ?_
    refine ev_iload_n dX11_rotateList_0 rfl ?_
    refine ev_if_ltN 10 dX11_rotateList_1 (by decide) (by omega) (fun c1 => ?_) (fun c1 => ?_)
    · exact c1.elim
    · refine ev_iload_n dX11_rotateList_4 rfl ?_
      refine ev_bipush (nI 24) dX11_rotateList_5 rfl ?_
      refine ev_icmp_leN 12 dX11_rotateList_7 (by decide) (by omega) (by omega) (fun c7 => ?_) (fun c7 => ?_)
      · refine ev_aload_n dX11_rotateList_12 rfl ?_
        refine ev_getR fl_X11_53 rfl rfl dX11_rotateList_13 ?_
        refine ev_iload_n dX11_rotateList_16 rfl ?_
        refine ev_callV (cl_rotate r o t2) ok_X5_rotate ml_X11_271 rfl rfl rfl rfl (Nat.le_of_ble_eq_true rfl) dX11_rotateList_17 ?_
        rintro rv h1 ⟨rfl, s1, r1⟩
        refine ev_aload_n dX11_rotateList_20 rfl ?_
        refine ev_getR fl_X11_53 rfl rfl dX11_rotateList_21 ?_
        refine ev_getR fl_X11_253 rfl rfl dX11_rotateList_24 ?_
        refine ev_getIv ((show _ = nI L.length by rw [r1.1, rtL, mkL_len])) fl_X11_148 rfl rfl dX11_rotateList_27 ?_
        refine ev_iret dX11_rotateList_30 rfl ?_
        exact ⟨rfl, s1, r1⟩
      · omega
  · rw [b01_f hx, if_pos (show 0 = 0 from rfl), aRg_f hx]
    refine ev_start 0 (lv := [some (.ref 0), some (.int x)]) rfl (by decide) (Nat.le_of_ble_eq_true rfl) ?_
    refine ev_iload_n dX11_rotateList_0 rfl ?_
    refine ev_if_lt 10 dX11_rotateList_1 (by decide) (fun c1 => ?_) (fun c1 => ?_)
    · refine ev_iconst (-1) dX11_rotateList_10 rfl ?_
      refine ev_iret dX11_rotateList_11 rfl ?_
      exact ⟨rfl, same.rf, r⟩
    · refine ev_iload_n dX11_rotateList_4 rfl ?_
      refine ev_bipush (nI 24) dX11_rotateList_5 rfl ?_
      refine ev_icmp_le 12 dX11_rotateList_7 (by decide) (fun c7 => ?_) (fun c7 => ?_)
      · exact absurd ((rg_iff (by decide) (by decide)).mpr ⟨Int32.not_lt.mp c1, c7⟩) hx
      · refine ev_iconst (-1) dX11_rotateList_10 rfl ?_
        refine ev_iret dX11_rotateList_11 rfl ?_
        exact ⟨rfl, same.rf, r⟩
theorem cl_rotateListM {L : List Nat} {x : Int32} (r : lM h L) (o : okL L) : Cl G (d + 1) M_X12_rotateList [.ref 67, .int x] h (fun rv h' => rv = some (.int (roA L x)) ∧ lm h h' ∧ lM h' (roL L x)) := by
  have l24 := o.1
  unfold roA roL
  by_cases hx : rg x 0 24
  · have q1 := b01_t hx
    rw [q1, if_neg (show ¬ 1 = 0 by decide)]
    obtain ⟨t, t1, t2, rfl⟩ := hx
    rw [aRg_t t1 t2 (by decide), nI_clamp (by omega)]
    have loop2 : ∀ (h0 : MH), lm h h0 → h0.1 67 18 = nI L.length → hold (h0.1 79) (rtL L t) → ∀ (k i : Nat) (f : Nat → Int32), i + k = L.length → (∀ j, j < i → f j = nI ((rtL L t).getD j 0)) → Ev G (d + 1) M_X12_rotateList 51 [some (.ref 67), some (.int (nI t)), some (.int (nI i))] [] (m_putA h0 78 f) (fun rv h' => rv = some (.int (nI L.length)) ∧ lm h h' ∧ lM h' (rtL L t)) := by
      intro h0 m0 e0 hR k
      have e1 : ∀ f, (m_putA h0 78 f).1 67 18 = nI L.length := fun f => by rw [ma_k (by decide)]; exact e0
      have lr : (rtL L t).length = L.length := mkL_len _ _
      induction k with
      | zero =>
        intro i f hi hf
        obtain rfl : i = L.length := by omega
        refine ev_iload_n dX12_rotateList_51 rfl ?_
        refine ev_aload_n dX12_rotateList_52 rfl ?_
        refine ev_getIv (e1 f) fl_X12_251 rfl rfl dX12_rotateList_53 ?_
        refine ev_icmp_geN 77 dX12_rotateList_56 (by decide) (by omega) (by omega) (fun c56 => ?_) (fun c56 => ?_)
        · refine ev_aload_n dX12_rotateList_77 rfl ?_
          refine ev_getIv (e1 f) fl_X12_251 rfl rfl dX12_rotateList_78 ?_
          refine ev_iret dX12_rotateList_81 rfl ?_
          exact ⟨rfl, m0.tr (mod_a (by simp) (by decide)), by rw [lr]; exact e1 f, by rw [ma_eq]; intro j hj; exact hf j (by omega)⟩
        · omega
      | succ k ih =>
        intro i f hi hf
        refine ev_iload_n dX12_rotateList_51 rfl ?_
        refine ev_aload_n dX12_rotateList_52 rfl ?_
        refine ev_getIv (e1 f) fl_X12_251 rfl rfl dX12_rotateList_53 ?_
        refine ev_icmp_geN 77 dX12_rotateList_56 (by decide) (by omega) (by omega) (fun c56 => ?_) (fun c56 => ?_)
        · omega
        · refine ev_aload_n dX12_rotateList_59 rfl ?_
          refine ev_getR fl_X12_50 rfl rfl dX12_rotateList_60 ?_
          refine ev_iload_n dX12_rotateList_63 rfl ?_
          refine ev_aload_n dX12_rotateList_64 rfl ?_
          refine ev_getR fl_X12_53 rfl rfl dX12_rotateList_65 ?_
          refine ev_iload_n dX12_rotateList_68 rfl ?_
          refine ev_ialdv ((show (m_putA h0 78 f).1 79 i = nI ((rtL L t).getD i 0) by rw [ma_k (by decide)]; exact hR i (by omega))) rfl dX12_rotateList_69 (by omega) (by omega) ?_
          refine ev_iastN rfl dX12_rotateList_70 (by omega) (by omega) ?_
          rw [ma_set]
          refine ev_inc2N dX12_rotateList_71 (by decide) rfl ?_
          refine ev_goto 51 dX12_rotateList_74 (by decide) ?_
          exact ih (i + 1) _ (by omega) (fun j hj => by
          by_cases e : j = i
          · subst e; rw [pk_us]
          · rw [pk_un e]; exact hf j (by omega))
    have loop : ∀ (k i : Nat) (f : Nat → Int32), i + k = L.length → (∀ j, j < i → f ((j + t) % L.length) = nI (L.getD j 0)) → Ev G (d + 1) M_X12_rotateList 16 [some (.ref 67), some (.int (nI t)), some (.int (nI i))] [] (m_putA h 79 f) (fun rv h' => rv = some (.int (nI L.length)) ∧ lm h h' ∧ lM h' (rtL L t)) := by
      intro k
      have e1 : ∀ f, (m_putA h 79 f).1 67 18 = nI L.length := fun f => by rw [ma_k (by decide)]; exact r.1
      induction k with
      | zero =>
        intro i f hi hf
        obtain rfl : i = L.length := by omega
        refine ev_iload_n dX12_rotateList_16 rfl ?_
        refine ev_aload_n dX12_rotateList_17 rfl ?_
        refine ev_getIv (e1 f) fl_X12_251 rfl rfl dX12_rotateList_18 ?_
        refine ev_icmp_geN 49 dX12_rotateList_21 (by decide) (by omega) (by omega) (fun c21 => ?_) (fun c21 => ?_)
        · refine ev_iconst (nI 0) dX12_rotateList_49 rfl ?_
          refine ev_ist2 dX12_rotateList_50 (by decide) rfl ?_
          have q := loop2 (m_putA h 79 f) (mod_a (by simp) (by decide)) (e1 f) (by
            rw [ma_eq]
            refine mkL_hold (fun m hm => ?_)
            have := hf ((L.length - t % L.length + m) % L.length) (Nat.mod_lt _ (by omega))
            rw [rot_inv hm] at this
            exact this) L.length 0 ((m_putA h 79 f).1 78) (by omega) (fun j hj => absurd hj (Nat.not_lt_zero _))
          rw [ma_self] at q
          exact q
        · omega
      | succ k ih =>
        intro i f hi hf
        have hm : (i + t) % L.length < L.length := Nat.mod_lt _ (by omega)
        have ev : (m_putA h 79 f).1 78 i = nI (L.getD i 0) := by rw [ma_k (by decide)]; exact r.2 i (by omega)
        refine ev_iload_n dX12_rotateList_16 rfl ?_
        refine ev_aload_n dX12_rotateList_17 rfl ?_
        refine ev_getIv (e1 f) fl_X12_251 rfl rfl dX12_rotateList_18 ?_
        refine ev_icmp_geN 49 dX12_rotateList_21 (by decide) (by omega) (by omega) (fun c21 => ?_) (fun c21 => ?_)
        · omega
        · refine ev_aload_n dX12_rotateList_24 rfl ?_
          refine ev_getR fl_X12_53 rfl rfl dX12_rotateList_25 ?_
          refine ev_iload_n dX12_rotateList_28 rfl ?_
          refine ev_iload_n dX12_rotateList_29 rfl ?_
          refine ev_iaddN dX12_rotateList_30 ?_
          refine ev_aload_n dX12_rotateList_31 rfl ?_
          refine ev_getIv (e1 f) fl_X12_251 rfl rfl dX12_rotateList_32 ?_
          refine ev_iremN dX12_rotateList_35 (by omega) (by omega) (by omega) ?_
          refine ev_aload_n dX12_rotateList_36 rfl ?_
          refine ev_getR fl_X12_50 rfl rfl dX12_rotateList_37 ?_
          refine ev_iload_n dX12_rotateList_40 rfl ?_
          refine ev_ialdv (ev) rfl dX12_rotateList_41 (by omega) (by omega) ?_
          refine ev_iastN rfl dX12_rotateList_42 (by omega) (by omega) ?_
          rw [ma_set]
          refine ev_inc2N dX12_rotateList_43 (by decide) rfl ?_
          refine ev_goto 16 dX12_rotateList_46 (by decide) ?_
          exact ih (i + 1) _ (by omega) (fun j hj => by
          by_cases e : j = i
          · subst e; rw [pk_us]
          · rw [pk_un (rot_inj (by omega) (by omega))]; exact hf j (by omega))
    refine ev_start 1 (lv := [some (.ref 67), some (.int (nI t)), none]) rfl (by decide) (Nat.le_of_ble_eq_true rfl) ?_
    refine ev_iload_n dX12_rotateList_0 rfl ?_
    refine ev_i2l dX12_rotateList_1 rfl ?_
    refine ev_lconst (lN 0) dX12_rotateList_2 rfl ?_
    refine ev_ldc2 (lN 24) dX12_rotateList_3 kl_X12_266 ?_
    refine ev_callS (cl_btw (a := 0) (b := 24) rfl rfl (by decide) (by decide)) ok_X12_isBetween ml_X12_79 rfl rfl (Nat.le_of_ble_eq_true rfl) dX12_rotateList_6 (kI ?_)
    refine ev_if_neN 14 dX12_rotateList_9 (by decide) (by omega) (fun c9 => ?_) (fun c9 => ?_)
    · refine ev_iconst (nI 0) dX12_rotateList_14 rfl ?_
      refine ev_ist2 dX12_rotateList_15 (by decide) rfl ?_
      have q := loop L.length 0 (h.1 79) (by omega) (fun j hj => absurd hj (Nat.not_lt_zero _))
      rw [ma_self] at q
      exact q
    · omega
  · have q1 := b01_f hx
    rw [q1, if_pos (show 0 = 0 from rfl), aRg_f hx]
    refine ev_start 1 (lv := [some (.ref 67), some (.int x), none]) rfl (by decide) (Nat.le_of_ble_eq_true rfl) ?_
    refine ev_iload_n dX12_rotateList_0 rfl ?_
    refine ev_i2l dX12_rotateList_1 rfl ?_
    refine ev_lconst (lN 0) dX12_rotateList_2 rfl ?_
    refine ev_ldc2 (lN 24) dX12_rotateList_3 kl_X12_266 ?_
    refine ev_callS (cl_btw (a := 0) (b := 24) rfl rfl (by decide) (by decide)) ok_X12_isBetween ml_X12_79 rfl rfl (Nat.le_of_ble_eq_true rfl) dX12_rotateList_6 (kI ?_)
    refine ev_if_neN 14 dX12_rotateList_9 (by decide) (by omega) (fun c9 => ?_) (fun c9 => ?_)
    · omega
    · refine ev_iconst (-1) dX12_rotateList_12 rfl ?_
      refine ev_iret dX12_rotateList_13 rfl ?_
      exact ⟨rfl, mod.rf, r⟩
end LIST5
