section LIST4
variable {G : MG} {d : Nat} {h : MH}
theorem cl_isPosition {L : List Nat} {x : Int32} (t : lM h L) (hl : L.length ≤ 24) : Cl G (d + 1) M_X12_isPosition [.ref 67, .int x] h (qI (nI (b01 (inR x L.length))) h) := by
  by_cases hz : L.length = 0
  · have e : b01 (inR x L.length) = b01 (lN 0 ≤ x.toInt64 ∧ x.toInt64 ≤ (nI 0 - nI 1).toInt64) := b01_c ⟨fun ⟨j, hj, _⟩ => absurd hj (by omega), fun ⟨h1, h2⟩ => by
      have q1 : nI 0 ≤ x := (i2l_le _ _).mp h1
      have q2 : x ≤ nI 0 - nI 1 := (i2l_le _ _).mp h2
      exact absurd (Int32.le_trans q1 q2) (by decide)⟩
    rw [e]
    have t1 : h.1 67 18 = nI 0 := by rw [t.1, hz]
    refine ev_start 0 (lv := [some (.ref 67), some (.int x)]) rfl (by decide) (Nat.le_of_ble_eq_true rfl) ?_
    refine ev_iload_n dX12_isPosition_0 rfl ?_
    refine ev_i2l dX12_isPosition_1 rfl ?_
    refine ev_lconst (lN 0) dX12_isPosition_2 rfl ?_
    refine ev_aload_n dX12_isPosition_3 rfl ?_
    refine ev_getIv (t1) fl_X12_251 rfl rfl dX12_isPosition_4 ?_
    refine ev_iconst (nI 1) dX12_isPosition_7 rfl ?_
    refine ev_isub dX12_isPosition_8 ?_
    refine ev_i2l dX12_isPosition_9 rfl ?_
    refine ev_callS (cl_isBetween) ok_X12_isBetween ml_X12_79 rfl rfl (Nat.le_of_ble_eq_true rfl) dX12_isPosition_10 (kI ?_)
    refine ev_zret dX12_isPosition_13 rfl (b01_nar _) ?_
    exact ⟨by with_reducible rfl, rfl⟩
  · rw [b01_c (rg_inR (x := x) (by omega))]
    refine ev_start 0 (lv := [some (.ref 67), some (.int x)]) rfl (by decide) (Nat.le_of_ble_eq_true rfl) ?_
    refine ev_iload_n dX12_isPosition_0 rfl ?_
    refine ev_i2l dX12_isPosition_1 rfl ?_
    refine ev_lconst (lN 0) dX12_isPosition_2 rfl ?_
    refine ev_aload_n dX12_isPosition_3 rfl ?_
    refine ev_getIv (t.1) fl_X12_251 rfl rfl dX12_isPosition_4 ?_
    refine ev_iconst (nI 1) dX12_isPosition_7 rfl ?_
    refine ev_isubN dX12_isPosition_8 (by omega) ?_
    refine ev_i2lN dX12_isPosition_9 (by omega) ?_
    refine ev_callS (cl_btw (a := 0) (b := L.length - 1) rfl (nI_l (by omega)).symm (by omega) (by omega)) ok_X12_isBetween ml_X12_79 rfl rfl (Nat.le_of_ble_eq_true rfl) dX12_isPosition_10 (kI ?_)
    refine ev_zret dX12_isPosition_13 rfl (b01_nar _) ?_
    exact ⟨by with_reducible rfl, rfl⟩
def swA (f : Nat → Int32) (i j : Nat) : Nat → Int32 := upd (upd f i (f j)) j (f i)
def swL (L : List Nat) (i j : Nat) : List Nat := mkL L.length (fun k => if k = j then L.getD i 0 else if k = i then L.getD j 0 else L.getD k 0)
theorem swL_len (L : List Nat) (i j : Nat) : (swL L i j).length = L.length := mkL_len _ _
theorem hold_sw {f : Nat → Int32} {L : List Nat} {i j : Nat} (hf : hold f L) (hi : i < L.length) (hj : j < L.length) : hold (swA f i j) (swL L i j) := by
  refine mkL_hold (fun k hk => ?_)
  unfold swA
  by_cases c : k = j
  · rw [c, pk_us, if_pos rfl]; exact hf i hi
  · rw [pk_un c, if_neg c]
    by_cases e : k = i
    · rw [e, pk_us, if_pos rfl]; exact hf j hj
    · rw [pk_un e, if_neg e]; exact hf k hk
theorem okL_sw {L : List Nat} {i j : Nat} (o : okL L) (hi : i < L.length) (hj : j < L.length) : okL (swL L i j) := okL_mk o.1 (fun k hk => by
  by_cases c : k = j
  · rw [if_pos c]; exact o.2 i hi
  · rw [if_neg c]
    by_cases e : k = i
    · rw [if_pos e]; exact o.2 j hj
    · rw [if_neg e]; exact o.2 k hk)
theorem cl_swap {L : List Nat} {i j : Nat} (r : rowIs h 40 L) (l24 : L.length ≤ 24) (hi : i < L.length) (hj : j < L.length) : Cl G d M_X5_swap [.ref 39, .int (nI i), .int (nI j)] h (fun rv h' => rv = none ∧ same (fun k => k < 40 ∨ 45 < k) h h' ∧ rowIs h' 40 (swL L i j)) := by
  refine ev_start 1 (lv := [some (.ref 39), some (.int (nI i)), some (.int (nI j)), none]) rfl (by decide) (Nat.le_of_ble_eq_true rfl) ?_
  refine ev_aload_n dX5_swap_0 rfl ?_
  refine ev_getR fl_X5_14 rfl rfl dX5_swap_1 ?_
  refine ev_getR fl_X5_34 rfl rfl dX5_swap_4 ?_
  refine ev_iload_n dX5_swap_7 rfl ?_
  refine ev_ialdN rfl dX5_swap_8 (by omega) (by omega) ?_
  refine ev_ist3 dX5_swap_9 (by decide) rfl ?_
  refine ev_aload_n dX5_swap_10 rfl ?_
  refine ev_getR fl_X5_14 rfl rfl dX5_swap_11 ?_
  refine ev_getR fl_X5_34 rfl rfl dX5_swap_14 ?_
  refine ev_iload_n dX5_swap_17 rfl ?_
  refine ev_aload_n dX5_swap_18 rfl ?_
  refine ev_getR fl_X5_14 rfl rfl dX5_swap_19 ?_
  refine ev_getR fl_X5_34 rfl rfl dX5_swap_22 ?_
  refine ev_iload_n dX5_swap_25 rfl ?_
  refine ev_ialdN rfl dX5_swap_26 (by omega) (by omega) ?_
  refine ev_iastN rfl dX5_swap_27 (by omega) (by omega) ?_
  refine ev_aload_n dX5_swap_28 rfl ?_
  refine ev_getR fl_X5_14 rfl rfl dX5_swap_29 ?_
  refine ev_getR fl_X5_34 rfl rfl dX5_swap_32 ?_
  refine ev_iload_n dX5_swap_35 rfl ?_
  refine ev_iload_n dX5_swap_36 rfl ?_
  refine ev_iastN rfl dX5_swap_37 (by omega) (by omega) ?_
  refine ev_ret dX5_swap_38 rfl ?_
  refine ⟨rfl, (same_put (by decide)).tr (same_put (by decide)), ?_, ?_⟩
  · rw [mp_k (by decide), mp_k (by decide), swL_len]; exact r.1
  · have e : (m_put (m_put h 41 i (h.1 41 j)) 41 j (h.1 41 i)).1 41 = swA (h.1 41) i j := by
      rw [show m_put h 41 i (h.1 41 j) = m_putA h 41 (upd (h.1 41) i (h.1 41 j)) from rfl, ma_set, ma_eq]; rfl
    rw [e]; exact hold_sw r.2 hi hj
theorem cl_swapM {L : List Nat} {i j : Nat} (r : lM h L) (l24 : L.length ≤ 24) (hi : i < L.length) (hj : j < L.length) : Cl G (d + 2) M_X12_swapElements [.ref 67, .int (nI i), .int (nI j)] h (fun rv h' => rv = some (.int (nI L.length)) ∧ lm h h' ∧ lM h' (swL L i j)) := by
  have q1 := b01_t (show inR (nI i) L.length from ⟨i, hi, rfl⟩)
  have q2 := b01_t (show inR (nI j) L.length from ⟨j, hj, rfl⟩)
  have e1 : (m_put (m_put h 78 i (h.1 78 j)) 78 j (h.1 78 i)).1 67 18 = nI L.length := by rw [mp_k (by decide), mp_k (by decide)]; exact r.1
  refine ev_start 1 (lv := [some (.ref 67), some (.int (nI i)), some (.int (nI j)), none]) rfl (by decide) (Nat.le_of_ble_eq_true rfl) ?_
  refine ev_aload_n dX12_swapElements_0 rfl ?_
  refine ev_iload_n dX12_swapElements_1 rfl ?_
  refine ev_callV (cl_isPosition r l24) ok_X12_isPosition ml_X12_268 rfl rfl rfl rfl (Nat.le_of_ble_eq_true rfl) dX12_swapElements_2 (kI ?_)
  refine ev_if_eqN 16 dX12_swapElements_5 (by decide) (by omega) (fun c5 => ?_) (fun c5 => ?_)
  · omega
  · refine ev_aload_n dX12_swapElements_8 rfl ?_
    refine ev_iload_n dX12_swapElements_9 rfl ?_
    refine ev_callV (cl_isPosition r l24) ok_X12_isPosition ml_X12_268 rfl rfl rfl rfl (Nat.le_of_ble_eq_true rfl) dX12_swapElements_10 (kI ?_)
    refine ev_if_neN 19 dX12_swapElements_13 (by decide) (by omega) (fun c13 => ?_) (fun c13 => ?_)
    · refine ev_aload_n dX12_swapElements_19 rfl ?_
      refine ev_getR fl_X12_50 rfl rfl dX12_swapElements_20 ?_
      refine ev_iload_n dX12_swapElements_23 rfl ?_
      refine ev_ialdN rfl dX12_swapElements_24 (by omega) (by omega) ?_
      refine ev_ist3 dX12_swapElements_25 (by decide) rfl ?_
      refine ev_aload_n dX12_swapElements_26 rfl ?_
      refine ev_getR fl_X12_50 rfl rfl dX12_swapElements_27 ?_
      refine ev_iload_n dX12_swapElements_30 rfl ?_
      refine ev_aload_n dX12_swapElements_31 rfl ?_
      refine ev_getR fl_X12_50 rfl rfl dX12_swapElements_32 ?_
      refine ev_iload_n dX12_swapElements_35 rfl ?_
      refine ev_ialdN rfl dX12_swapElements_36 (by omega) (by omega) ?_
      refine ev_iastN rfl dX12_swapElements_37 (by omega) (by omega) ?_
      refine ev_aload_n dX12_swapElements_38 rfl ?_
      refine ev_getR fl_X12_50 rfl rfl dX12_swapElements_39 ?_
      refine ev_iload_n dX12_swapElements_42 rfl ?_
      refine ev_iload_n dX12_swapElements_43 rfl ?_
      refine ev_iastN rfl dX12_swapElements_44 (by omega) (by omega) ?_
      refine ev_aload_n dX12_swapElements_45 rfl ?_
      refine ev_getIv (e1) fl_X12_251 rfl rfl dX12_swapElements_46 ?_
      refine ev_iret dX12_swapElements_49 rfl ?_
      refine ⟨rfl, (mod_p (by simp) (by decide)).tr (mod_p (by simp) (by decide)), by rw [swL_len]; exact e1, ?_⟩
      have e : (m_put (m_put h 78 i (h.1 78 j)) 78 j (h.1 78 i)).1 78 = swA (h.1 78) i j := by
        rw [show m_put h 78 i (h.1 78 j) = m_putA h 78 (upd (h.1 78) i (h.1 78 j)) from rfl, ma_set, ma_eq]; rfl
      rw [e]; exact hold_sw r.2 hi hj
    · omega
noncomputable def seA (L : List Nat) (x y : Int32) : Int32 := if b01 (inR x L.length ∧ inR y L.length) = 0 then -2 else nI L.length
noncomputable def seL (L : List Nat) (x y : Int32) : List Nat := if b01 (inR x L.length ∧ inR y L.length) = 0 then L else swL L x.toNatClampNeg y.toNatClampNeg
theorem seL_ok {L : List Nat} {x y : Int32} (o : okL L) : okL (seL L x y) := by
  have l24 := o.1
  unfold seL
  by_cases c : inR x L.length ∧ inR y L.length
  · rw [b01_t c, if_neg (show ¬ 1 = 0 by decide)]
    obtain ⟨⟨i, hi, rfl⟩, ⟨j, hj, rfl⟩⟩ := c
    rw [nI_clamp (by omega), nI_clamp (by omega)]
    exact okL_sw o hi hj
  · rw [b01_f c, if_pos (show 0 = 0 from rfl)]; exact o
theorem cl_swapElementsC {L : List Nat} {x y : Int32} (r : rowIs h 40 L) (o : okL L) : Cl G (d + 1) M_X11_swapElements [.ref 0, .int x, .int y] h (fun rv h' => rv = some (.int (seA L x y)) ∧ same (fun k => k < 40 ∨ 45 < k) h h' ∧ rowIs h' 40 (seL L x y)) := by
  have l24 := o.1
  unfold seA seL
  by_cases c : inR x L.length ∧ inR y L.length
  · rw [b01_t c, if_neg (show ¬ 1 = 0 by decide), if_neg (show ¬ 1 = 0 by decide)]
    obtain ⟨hx, hy⟩ := c
    have q1 := b01_t hx
    have q2 := b01_t hy
    obtain ⟨i, hi, rfl⟩ := hx
    obtain ⟨j, hj, rfl⟩ := hy
    rw [nI_clamp (by omega), nI_clamp (by omega)]
    refine ev_start 0 (lv := [some (.ref 0), some (.int (nI i)), some (.int (nI j))]) rfl (by decide) (Nat.le_of_ble_eq_true rfl) ?_
    refine ev_aload_n dX11_swapElements_0 rfl ?_
    refine ev_getR fl_X11_53 rfl rfl dX11_swapElements_1 ?_
    refine ev_getR fl_X11_253 rfl rfl dX11_swapElements_4 ?_
    refine ev_iload_n dX11_swapElements_7 rfl ?_
    refine ev_callV (cl_has row_40 r.1 (by omega)) ok_X7_has ml_X11_274 rfl rfl rfl rfl (Nat.le_of_ble_eq_true rfl) dX11_swapElements_8 (kI ?_)
    refine ev_if_eqN 28 dX11_swapElements_11 (by decide) (by omega) (fun c11 => ?_) (fun c11 => ?_)
    · omega
    · refine ev_aload_n dX11_swapElements_14 rfl ?_
      refine ev_getR fl_X11_53 rfl rfl dX11_swapElements_15 ?_
      refine ev_getR fl_X11_253 rfl rfl dX11_swapElements_18 ?_
      refine ev_iload_n dX11_swapElements_21 rfl ?_
      refine ev_callV (cl_has row_40 r.1 (by omega)) ok_X7_has ml_X11_274 rfl rfl rfl rfl (Nat.le_of_ble_eq_true rfl) dX11_swapElements_22 (kI ?_)
      refine ev_if_neN 31 dX11_swapElements_25 (by decide) (by omega) (fun c25 => ?_) (fun c25 => ?_)
      · refine ev_aload_n dX11_swapElements_31 rfl ?_
        refine ev_getR fl_X11_53 rfl rfl dX11_swapElements_32 ?_
        refine ev_iload_n dX11_swapElements_35 rfl ?_
        refine ev_iload_n dX11_swapElements_36 rfl ?_
        refine ev_callV (cl_swap r l24 hi hj) ok_X5_swap ml_X11_277 rfl rfl rfl rfl (Nat.le_of_ble_eq_true rfl) dX11_swapElements_37 ?_
        rintro rv h1 ⟨rfl, s1, r1⟩
        refine ev_aload_n dX11_swapElements_40 rfl ?_
        refine ev_getR fl_X11_53 rfl rfl dX11_swapElements_41 ?_
        refine ev_getR fl_X11_253 rfl rfl dX11_swapElements_44 ?_
        refine ev_getIv ((show _ = nI L.length by rw [r1.1, swL_len])) fl_X11_148 rfl rfl dX11_swapElements_47 ?_
        refine ev_iret dX11_swapElements_50 rfl ?_
        exact ⟨rfl, s1, r1⟩
      · omega
  · rw [b01_f c, if_pos (show 0 = 0 from rfl), if_pos (show 0 = 0 from rfl)]
    refine ev_start 0 (lv := [some (.ref 0), some (.int x), some (.int y)]) rfl (by decide) (Nat.le_of_ble_eq_true rfl) ?_
    refine ev_aload_n dX11_swapElements_0 rfl ?_
    refine ev_getR fl_X11_53 rfl rfl dX11_swapElements_1 ?_
    refine ev_getR fl_X11_253 rfl rfl dX11_swapElements_4 ?_
    refine ev_iload_n dX11_swapElements_7 rfl ?_
    refine ev_callV (cl_has row_40 r.1 (by omega)) ok_X7_has ml_X11_274 rfl rfl rfl rfl (Nat.le_of_ble_eq_true rfl) dX11_swapElements_8 (kI ?_)
    refine ev_if_eqN 28 dX11_swapElements_11 (by decide) (by have := b01_lt (inR x L.length); omega) (fun c11 => ?_) (fun c11 => ?_)
    · refine ev_bipush (-2) dX11_swapElements_28 rfl ?_
      refine ev_iret dX11_swapElements_30 rfl ?_
      exact ⟨rfl, same.rf, r⟩
    · refine ev_aload_n dX11_swapElements_14 rfl ?_
      refine ev_getR fl_X11_53 rfl rfl dX11_swapElements_15 ?_
      refine ev_getR fl_X11_253 rfl rfl dX11_swapElements_18 ?_
      refine ev_iload_n dX11_swapElements_21 rfl ?_
      refine ev_callV (cl_has row_40 r.1 (by omega)) ok_X7_has ml_X11_274 rfl rfl rfl rfl (Nat.le_of_ble_eq_true rfl) dX11_swapElements_22 (kI ?_)
      refine ev_if_neN 31 dX11_swapElements_25 (by decide) (by have := b01_lt (inR y L.length); omega) (fun c25 => ?_) (fun c25 => ?_)
      · exact absurd ⟨Classical.byContradiction fun z => c11 (b01_f z), Classical.byContradiction fun z => c25 (b01_f z)⟩ c
      · refine ev_bipush (-2) dX11_swapElements_28 rfl ?_
        refine ev_iret dX11_swapElements_30 rfl ?_
        exact ⟨rfl, same.rf, r⟩
theorem cl_swapElementsM {L : List Nat} {x y : Int32} (r : lM h L) (o : okL L) : Cl G (d + 2) M_X12_swapElements [.ref 67, .int x, .int y] h (fun rv h' => rv = some (.int (seA L x y)) ∧ lm h h' ∧ lM h' (seL L x y)) := by
  have l24 := o.1
  unfold seA seL
  by_cases c : inR x L.length ∧ inR y L.length
  · rw [b01_t c, if_neg (show ¬ 1 = 0 by decide), if_neg (show ¬ 1 = 0 by decide)]
    obtain ⟨⟨i, hi, rfl⟩, ⟨j, hj, rfl⟩⟩ := c
    rw [nI_clamp (by omega), nI_clamp (by omega)]
    exact cl_swapM r l24 hi hj
  · rw [b01_f c, if_pos (show 0 = 0 from rfl), if_pos (show 0 = 0 from rfl)]
    refine ev_start 1 (lv := [some (.ref 67), some (.int x), some (.int y), none]) rfl (by decide) (Nat.le_of_ble_eq_true rfl) ?_
    refine ev_aload_n dX12_swapElements_0 rfl ?_
    refine ev_iload_n dX12_swapElements_1 rfl ?_
    refine ev_callV (cl_isPosition r l24) ok_X12_isPosition ml_X12_268 rfl rfl rfl rfl (Nat.le_of_ble_eq_true rfl) dX12_swapElements_2 (kI ?_)
    refine ev_if_eqN 16 dX12_swapElements_5 (by decide) (by have := b01_lt (inR x L.length); omega) (fun c5 => ?_) (fun c5 => ?_)
    · refine ev_bipush (-2) dX12_swapElements_16 rfl ?_
      refine ev_iret dX12_swapElements_18 rfl ?_
      exact ⟨rfl, mod.rf, r⟩
    · refine ev_aload_n dX12_swapElements_8 rfl ?_
      refine ev_iload_n dX12_swapElements_9 rfl ?_
      refine ev_callV (cl_isPosition r l24) ok_X12_isPosition ml_X12_268 rfl rfl rfl rfl (Nat.le_of_ble_eq_true rfl) dX12_swapElements_10 (kI ?_)
      refine ev_if_neN 19 dX12_swapElements_13 (by decide) (by have := b01_lt (inR y L.length); omega) (fun c13 => ?_) (fun c13 => ?_)
      · exact absurd ⟨Classical.byContradiction fun z => c5 (b01_f z), Classical.byContradiction fun z => c13 (b01_f z)⟩ c
      · refine ev_bipush (-2) dX12_swapElements_16 rfl ?_
        refine ev_iret dX12_swapElements_18 rfl ?_
        exact ⟨rfl, mod.rf, r⟩
/-! reverse -/
def rvF (L : List Nat) (i : Nat) : List Nat := mkL L.length (fun k => if k < i ∨ L.length - i ≤ k then L.getD (L.length - 1 - k) 0 else L.getD k 0)
def rvL (L : List Nat) : List Nat := rvF L (L.length / 2)
theorem rvF_len (L : List Nat) (i : Nat) : (rvF L i).length = L.length := mkL_len _ _
theorem rvF_0 (L : List Nat) : rvF L 0 = L := getD_ext (rvF_len L 0) (fun i hi => by
  rw [rvF_len] at hi
  unfold rvF
  rw [mkL_get _ hi, if_neg (by omega)])
theorem rvF_s {L : List Nat} {i : Nat} (hi : i < L.length / 2) : swL (rvF L i) i (L.length - 1 - i) = rvF L (i + 1) := by
  refine getD_ext (by rw [swL_len, rvF_len, rvF_len]) (fun k hk => ?_)
  rw [swL_len, rvF_len] at hk
  unfold swL
  rw [rvF_len, mkL_get _ hk]
  unfold rvF
  rw [mkL_get _ hk, mkL_get _ (show i < L.length by omega), mkL_get _ (show L.length - 1 - i < L.length by omega), mkL_get _ hk]
  by_cases c : k = L.length - 1 - i
  · rw [if_pos c, if_neg (by omega), if_pos (by omega), c]
    rw [show L.length - 1 - (L.length - 1 - i) = i by omega]
  · rw [if_neg c]
    by_cases e : k = i
    · rw [if_pos e, if_neg (by omega), if_pos (by omega), e]
    · rw [if_neg e]
      by_cases q : k < i ∨ L.length - i ≤ k
      · rw [if_pos q, if_pos (by omega)]
      · rw [if_neg q, if_neg (by omega)]
theorem okL_rvF {L : List Nat} {i : Nat} (o : okL L) : okL (rvF L i) := okL_mk o.1 (fun k hk => by
  by_cases c : k < i ∨ L.length - i ≤ k
  · rw [if_pos c]; exact o.2 _ (by omega)
  · rw [if_neg c]; exact o.2 k hk)
theorem cl_reverse {L : List Nat} (r : rowIs h 40 L) (o : okL L) : Cl G (d + 1) M_X5_reverse [.ref 39] h (fun rv h' => rv = none ∧ same (fun k => k < 40 ∨ 45 < k) h h' ∧ rowIs h' 40 (rvL L)) := by
  have l24 := o.1
  have loop : ∀ (k i : Nat) (h1 : MH), i + k = L.length / 2 → same (fun k => k < 40 ∨ 45 < k) h h1 → rowIs h1 40 (rvF L i) → Ev G (d + 1) M_X5_reverse 2 [some (.ref 39), some (.int (nI i))] [] h1 (fun rv h' => rv = none ∧ same (fun k => k < 40 ∨ 45 < k) h h' ∧ rowIs h' 40 (rvL L)) := by
    intro k
    induction k with
    | zero =>
      intro i h1 hi s1 r1
      obtain rfl : i = L.length / 2 := by omega
      have e1 : h1.1 40 1 = nI L.length := by rw [r1.1, rvF_len]
      refine ev_iload_n dX5_reverse_2 rfl ?_
      refine ev_aload_n dX5_reverse_3 rfl ?_
      refine ev_getR fl_X5_14 rfl rfl dX5_reverse_4 ?_
      refine ev_getIv (e1) fl_X5_26 rfl rfl dX5_reverse_7 ?_
      refine ev_iconst (nI 2) dX5_reverse_10 rfl ?_
      refine ev_idivN dX5_reverse_11 (by omega) (by omega) (by omega) ?_
      refine ev_icmp_geN 37 dX5_reverse_12 (by decide) (by omega) (by omega) (fun c12 => ?_) (fun c12 => ?_)
      · refine ev_ret dX5_reverse_37 rfl ?_
        exact ⟨rfl, s1, r1⟩
      · omega
    | succ k ih =>
      intro i h1 hi s1 r1
      have e1 : h1.1 40 1 = nI L.length := by rw [r1.1, rvF_len]
      have lr := rvF_len L i
      refine ev_iload_n dX5_reverse_2 rfl ?_
      refine ev_aload_n dX5_reverse_3 rfl ?_
      refine ev_getR fl_X5_14 rfl rfl dX5_reverse_4 ?_
      refine ev_getIv (e1) fl_X5_26 rfl rfl dX5_reverse_7 ?_
      refine ev_iconst (nI 2) dX5_reverse_10 rfl ?_
      refine ev_idivN dX5_reverse_11 (by omega) (by omega) (by omega) ?_
      refine ev_icmp_geN 37 dX5_reverse_12 (by decide) (by omega) (by omega) (fun c12 => ?_) (fun c12 => ?_)
      · omega
      · refine ev_aload_n dX5_reverse_15 rfl ?_
        refine ev_iload_n dX5_reverse_16 rfl ?_
        refine ev_aload_n dX5_reverse_17 rfl ?_
        refine ev_getR fl_X5_14 rfl rfl dX5_reverse_18 ?_
        refine ev_getIv (e1) fl_X5_26 rfl rfl dX5_reverse_21 ?_
        refine ev_iconst (nI 1) dX5_reverse_24 rfl ?_
        refine ev_isubN dX5_reverse_25 (by omega) ?_
        refine ev_iload_n dX5_reverse_26 rfl ?_
        refine ev_isubN dX5_reverse_27 (by omega) ?_
        refine ev_callV (cl_swap r1 (by omega) (by omega) (by omega)) ok_X5_swap ml_X5_59 rfl rfl rfl rfl (Nat.le_of_ble_eq_true rfl) dX5_reverse_28 ?_
        rintro rv h2 ⟨rfl, s2, r2⟩
        rw [rvF_s (by omega)] at r2
        refine ev_inc1N dX5_reverse_31 (by decide) rfl ?_
        refine ev_goto 2 dX5_reverse_34 (by decide) ?_
        exact ih (i + 1) h2 (by omega) (s1.tr s2) r2
  refine ev_start 1 (lv := [some (.ref 39), none]) rfl (by decide) (Nat.le_of_ble_eq_true rfl) ?_
  refine ev_iconst (nI 0) dX5_reverse_0 rfl ?_
  refine ev_ist1 dX5_reverse_1 (by decide) rfl ?_
  exact loop (L.length / 2) 0 h (by omega) same.rf (by rw [rvF_0]; exact r)
theorem cl_reverseListC {L : List Nat} (r : rowIs h 40 L) (o : okL L) : Cl G (d + 2) M_X11_reverseList [.ref 0] h (fun rv h' => rv = some (.int (nI L.length)) ∧ same (fun k => k < 40 ∨ 45 < k) h h' ∧ rowIs h' 40 (rvL L)) := by
  refine ev_start 0 (lv := [some (.ref 0)]) rfl (by decide) (Nat.le_of_ble_eq_true rfl) ?_
  refine ev_aload_n dX11_reverseList_0 rfl ?_
  refine ev_getR fl_X11_53 rfl rfl dX11_reverseList_1 ?_
  refine ev_callV (cl_reverse r o) ok_X5_reverse ml_X11_268 rfl rfl rfl rfl (Nat.le_of_ble_eq_true rfl) dX11_reverseList_4 ?_
  rintro rv h1 ⟨rfl, s1, r1⟩
  refine ev_aload_n dX11_reverseList_7 rfl ?_
  refine ev_getR fl_X11_53 rfl rfl dX11_reverseList_8 ?_
  refine ev_getR fl_X11_253 rfl rfl dX11_reverseList_11 ?_
  refine ev_getIv ((show _ = nI L.length by rw [r1.1, rvL, rvF_len])) fl_X11_148 rfl rfl dX11_reverseList_14 ?_
  refine ev_iret dX11_reverseList_17 rfl ?_
  exact ⟨rfl, s1, r1⟩
theorem cl_reverseListM {L : List Nat} (r : lM h L) (o : okL L) : Cl G (d + 3) M_X12_reverseList [.ref 67] h (fun rv h' => rv = some (.int (nI L.length)) ∧ lm h h' ∧ lM h' (rvL L)) := by
  have l24 := o.1
  have loop : ∀ (k i : Nat) (h1 : MH), i + k = L.length / 2 → lm h h1 → lM h1 (rvF L i) → Ev G (d + 3) M_X12_reverseList 2 [some (.ref 67), some (.int (nI i))] [] h1 (fun rv h' => rv = some (.int (nI L.length)) ∧ lm h h' ∧ lM h' (rvL L)) := by
    intro k
    induction k with
    | zero =>
      intro i h1 hi s1 r1
      obtain rfl : i = L.length / 2 := by omega
      have e1 : h1.1 67 18 = nI L.length := by rw [r1.1, rvF_len]
      refine ev_iload_n dX12_reverseList_2 rfl ?_
      refine ev_aload_n dX12_reverseList_3 rfl ?_
      refine ev_getIv (e1) fl_X12_251 rfl rfl dX12_reverseList_4 ?_
      refine ev_iconst (nI 2) dX12_reverseList_7 rfl ?_
      refine ev_idivN dX12_reverseList_8 (by omega) (by omega) (by omega) ?_
      refine ev_icmp_geN 32 dX12_reverseList_9 (by decide) (by omega) (by omega) (fun c9 => ?_) (fun c9 => ?_)
      · refine ev_aload_n dX12_reverseList_32 rfl ?_
        refine ev_getIv (e1) fl_X12_251 rfl rfl dX12_reverseList_33 ?_
        refine ev_iret dX12_reverseList_36 rfl ?_
        exact ⟨rfl, s1, r1⟩
      · omega
    | succ k ih =>
      intro i h1 hi s1 r1
      have e1 : h1.1 67 18 = nI L.length := by rw [r1.1, rvF_len]
      have lr := rvF_len L i
      refine ev_iload_n dX12_reverseList_2 rfl ?_
      refine ev_aload_n dX12_reverseList_3 rfl ?_
      refine ev_getIv (e1) fl_X12_251 rfl rfl dX12_reverseList_4 ?_
      refine ev_iconst (nI 2) dX12_reverseList_7 rfl ?_
      refine ev_idivN dX12_reverseList_8 (by omega) (by omega) (by omega) ?_
      refine ev_icmp_geN 32 dX12_reverseList_9 (by decide) (by omega) (by omega) (fun c9 => ?_) (fun c9 => ?_)
      · omega
      · refine ev_aload_n dX12_reverseList_12 rfl ?_
        refine ev_iload_n dX12_reverseList_13 rfl ?_
        refine ev_aload_n dX12_reverseList_14 rfl ?_
        refine ev_getIv (e1) fl_X12_251 rfl rfl dX12_reverseList_15 ?_
        refine ev_iconst (nI 1) dX12_reverseList_18 rfl ?_
        refine ev_isubN dX12_reverseList_19 (by omega) ?_
        refine ev_iload_n dX12_reverseList_20 rfl ?_
        refine ev_isubN dX12_reverseList_21 (by omega) ?_
        refine ev_callV (cl_swapM r1 (by omega) (by omega) (by omega)) ok_X12_swapElements ml_X12_263 rfl rfl rfl rfl (Nat.le_of_ble_eq_true rfl) dX12_reverseList_22 ?_
        rintro rv h2 ⟨rfl, s2, r2⟩
        rw [rvF_s (by omega)] at r2
        refine ev_pop dX12_reverseList_25 rfl ?_
        refine ev_inc1N dX12_reverseList_26 (by decide) rfl ?_
        refine ev_goto 2 dX12_reverseList_29 (by decide) ?_
        exact ih (i + 1) h2 (by omega) (s1.tr s2) r2
  refine ev_start 1 (lv := [some (.ref 67), none]) rfl (by decide) (Nat.le_of_ble_eq_true rfl) ?_
  refine ev_iconst (nI 0) dX12_reverseList_0 rfl ?_
  refine ev_ist1 dX12_reverseList_1 (by decide) rfl ?_
  exact loop (L.length / 2) 0 h (by omega) mod.rf (by rw [rvF_0]; exact r)
end LIST4
