section SLOT2
variable {G : MG} {d : Nat} {h : MH}
def gdS (S : Nat → Sl) (x : Int32) (q : Nat) : Prop := ∃ k, k < 4 ∧ x = nI k ∧ (S k).1 = q
theorem slE_g {S : Nat → Sl} {k q : Nat} {f : Nat → Int32} (hk : k < 4) (e : (S k).1 = q) (hq : q ≠ 0) : slE S (nI k) q f = f k := by
  rw [slE_t hk, if_neg (by omega), if_pos e]
theorem slE_n {S : Nat → Sl} {x : Int32} {q : Nat} (ng : ¬ gdS S x q) : ∃ E : Int32, E ≠ 0 ∧ ∀ f, slE S x q f = E := by
  by_cases hx : inR x 4
  · obtain ⟨k, hk, rfl⟩ := hx
    by_cases c : (S k).1 = 0
    · exact ⟨-11, by decide, fun f => by rw [slE_t hk, if_pos c]⟩
    · exact ⟨-12, by decide, fun f => by rw [slE_t hk, if_neg c, if_neg (fun z => ng ⟨k, hk, rfl, z⟩)]⟩
  · exact ⟨-1, by decide, fun f => slE_f hx⟩
/-! load -/
noncomputable def ldL (S : Nat → Sl) (L : List Nat) (x : Int32) : List Nat := if b01 (gdS S x 1) = 0 then L else (S x.toNatClampNeg).2.map (fun z => z.toNatClampNeg)
theorem clamp_map {K : List Nat} (o : okL K) : (K.map nI).map (fun z => z.toNatClampNeg) = K := by
  refine getD_ext (by rw [List.length_map, List.length_map]) (fun i hi => ?_)
  rw [List.length_map, List.length_map] at hi
  have := o.2 i hi
  rw [List.getD_eq_getElem?_getD, List.getElem?_map, List.getElem?_map, List.getElem?_eq_getElem hi]
  show (nI K[i]).toNatClampNeg = K.getD i 0
  have e : K.getD i 0 = K[i] := by rw [List.getD_eq_getElem?_getD, List.getElem?_eq_getElem hi]; rfl
  rw [e] at this ⊢
  exact nI_clamp (by omega)
theorem ldL_ok {S : Nat → Sl} {L : List Nat} {x : Int32} (o : okSS S) (l : okL L) : okL (ldL S L x) := by
  unfold ldL
  by_cases c : gdS S x 1
  · rw [b01_t c, if_neg (show ¬ 1 = 0 by decide)]
    obtain ⟨k, hk, rfl, e⟩ := c
    rw [nI_clamp (by omega)]
    obtain ⟨K, oK, eK⟩ := (o k hk).2.2 e
    rw [eK, clamp_map oK]; exact oK
  · rw [b01_f c, if_pos (show 0 = 0 from rfl)]; exact l
theorem cl_loadListC {S : Nat → Sl} {L : List Nat} {x : Int32} (s : SC h S) (o : okSS S) (r : rowIs h 40 L) : Cl G (d + 2) M_X11_loadList [.ref 0, .int x] h (fun rv h' => rv = some (.int (slE S x 1 (fun k => nI (S k).2.length))) ∧ same (fun k => k < 40 ∨ 45 < k) h h' ∧ rowIs h' 40 (ldL S L x)) := by
  unfold ldL
  by_cases c : gdS S x 1
  · rw [b01_t c, if_neg (show ¬ 1 = 0 by decide)]
    obtain ⟨k, hk, rfl, e⟩ := c
    rw [nI_clamp (by omega), slE_g hk e (by decide)]
    obtain ⟨K, oK, eK⟩ := (o k hk).2.2 e
    have sk := (s k hk).2 (by omega)
    have l24 := oK.1
    have hlen : (S k).2.length = K.length := by rw [eK, List.length_map]
    have rK : rowIs h (53 + 3 * k) K := ⟨by rw [sk.1, hlen], fun i hi => by rw [sk.2 i (by omega), eK, map_get hi]⟩
    rw [hlen, eK, clamp_map oK]
    have hs := sl_hs hk
    have hrow := sl_row hk
    obtain ⟨hr, ha, -⟩ := sl_row hk
    have ce := cl_slotErrorC (G := G) (d := d + 0) (x := nI k) (q := 1) s o (by decide)
    rw [slE_g hk e (by decide)] at ce
    refine ev_start 1 (lv := [some (.ref 0), some (.int (nI k)), none]) rfl (by decide) (Nat.le_of_ble_eq_true rfl) ?_
    refine ev_aload_n dX11_loadList_0 rfl ?_
    refine ev_iload_n dX11_loadList_1 rfl ?_
    refine ev_iconst (nI 1) dX11_loadList_2 rfl ?_
    refine ev_callV (ce) ok_X11_slotError ml_X11_316 rfl rfl rfl rfl (Nat.le_of_ble_eq_true rfl) dX11_loadList_3 (kI ?_)
    refine ev_ist2 dX11_loadList_6 (by decide) rfl ?_
    refine ev_iload_n dX11_loadList_7 rfl ?_
    refine ev_if_eqN 13 dX11_loadList_8 (by decide) (by omega) (fun c8 => ?_) (fun c8 => ?_)
    · refine ev_aload_n dX11_loadList_13 rfl ?_
      refine ev_getR fl_X11_53 rfl rfl dX11_loadList_14 ?_
      refine ev_getR fl_X11_253 rfl rfl dX11_loadList_17 ?_
      refine ev_aload_n dX11_loadList_20 rfl ?_
      refine ev_getR fl_X11_66 rfl rfl dX11_loadList_21 ?_
      refine ev_iload_n dX11_loadList_24 rfl ?_
      refine ev_aaldN (kd := 1) rfl dX11_loadList_25 (by decide) (by omega) (by omega) (sl_el hk) ?_
      refine ev_getR fl_X11_315 hs rfl dX11_loadList_26 ?_
      refine ev_callV (cl_copyFrom row_40 hrow (by omega) (by omega) rK.1 (by omega) (by omega)) ok_X7_copyFrom ml_X11_293 rfl rfl rfl rfl (Nat.le_of_ble_eq_true rfl) dX11_loadList_29 (kV ?_)
      refine ev_aload_n dX11_loadList_32 rfl ?_
      refine ev_getR fl_X11_53 rfl rfl dX11_loadList_33 ?_
      refine ev_getR fl_X11_253 rfl rfl dX11_loadList_36 ?_
      refine ev_getIv ((rowIs_copy (p := 40) rK).1) fl_X11_148 rfl rfl dX11_loadList_39 ?_
      refine ev_iret dX11_loadList_42 rfl ?_
      exact ⟨rfl, same_copy (by decide) (by decide), rowIs_copy rK⟩
    · exact absurd rfl c8
  · rw [b01_f c, if_pos (show 0 = 0 from rfl)]
    obtain ⟨E, E0, hE⟩ := slE_n c
    rw [hE]
    have ce := cl_slotErrorC (G := G) (d := d + 0) (x := x) (q := 1) s o (by decide)
    rw [hE] at ce
    refine ev_start 1 (lv := [some (.ref 0), some (.int x), none]) rfl (by decide) (Nat.le_of_ble_eq_true rfl) ?_
    refine ev_aload_n dX11_loadList_0 rfl ?_
    refine ev_iload_n dX11_loadList_1 rfl ?_
    refine ev_iconst (nI 1) dX11_loadList_2 rfl ?_
    refine ev_callV (ce) ok_X11_slotError ml_X11_316 rfl rfl rfl rfl (Nat.le_of_ble_eq_true rfl) dX11_loadList_3 (kI ?_)
    refine ev_ist2 dX11_loadList_6 (by decide) rfl ?_
    refine ev_iload_n dX11_loadList_7 rfl ?_
    refine ev_if_eq 13 dX11_loadList_8 (by decide) (fun c8 => ?_) (fun c8 => ?_)
    · exact absurd c8 E0
    · refine ev_iload_n dX11_loadList_11 rfl ?_
      refine ev_iret dX11_loadList_12 rfl ?_
      exact ⟨rfl, same.rf, r⟩
theorem cl_loadListM {S : Nat → Sl} {L : List Nat} {x : Int32} (s : SM h S) (o : okSS S) (r : lM h L) : Cl G (d + 3) M_X12_loadList [.ref 67, .int x] h (fun rv h' => rv = some (.int (slE S x 1 (fun k => nI (S k).2.length))) ∧ lm h h' ∧ lM h' (ldL S L x)) := by
  unfold ldL
  by_cases c : gdS S x 1
  · rw [b01_t c, if_neg (show ¬ 1 = 0 by decide)]
    obtain ⟨k, hk, rfl, e⟩ := c
    rw [nI_clamp (by omega), slE_g hk e (by decide)]
    obtain ⟨K, oK, eK⟩ := (o k hk).2.2 e
    have sk := (s k hk).2 (by omega)
    have l24 := oK.1
    have hlen : (S k).2.length = K.length := by rw [eK, List.length_map]
    have e84 : h.1 84 k = nI K.length := by rw [sk.1, hlen]
    have e86 : hold (h.1 (86 + k)) K := fun i hi => by rw [sk.2 i (by omega), eK, map_get hi]
    rw [hlen, eK, clamp_map oK]
    have ha := sl_ha hk
    have ce := cl_slotErrorM (G := G) (d := d) (x := nI k) (q := 1) s o (by decide)
    rw [slE_g hk e (by decide)] at ce
    have loop : ∀ (n i : Nat) (f : Nat → Int32), i + n = K.length → (∀ j, j < i → f j = nI (K.getD j 0)) → Ev G (d + 3) M_X12_loadList 25 [some (.ref 67), some (.int (nI k)), some (.int (nI 0)), some (.int (nI i))] [] (m_putA (m_put h 67 18 (nI K.length)) 78 f) (fun rv h' => rv = some (.int (nI K.length)) ∧ lm h h' ∧ lM h' K) := by
      intro n
      have e1 : ∀ f, (m_putA (m_put h 67 18 (nI K.length)) 78 f).1 67 18 = nI K.length := fun f => by rw [ma_k (by omega)]; exact mp_eq _ _ _ _
      induction n with
      | zero =>
        intro i f hi hf
        obtain rfl : i = K.length := by omega
        refine ev_iload_n dX12_loadList_25 rfl ?_
        refine ev_aload_n dX12_loadList_26 rfl ?_
        refine ev_getIv (e1 f) fl_X12_251 rfl rfl dX12_loadList_27 ?_
        refine ev_icmp_geN 53 dX12_loadList_30 (by decide) (by omega) (by omega) (fun c30 => ?_) (fun c30 => ?_)
        · refine ev_aload_n dX12_loadList_53 rfl ?_
          refine ev_getIv (e1 f) fl_X12_251 rfl rfl dX12_loadList_54 ?_
          refine ev_iret dX12_loadList_57 rfl ?_
          exact ⟨rfl, (mod_f (by simp)).tr (mod_a (by simp) (by decide)), e1 f, by rw [ma_eq]; exact hf⟩
        · omega
      | succ n ih =>
        intro i f hi hf
        refine ev_iload_n dX12_loadList_25 rfl ?_
        refine ev_aload_n dX12_loadList_26 rfl ?_
        refine ev_getIv (e1 f) fl_X12_251 rfl rfl dX12_loadList_27 ?_
        refine ev_icmp_geN 53 dX12_loadList_30 (by decide) (by omega) (by omega) (fun c30 => ?_) (fun c30 => ?_)
        · omega
        · refine ev_aload_n dX12_loadList_33 rfl ?_
          refine ev_getR fl_X12_50 rfl rfl dX12_loadList_34 ?_
          refine ev_iload_n dX12_loadList_37 rfl ?_
          refine ev_aload_n dX12_loadList_38 rfl ?_
          refine ev_getR fl_X12_73 rfl rfl dX12_loadList_39 ?_
          refine ev_iload_n dX12_loadList_42 rfl ?_
          refine ev_aaldN (kd := 2) rfl dX12_loadList_43 (by decide) (by omega) (by omega) (sl_ea hk) ?_
          refine ev_iload_n dX12_loadList_44 rfl ?_
          refine ev_ialdv ((show (m_putA (m_put h 67 18 (nI K.length)) 78 f).1 (86 + k) i = nI (K.getD i 0) by rw [ma_k (by omega), mp_k (by omega)]; exact e86 i (by omega))) ha dX12_loadList_45 (by omega) (by omega) ?_
          refine ev_iastN rfl dX12_loadList_46 (by omega) (by omega) ?_
          rw [ma_set]
          refine ev_inc3N dX12_loadList_47 (by decide) rfl ?_
          refine ev_goto 25 dX12_loadList_50 (by decide) ?_
          exact ih (i + 1) _ (by omega) (fun j hj => by
          by_cases e : j = i
          · subst e; rw [pk_us]
          · rw [pk_un e]; exact hf j (by omega))
    refine ev_start 2 (lv := [some (.ref 67), some (.int (nI k)), none, none]) rfl (by decide) (Nat.le_of_ble_eq_true rfl) ?_
    refine ev_aload_n dX12_loadList_0 rfl ?_
    refine ev_iload_n dX12_loadList_1 rfl ?_
    refine ev_iconst (nI 1) dX12_loadList_2 rfl ?_
    refine ev_callV (ce) ok_X12_slotError ml_X12_305 rfl rfl rfl rfl (Nat.le_of_ble_eq_true rfl) dX12_loadList_3 (kI ?_)
    refine ev_ist2 dX12_loadList_6 (by decide) rfl ?_
    refine ev_iload_n dX12_loadList_7 rfl ?_
    refine ev_if_eqN 13 dX12_loadList_8 (by decide) (by omega) (fun c8 => ?_) (fun c8 => ?_)
    · refine ev_aload_n dX12_loadList_13 rfl ?_
      refine ev_aload_n dX12_loadList_14 rfl ?_
      refine ev_getR fl_X12_68 rfl rfl dX12_loadList_15 ?_
      refine ev_iload_n dX12_loadList_18 rfl ?_
      refine ev_ialdv (e84) rfl dX12_loadList_19 (by omega) (by omega) ?_
      refine ev_putI fp_X12_251 rfl rfl rfl rfl dX12_loadList_20 ?_
      refine ev_iconst (nI 0) dX12_loadList_23 rfl ?_
      refine ev_ist3 dX12_loadList_24 (by decide) rfl ?_
      have q := loop K.length 0 ((m_put h 67 18 (nI K.length)).1 78) (by omega) (fun j hj => absurd hj (Nat.not_lt_zero _))
      rw [ma_self] at q
      exact q
    · exact absurd rfl c8
  · rw [b01_f c, if_pos (show 0 = 0 from rfl)]
    obtain ⟨E, E0, hE⟩ := slE_n c
    rw [hE]
    have ce := cl_slotErrorM (G := G) (d := d) (x := x) (q := 1) s o (by decide)
    rw [hE] at ce
    refine ev_start 2 (lv := [some (.ref 67), some (.int x), none, none]) rfl (by decide) (Nat.le_of_ble_eq_true rfl) ?_
    refine ev_aload_n dX12_loadList_0 rfl ?_
    refine ev_iload_n dX12_loadList_1 rfl ?_
    refine ev_iconst (nI 1) dX12_loadList_2 rfl ?_
    refine ev_callV (ce) ok_X12_slotError ml_X12_305 rfl rfl rfl rfl (Nat.le_of_ble_eq_true rfl) dX12_loadList_3 (kI ?_)
    refine ev_ist2 dX12_loadList_6 (by decide) rfl ?_
    refine ev_iload_n dX12_loadList_7 rfl ?_
    refine ev_if_eq 13 dX12_loadList_8 (by decide) (fun c8 => ?_) (fun c8 => ?_)
    · exact absurd c8 E0
    · refine ev_iload_n dX12_loadList_11 rfl ?_
      refine ev_iret dX12_loadList_12 rfl ?_
      exact ⟨rfl, mod.rf, r⟩
/-! clear -/
noncomputable def clA (S : Nat → Sl) (x : Int32) : Int32 := aIn x 4 (fun k => nI (S k).1)
noncomputable def clS (S : Nat → Sl) (x : Int32) : Nat → Sl := if b01 (inR x 4) = 0 then S else upS S x.toNatClampNeg (0, [])
theorem clS_ok {S : Nat → Sl} {x : Int32} (o : okSS S) : okSS (clS S x) := by
  unfold clS
  by_cases c : b01 (inR x 4) = 0
  · rw [if_pos c]; exact o
  · rw [if_neg c]; exact okSS_up o ⟨by simp, by simp, fun z => absurd z (by simp)⟩
theorem cl_clearSlotC {S : Nat → Sl} {x : Int32} (s : SC h S) : Cl G (d + 1) M_X11_clearSlot [.ref 0, .int x] h (fun rv h' => rv = some (.int (clA S x)) ∧ same (fun j => j < 51 ∨ 63 < j) h h' ∧ SC h' (clS S x)) := by
  unfold clA clS
  by_cases hx : inR x 4
  · have q1 := b01_t hx
    rw [q1, if_neg (show ¬ 1 = 0 by decide)]
    obtain ⟨k, hk, rfl⟩ := hx
    rw [aIn_t hk (by decide), nI_clamp (by omega)]
    have hs := sl_hs hk
    have s1 := (s k hk).1
    refine ev_start 1 (lv := [some (.ref 0), some (.int (nI k)), none]) rfl (by decide) (Nat.le_of_ble_eq_true rfl) ?_
    refine ev_iload_n dX11_clearSlot_0 rfl ?_
    refine ev_callS (cl_isSlotC) ok_X11_isSlot ml_X11_309 rfl rfl (Nat.le_of_ble_eq_true rfl) dX11_clearSlot_1 (kI ?_)
    refine ev_if_neN 9 dX11_clearSlot_4 (by decide) (by omega) (fun c4 => ?_) (fun c4 => ?_)
    · refine ev_aload_n dX11_clearSlot_9 rfl ?_
      refine ev_getR fl_X11_66 rfl rfl dX11_clearSlot_10 ?_
      refine ev_iload_n dX11_clearSlot_13 rfl ?_
      refine ev_aaldN (kd := 1) rfl dX11_clearSlot_14 (by decide) (by omega) (by omega) (sl_el hk) ?_
      refine ev_getIv (s1) fl_X11_312 hs rfl dX11_clearSlot_15 ?_
      refine ev_ist2 dX11_clearSlot_18 (by decide) rfl ?_
      refine ev_aload_n dX11_clearSlot_19 rfl ?_
      refine ev_getR fl_X11_66 rfl rfl dX11_clearSlot_20 ?_
      refine ev_iload_n dX11_clearSlot_23 rfl ?_
      refine ev_aaldN (kd := 1) rfl dX11_clearSlot_24 (by decide) (by omega) (by omega) (sl_el hk) ?_
      refine ev_iconst (nI 0) dX11_clearSlot_25 rfl ?_
      refine ev_putI fp_X11_312 hs rfl rfl rfl dX11_clearSlot_26 ?_
      refine ev_iload_n dX11_clearSlot_29 rfl ?_
      refine ev_iret dX11_clearSlot_30 rfl ?_
      exact ⟨rfl, same_put (by omega), SC_up s (same_put (by omega)) ⟨mp_eq _ _ _ _, fun z => absurd rfl z⟩⟩
    · omega
  · have q1 := b01_f hx
    rw [q1, if_pos (show 0 = 0 from rfl), aIn_f hx]
    refine ev_start 1 (lv := [some (.ref 0), some (.int x), none]) rfl (by decide) (Nat.le_of_ble_eq_true rfl) ?_
    refine ev_iload_n dX11_clearSlot_0 rfl ?_
    refine ev_callS (cl_isSlotC) ok_X11_isSlot ml_X11_309 rfl rfl (Nat.le_of_ble_eq_true rfl) dX11_clearSlot_1 (kI ?_)
    refine ev_if_neN 9 dX11_clearSlot_4 (by decide) (by omega) (fun c4 => ?_) (fun c4 => ?_)
    · omega
    · refine ev_iconst (-1) dX11_clearSlot_7 rfl ?_
      refine ev_iret dX11_clearSlot_8 rfl ?_
      exact ⟨rfl, same.rf, s⟩
theorem cl_clearSlotM {S : Nat → Sl} {x : Int32} (s : SM h S) : Cl G (d + 2) M_X12_clearSlot [.ref 67, .int x] h (fun rv h' => rv = some (.int (clA S x)) ∧ mS h h' ∧ SM h' (clS S x)) := by
  unfold clA clS
  by_cases hx : inR x 4
  · have q1 := b01_t hx
    rw [q1, if_neg (show ¬ 1 = 0 by decide)]
    obtain ⟨k, hk, rfl⟩ := hx
    rw [aIn_t hk (by decide), nI_clamp (by omega)]
    have s1 := (s k hk).1
    refine ev_start 1 (lv := [some (.ref 67), some (.int (nI k)), none]) rfl (by decide) (Nat.le_of_ble_eq_true rfl) ?_
    refine ev_iload_n dX12_clearSlot_0 rfl ?_
    refine ev_callS (cl_isSlotM) ok_X12_isSlot ml_X12_302 rfl rfl (Nat.le_of_ble_eq_true rfl) dX12_clearSlot_1 (kI ?_)
    refine ev_if_neN 9 dX12_clearSlot_4 (by decide) (by omega) (fun c4 => ?_) (fun c4 => ?_)
    · refine ev_aload_n dX12_clearSlot_9 rfl ?_
      refine ev_getR fl_X12_65 rfl rfl dX12_clearSlot_10 ?_
      refine ev_iload_n dX12_clearSlot_13 rfl ?_
      refine ev_ialdv (s1) rfl dX12_clearSlot_14 (by omega) (by omega) ?_
      refine ev_ist2 dX12_clearSlot_15 (by decide) rfl ?_
      refine ev_aload_n dX12_clearSlot_16 rfl ?_
      refine ev_getR fl_X12_65 rfl rfl dX12_clearSlot_17 ?_
      refine ev_iload_n dX12_clearSlot_20 rfl ?_
      refine ev_iconst (nI 0) dX12_clearSlot_21 rfl ?_
      refine ev_iastN rfl dX12_clearSlot_22 (by omega) (by omega) ?_
      refine ev_iload_n dX12_clearSlot_23 rfl ?_
      refine ev_iret dX12_clearSlot_24 rfl ?_
      exact ⟨rfl, mod_p (by simp) (by decide), SM_up s (fun j hj => mp_j hj) (fun j hj => by rw [mp_k (by decide)]) (fun j hj => by rw [mp_k (by omega)]) ⟨mp_eq _ _ _ _, fun z => absurd rfl z⟩⟩
    · omega
  · have q1 := b01_f hx
    rw [q1, if_pos (show 0 = 0 from rfl), aIn_f hx]
    refine ev_start 1 (lv := [some (.ref 67), some (.int x), none]) rfl (by decide) (Nat.le_of_ble_eq_true rfl) ?_
    refine ev_iload_n dX12_clearSlot_0 rfl ?_
    refine ev_callS (cl_isSlotM) ok_X12_isSlot ml_X12_302 rfl rfl (Nat.le_of_ble_eq_true rfl) dX12_clearSlot_1 (kI ?_)
    refine ev_if_neN 9 dX12_clearSlot_4 (by decide) (by omega) (fun c4 => ?_) (fun c4 => ?_)
    · omega
    · refine ev_iconst (-1) dX12_clearSlot_7 rfl ?_
      refine ev_iret dX12_clearSlot_8 rfl ?_
      exact ⟨rfl, mod.rf, s⟩
/-! arrays -/
noncomputable def naA (x y : Int32) : Int32 := aIn x 4 (fun _ => if b01 (rg y 0 30) = 0 then (if y < 0 then -14 else -1) else y)
noncomputable def naS (S : Nat → Sl) (x y : Int32) : Nat → Sl := if b01 (inR x 4 ∧ rg y 0 30) = 0 then S else upS S x.toNatClampNeg (2, List.replicate y.toNatClampNeg 0)
theorem naS_ok {S : Nat → Sl} {x y : Int32} (o : okSS S) : okSS (naS S x y) := by
  unfold naS
  by_cases c : inR x 4 ∧ rg y 0 30
  · rw [b01_t c, if_neg (show ¬ 1 = 0 by decide)]
    obtain ⟨_, j, h1, h2, rfl⟩ := c
    rw [nI_clamp (show j < 2 ^ 31 by omega)]
    exact okSS_up o ⟨by simp, by simp; exact h2, fun z => absurd z (by simp)⟩
  · rw [b01_f c, if_pos (show 0 = 0 from rfl)]; exact o
theorem cl_newArrayC {S : Nat → Sl} {x y : Int32} (s : SC h S) : Cl G (d + 2) M_X11_newArray [.ref 0, .int x, .int y] h (fun rv h' => rv = some (.int (naA x y)) ∧ same (fun j => j < 51 ∨ 63 < j) h h' ∧ SC h' (naS S x y)) := by
  unfold naA naS
  by_cases hx : inR x 4
  · have q1 := b01_t hx
    have hx0 := hx
    obtain ⟨k, hk, rfl⟩ := hx
    rw [aIn_t hk (by decide), nI_clamp (by omega)]
    by_cases hy : rg y 0 30
    · rw [b01_t hy, b01_t ⟨hx0, hy⟩, if_neg (show ¬ 1 = 0 by decide), if_neg (show ¬ 1 = 0 by decide)]
      obtain ⟨j, j1, j2, rfl⟩ := hy
      rw [nI_clamp (show j < 2 ^ 31 by omega)]
      have hs := sl_hs hk
      have hrow := sl_row hk
      obtain ⟨hr, ha, -⟩ := sl_row hk
      refine ev_start 0 (lv := [some (.ref 0), some (.int (nI k)), some (.int (nI j))]) rfl (by decide) (Nat.le_of_ble_eq_true rfl) ?_
      refine ev_iload_n dX11_newArray_0 rfl ?_
      refine ev_callS (cl_isSlotC) ok_X11_isSlot ml_X11_309 rfl rfl (Nat.le_of_ble_eq_true rfl) dX11_newArray_1 (kI ?_)
      refine ev_if_eqN 13 dX11_newArray_4 (by decide) (by omega) (fun c4 => ?_) (fun c4 => ?_)
      · omega
      · refine ev_iload_n dX11_newArray_7 rfl ?_
        refine ev_bipush (nI 30) dX11_newArray_8 rfl ?_
        refine ev_icmp_leN 15 dX11_newArray_10 (by decide) (by omega) (by omega) (fun c10 => ?_) (fun c10 => ?_)
        · refine ev_iload_n dX11_newArray_15 rfl ?_
          refine ev_if_geN 22 dX11_newArray_16 (by decide) (by omega) (fun c16 => ?_) (fun c16 => ?_)
          · refine ev_aload_n dX11_newArray_22 rfl ?_
            refine ev_getR fl_X11_66 rfl rfl dX11_newArray_23 ?_
            refine ev_iload_n dX11_newArray_26 rfl ?_
            refine ev_aaldN (kd := 1) rfl dX11_newArray_27 (by decide) (by omega) (by omega) (sl_el hk) ?_
            refine ev_iconst (nI 2) dX11_newArray_28 rfl ?_
            refine ev_putI fp_X11_312 hs rfl rfl rfl dX11_newArray_29 ?_
            refine ev_aload_n dX11_newArray_32 rfl ?_
            refine ev_getR fl_X11_66 rfl rfl dX11_newArray_33 ?_
            refine ev_iload_n dX11_newArray_36 rfl ?_
            refine ev_aaldN (kd := 1) rfl dX11_newArray_37 (by decide) (by omega) (by omega) (sl_el hk) ?_
            refine ev_getR fl_X11_315 hs rfl dX11_newArray_38 ?_
            refine ev_iload_n dX11_newArray_41 rfl ?_
            refine ev_callV (cl_fillWithZeros hrow j2) ok_X7_fillWithZeros ml_X11_319 hr rfl rfl rfl (Nat.le_of_ble_eq_true rfl) dX11_newArray_42 ?_
            rintro rv h2 ⟨rfl, f, rfl, hf⟩
            refine ev_iload_n dX11_newArray_45 rfl ?_
            refine ev_iret dX11_newArray_46 rfl ?_
            refine ⟨rfl, ((same_put (by omega)).tr (same_put (by omega))).tr (same_putA (by omega)), SC_up s (((same_put (by omega)).tr (same_put (by omega))).tr (same_putA (by omega))) ⟨?_, fun _ => ⟨?_, fun i hi => ?_⟩⟩⟩
            · rw [ma_k (by omega), mp_k (by omega)]; exact mp_eq _ _ _ _
            · rw [ma_k (by omega), List.length_replicate]; exact mp_eq _ _ _ _
            · rw [List.length_replicate] at hi
              rw [rep_get hi, ma_eq]; exact hf i hi
          · exact c16.elim
        · omega
    · rw [b01_f hy, b01_f (fun z => hy z.2), if_pos (show 0 = 0 from rfl), if_pos (show 0 = 0 from rfl)]
      refine ev_start 0 (lv := [some (.ref 0), some (.int (nI k)), some (.int y)]) rfl (by decide) (Nat.le_of_ble_eq_true rfl) ?_
      refine ev_iload_n dX11_newArray_0 rfl ?_
      refine ev_callS (cl_isSlotC) ok_X11_isSlot ml_X11_309 rfl rfl (Nat.le_of_ble_eq_true rfl) dX11_newArray_1 (kI ?_)
      refine ev_if_eqN 13 dX11_newArray_4 (by decide) (by omega) (fun c4 => ?_) (fun c4 => ?_)
      · omega
      · refine ev_iload_n dX11_newArray_7 rfl ?_
        refine ev_bipush (nI 30) dX11_newArray_8 rfl ?_
        refine ev_icmp_le 15 dX11_newArray_10 (by decide) (fun c10 => ?_) (fun c10 => ?_)
        · refine ev_iload_n dX11_newArray_15 rfl ?_
          refine ev_if_ge 22 dX11_newArray_16 (by decide) (fun c16 => ?_) (fun c16 => ?_)
          · exact absurd ((rg_iff (by decide) (by decide)).mpr ⟨c16, c10⟩) hy
          · refine ev_bipush (-14) dX11_newArray_19 rfl ?_
            refine ev_iret dX11_newArray_21 rfl ?_
            exact ⟨by rw [if_pos (Int32.not_le.mp c16)], same.rf, s⟩
        · refine ev_iconst (-1) dX11_newArray_13 rfl ?_
          refine ev_iret dX11_newArray_14 rfl ?_
          exact ⟨by rw [if_neg (fun z => c10 (Int32.le_of_lt (Int32.lt_of_lt_of_le z (by decide))))], same.rf, s⟩
  · have q1 := b01_f hx
    rw [aIn_f hx, b01_f (show ¬ (inR x 4 ∧ rg y 0 30) from fun z => hx z.1), if_pos (show 0 = 0 from rfl)]
    refine ev_start 0 (lv := [some (.ref 0), some (.int x), some (.int y)]) rfl (by decide) (Nat.le_of_ble_eq_true rfl) ?_
    refine ev_iload_n dX11_newArray_0 rfl ?_
    refine ev_callS (cl_isSlotC) ok_X11_isSlot ml_X11_309 rfl rfl (Nat.le_of_ble_eq_true rfl) dX11_newArray_1 (kI ?_)
    refine ev_if_eqN 13 dX11_newArray_4 (by decide) (by omega) (fun c4 => ?_) (fun c4 => ?_)
    · refine ev_iconst (-1) dX11_newArray_13 rfl ?_
      refine ev_iret dX11_newArray_14 rfl ?_
      exact ⟨rfl, same.rf, s⟩
    · omega
theorem cl_newArrayM {S : Nat → Sl} {x y : Int32} (s : SM h S) : Cl G (d + 2) M_X12_newArray [.ref 67, .int x, .int y] h (fun rv h' => rv = some (.int (naA x y)) ∧ mS h h' ∧ SM h' (naS S x y)) := by
  unfold naA naS
  by_cases hx : inR x 4
  · have q1 := b01_t hx
    have hx0 := hx
    obtain ⟨k, hk, rfl⟩ := hx
    rw [aIn_t hk (by decide), nI_clamp (by omega)]
    by_cases hy : rg y 0 30
    · rw [b01_t hy, b01_t ⟨hx0, hy⟩, if_neg (show ¬ 1 = 0 by decide), if_neg (show ¬ 1 = 0 by decide)]
      obtain ⟨j, j1, j2, rfl⟩ := hy
      rw [nI_clamp (show j < 2 ^ 31 by omega)]
      have ha := sl_ha hk
      have loop : ∀ (n i : Nat) (f : Nat → Int32), i + n = j → (∀ u, u < i → f u = nI 0) → Ev G (d + 2) M_X12_newArray 38 [some (.ref 67), some (.int (nI k)), some (.int (nI j)), some (.int (nI i))] [] (m_putA (m_put (m_put h 83 k (nI 2)) 84 k (nI j)) (86 + k) f) (fun rv h' => rv = some (.int (nI j)) ∧ mS h h' ∧ SM h' (upS S k (2, List.replicate j 0))) := by
        intro n
        induction n with
        | zero =>
          intro i f hi hf
          obtain rfl : i = j := by omega
          refine ev_iload_n dX12_newArray_38 rfl ?_
          refine ev_iload_n dX12_newArray_39 rfl ?_
          refine ev_icmp_geN 58 dX12_newArray_40 (by decide) (by omega) (by omega) (fun c40 => ?_) (fun c40 => ?_)
          · refine ev_iload_n dX12_newArray_58 rfl ?_
            refine ev_iret dX12_newArray_59 rfl ?_
            refine ⟨rfl, ((mod_p (by simp) (by decide)).tr (mod_p (by simp) (by decide))).tr (mod_a (by omega) (by omega)), SM_up s (fun u hu => ?_) (fun u hu => ?_) (fun u hu => ?_) ⟨?_, fun _ => ⟨?_, fun u hu => ?_⟩⟩⟩
            · rw [ma_k (by omega), mp_k (by decide), mp_j hu]
            · rw [ma_k (by omega), mp_j hu, mp_k (by decide)]
            · rw [ma_k (by omega), mp_k (by omega), mp_k (by omega)]
            · rw [ma_k (by omega), mp_k (by decide)]; exact mp_eq _ _ _ _
            · rw [ma_k (by omega), List.length_replicate]; exact mp_eq _ _ _ _
            · rw [List.length_replicate] at hu
              rw [rep_get hu, ma_eq]; exact hf u hu
          · omega
        | succ n ih =>
          intro i f hi hf
          refine ev_iload_n dX12_newArray_38 rfl ?_
          refine ev_iload_n dX12_newArray_39 rfl ?_
          refine ev_icmp_geN 58 dX12_newArray_40 (by decide) (by omega) (by omega) (fun c40 => ?_) (fun c40 => ?_)
          · omega
          · refine ev_aload_n dX12_newArray_43 rfl ?_
            refine ev_getR fl_X12_73 rfl rfl dX12_newArray_44 ?_
            refine ev_iload_n dX12_newArray_47 rfl ?_
            refine ev_aaldN (kd := 2) rfl dX12_newArray_48 (by decide) (by omega) (by omega) (sl_ea hk) ?_
            refine ev_iload_n dX12_newArray_49 rfl ?_
            refine ev_iconst (nI 0) dX12_newArray_50 rfl ?_
            refine ev_iastN ha dX12_newArray_51 (by omega) (by omega) ?_
            rw [ma_set]
            refine ev_inc3N dX12_newArray_52 (by decide) rfl ?_
            refine ev_goto 38 dX12_newArray_55 (by decide) ?_
            exact ih (i + 1) _ (by omega) (fun u hu => by
            by_cases e : u = i
            · subst e; rw [pk_us]
            · rw [pk_un e]; exact hf u (by omega))
      refine ev_start 1 (lv := [some (.ref 67), some (.int (nI k)), some (.int (nI j)), none]) rfl (by decide) (Nat.le_of_ble_eq_true rfl) ?_
      refine ev_iload_n dX12_newArray_0 rfl ?_
      refine ev_callS (cl_isSlotM) ok_X12_isSlot ml_X12_302 rfl rfl (Nat.le_of_ble_eq_true rfl) dX12_newArray_1 (kI ?_)
      refine ev_if_eqN 13 dX12_newArray_4 (by decide) (by omega) (fun c4 => ?_) (fun c4 => ?_)
      · omega
      · refine ev_iload_n dX12_newArray_7 rfl ?_
        refine ev_bipush (nI 30) dX12_newArray_8 rfl ?_
        refine ev_icmp_leN 15 dX12_newArray_10 (by decide) (by omega) (by omega) (fun c10 => ?_) (fun c10 => ?_)
        · refine ev_iload_n dX12_newArray_15 rfl ?_
          refine ev_if_geN 22 dX12_newArray_16 (by decide) (by omega) (fun c16 => ?_) (fun c16 => ?_)
          · refine ev_aload_n dX12_newArray_22 rfl ?_
            refine ev_getR fl_X12_65 rfl rfl dX12_newArray_23 ?_
            refine ev_iload_n dX12_newArray_26 rfl ?_
            refine ev_iconst (nI 2) dX12_newArray_27 rfl ?_
            refine ev_iastN rfl dX12_newArray_28 (by omega) (by omega) ?_
            refine ev_aload_n dX12_newArray_29 rfl ?_
            refine ev_getR fl_X12_68 rfl rfl dX12_newArray_30 ?_
            refine ev_iload_n dX12_newArray_33 rfl ?_
            refine ev_iload_n dX12_newArray_34 rfl ?_
            refine ev_iastN rfl dX12_newArray_35 (by omega) (by omega) ?_
            refine ev_iconst (nI 0) dX12_newArray_36 rfl ?_
            refine ev_ist3 dX12_newArray_37 (by decide) rfl ?_
            have q := loop j 0 ((m_put (m_put h 83 k (nI 2)) 84 k (nI j)).1 (86 + k)) (by omega) (fun u hu => absurd hu (Nat.not_lt_zero _))
            rw [ma_self] at q
            exact q
          · exact c16.elim
        · omega
    · rw [b01_f hy, b01_f (fun z => hy z.2), if_pos (show 0 = 0 from rfl), if_pos (show 0 = 0 from rfl)]
      refine ev_start 1 (lv := [some (.ref 67), some (.int (nI k)), some (.int y), none]) rfl (by decide) (Nat.le_of_ble_eq_true rfl) ?_
      refine ev_iload_n dX12_newArray_0 rfl ?_
      refine ev_callS (cl_isSlotM) ok_X12_isSlot ml_X12_302 rfl rfl (Nat.le_of_ble_eq_true rfl) dX12_newArray_1 (kI ?_)
      refine ev_if_eqN 13 dX12_newArray_4 (by decide) (by omega) (fun c4 => ?_) (fun c4 => ?_)
      · omega
      · refine ev_iload_n dX12_newArray_7 rfl ?_
        refine ev_bipush (nI 30) dX12_newArray_8 rfl ?_
        refine ev_icmp_le 15 dX12_newArray_10 (by decide) (fun c10 => ?_) (fun c10 => ?_)
        · refine ev_iload_n dX12_newArray_15 rfl ?_
          refine ev_if_ge 22 dX12_newArray_16 (by decide) (fun c16 => ?_) (fun c16 => ?_)
          · exact absurd ((rg_iff (by decide) (by decide)).mpr ⟨c16, c10⟩) hy
          · refine ev_bipush (-14) dX12_newArray_19 rfl ?_
            refine ev_iret dX12_newArray_21 rfl ?_
            exact ⟨by rw [if_pos (Int32.not_le.mp c16)], mod.rf, s⟩
        · refine ev_iconst (-1) dX12_newArray_13 rfl ?_
          refine ev_iret dX12_newArray_14 rfl ?_
          exact ⟨by rw [if_neg (fun z => c10 (Int32.le_of_lt (Int32.lt_of_lt_of_le z (by decide))))], mod.rf, s⟩
  · have q1 := b01_f hx
    rw [aIn_f hx, b01_f (show ¬ (inR x 4 ∧ rg y 0 30) from fun z => hx z.1), if_pos (show 0 = 0 from rfl)]
    refine ev_start 1 (lv := [some (.ref 67), some (.int x), some (.int y), none]) rfl (by decide) (Nat.le_of_ble_eq_true rfl) ?_
    refine ev_iload_n dX12_newArray_0 rfl ?_
    refine ev_callS (cl_isSlotM) ok_X12_isSlot ml_X12_302 rfl rfl (Nat.le_of_ble_eq_true rfl) dX12_newArray_1 (kI ?_)
    refine ev_if_eqN 13 dX12_newArray_4 (by decide) (by omega) (fun c4 => ?_) (fun c4 => ?_)
    · refine ev_iconst (-1) dX12_newArray_13 rfl ?_
      refine ev_iret dX12_newArray_14 rfl ?_
      exact ⟨rfl, mod.rf, s⟩
    · omega
end SLOT2
