section BUILD
variable {G : MG} {d : Nat} {h : MH}
/-- the reference's heap: what stays beside its object, and which fields of it stay -/
def mod (P F : Nat → Prop) (h h' : MH) : Prop := (∀ k, k ≠ 67 → P k → h'.1 k = h.1 k ∧ h'.2 k = h.2 k) ∧ (∀ j, F j → h'.1 67 j = h.1 67 j)
theorem mod.rf {P F : Nat → Prop} {h : MH} : mod P F h h := ⟨fun _ _ _ => ⟨rfl, rfl⟩, fun _ _ => rfl⟩
theorem mod.tr {P F : Nat → Prop} {h h1 h2 : MH} (a : mod P F h h1) (b : mod P F h1 h2) : mod P F h h2 := ⟨fun k e hk => ⟨(b.1 k e hk).1.trans (a.1 k e hk).1, (b.1 k e hk).2.trans (a.1 k e hk).2⟩, fun j hj => (b.2 j hj).trans (a.2 j hj)⟩
theorem mod.mono {P F P' F' : Nat → Prop} {h h' : MH} (a : mod P F h h') (p : ∀ k, P' k → P k) (f : ∀ j, F' j → F j) : mod P' F' h h' := ⟨fun k e hk => a.1 k e (p k hk), fun j hj => a.2 j (f j hj)⟩
theorem mod_f {P F : Nat → Prop} {h : MH} {j : Nat} {v : Int32} (hj : ¬ F j) : mod P F h (m_put h 67 j v) := ⟨fun k e _ => ⟨mp_k e, rfl⟩, fun i hi => mp_j (fun e => hj (e ▸ hi))⟩
theorem mod_p {P F : Nat → Prop} {h : MH} {k j : Nat} {v : Int32} (hk : ¬ P k) (h67 : k ≠ 67) : mod P F h (m_put h k j v) := ⟨fun k' _ hk' => ⟨mp_k (fun e => hk (e ▸ hk')), rfl⟩, fun i _ => by rw [mp_k (Ne.symm h67)]⟩
theorem mod_a {P F : Nat → Prop} {h : MH} {k : Nat} {f : Nat → Int32} (hk : ¬ P k) (h67 : k ≠ 67) : mod P F h (m_putA h k f) := ⟨fun k' _ hk' => ⟨ma_k (fun e => hk (e ▸ hk')), rfl⟩, fun i _ => by rw [ma_k (Ne.symm h67)]⟩
theorem cl_recordChangeM {n N : Nat} {HL : List Nat} (g : gM h n N) (hh : hM h HL) (hl : HL.length ≤ 12) : Cl G d M_X12_recordChange [.ref 67] h (fun rv h' => rv = none ∧ mod (fun k => k ≠ 69) (fun j => j ≠ 3) h h' ∧ hM h' (pushH HL N)) := by
  have fin : ∀ (L : List Nat) (h1 : MH), L.length < 12 → mod (fun k => k ≠ 69) (fun j => j ≠ 3) h h1 → hM h1 L → pushH HL N = L ++ [N] → ∀ x1 : Option Value, Ev G d M_X12_recordChange 49 [some (.ref 67), x1] [] h1 (fun rv h' => rv = none ∧ mod (fun k => k ≠ 69) (fun j => j ≠ 3) h h' ∧ hM h' (pushH HL N)) := by
    intro L h1 hL hm hh1 hp x1
    have loop : ∀ (k v : Nat) (h2 : MH), v + k = 7 → mod (fun k => k ≠ 69) (fun _ => True) h1 h2 → (∀ i, i < 7 * L.length → h2.1 69 i = h1.1 69 i) → (∀ w, w < v → h2.1 69 (7 * L.length + w) = nI (nb N w)) → Ev G d M_X12_recordChange 51 [some (.ref 67), some (.int (nI v))] [] h2 (fun rv h' => rv = none ∧ mod (fun k => k ≠ 69) (fun j => j ≠ 3) h h' ∧ hM h' (pushH HL N)) := by
      intro k
      induction k with
      | zero =>
        intro v h2 hv m2 e1 e2
        have hc : h2.1 67 3 = nI L.length := by rw [m2.2 3 trivial]; exact hh1.1
        refine ev_iload_n dX12_recordChange_51 rfl ?_
        refine ev_bipush (nI 7) dX12_recordChange_52 rfl ?_
        refine ev_icmp_geN 83 dX12_recordChange_54 (by decide) (by omega) (by omega) (fun c54 => ?_) (fun c54 => ?_)
        · refine ev_aload_n dX12_recordChange_83 rfl ?_
          refine ev_dup dX12_recordChange_84 rfl ?_
          refine ev_getIv (hc) fl_X12_83 rfl rfl dX12_recordChange_85 ?_
          refine ev_iconst (nI 1) dX12_recordChange_88 rfl ?_
          refine ev_iaddN dX12_recordChange_89 ?_
          refine ev_putI fp_X12_83 rfl rfl rfl rfl dX12_recordChange_90 ?_
          refine ev_ret dX12_recordChange_93 rfl ?_
          refine ⟨rfl, (hm.tr (m2.mono (fun _ z => z) (fun _ _ => trivial))).tr (mod_f (by simp)), ?_⟩
          rw [hp]
          refine ⟨by rw [mp_eq]; simp, fun i hi w hw => ?_⟩
          rw [mp_k (by decide)]
          rw [List.length_append, List.length_singleton] at hi
          by_cases e : i = L.length
          · subst e
            rw [e2 w (by omega), List.getD_eq_getElem?_getD, List.getElem?_append_right (by omega)]; simp
          · rw [e1 _ (by omega), hh1.2 i (by omega) w hw, List.getD_eq_getElem?_getD, List.getD_eq_getElem?_getD, List.getElem?_append_left (by omega)]
        · omega
      | succ k ih =>
        intro v h2 hv m2 e1 e2
        have hc : h2.1 67 3 = nI L.length := by rw [m2.2 3 trivial]; exact hh1.1
        have ha : h2.1 68 v = nI (nb N v) := by rw [(m2.1 68 (by decide) (by decide)).1, (hm.1 68 (by decide) (by decide)).1]; exact g.2 v (by omega)
        refine ev_iload_n dX12_recordChange_51 rfl ?_
        refine ev_bipush (nI 7) dX12_recordChange_52 rfl ?_
        refine ev_icmp_geN 83 dX12_recordChange_54 (by decide) (by omega) (by omega) (fun c54 => ?_) (fun c54 => ?_)
        · omega
        · refine ev_aload_n dX12_recordChange_57 rfl ?_
          refine ev_getR fl_X12_19 rfl rfl dX12_recordChange_58 ?_
          refine ev_aload_n dX12_recordChange_61 rfl ?_
          refine ev_getIv (hc) fl_X12_83 rfl rfl dX12_recordChange_62 ?_
          refine ev_bipush (nI 7) dX12_recordChange_65 rfl ?_
          refine ev_imulN dX12_recordChange_67 ?_
          refine ev_iload_n dX12_recordChange_68 rfl ?_
          refine ev_iaddN dX12_recordChange_69 ?_
          refine ev_aload_n dX12_recordChange_70 rfl ?_
          refine ev_getR fl_X12_15 rfl rfl dX12_recordChange_71 ?_
          refine ev_iload_n dX12_recordChange_74 rfl ?_
          refine ev_ialdv (ha) rfl dX12_recordChange_75 (by omega) (by omega) ?_
          refine ev_iastN rfl dX12_recordChange_76 (by omega) (by omega) ?_
          refine ev_inc1N dX12_recordChange_77 (by decide) rfl ?_
          refine ev_goto 51 dX12_recordChange_80 (by decide) ?_
          have ec : L.length * 7 + v = 7 * L.length + v := by omega
          rw [ec]
          refine ih (v + 1) _ (by omega) (m2.tr (mod_p (by simp) (by decide))) (fun i hi => ?_) (fun w hw => ?_)
          · rw [mp_j (by omega)]; exact e1 i hi
          · by_cases e : w = v
            · subst e; rw [mp_eq]
            · rw [mp_j (by omega)]; exact e2 w (by omega)
    refine ev_iconst (nI 0) dX12_recordChange_49 rfl ?_
    refine ev_ist1 dX12_recordChange_50 (by decide) rfl ?_
    exact loop 7 0 h1 (by omega) mod.rf (fun _ _ => rfl) (fun w hw => absurd hw (by omega))
  have h1 := hh.1
  by_cases e : HL.length = 12
  · have hp : pushH HL N = HL.tail ++ [N] := by unfold pushH; rw [if_pos e]
    have hc := h1
    rw [e] at hc
    have loop : ∀ (k q : Nat) (h2 : MH), q + k = 84 → 7 ≤ q → mod (fun k => k ≠ 69) (fun _ => True) h h2 → (∀ i, i + 7 < q → h2.1 69 i = h.1 69 (i + 7)) → (∀ i, q ≤ i + 7 → h2.1 69 i = h.1 69 i) → Ev G d M_X12_recordChange 12 [some (.ref 67), some (.int (nI q))] [] h2 (fun rv h' => rv = none ∧ mod (fun k => k ≠ 69) (fun j => j ≠ 3) h h' ∧ hM h' (pushH HL N)) := by
      intro k
      induction k with
      | zero =>
        intro q h2 hq h7 m2 e1 e2
        have hc2 : h2.1 67 3 = nI 12 := by rw [m2.2 3 trivial]; exact hc
        refine ev_iload_n dX12_recordChange_12 rfl ?_
        refine ev_bipush (nI 84) dX12_recordChange_13 rfl ?_
        refine ev_icmp_geN 39 dX12_recordChange_15 (by decide) (by omega) (by omega) (fun c15 => ?_) (fun c15 => ?_)
        · refine ev_aload_n dX12_recordChange_39 rfl ?_
          refine ev_dup dX12_recordChange_40 rfl ?_
          refine ev_getIv (hc2) fl_X12_83 rfl rfl dX12_recordChange_41 ?_
          refine ev_iconst (nI 1) dX12_recordChange_44 rfl ?_
          refine ev_isubN dX12_recordChange_45 (by omega) ?_
          refine ev_putI fp_X12_83 rfl rfl rfl rfl dX12_recordChange_46 ?_
          refine fin HL.tail _ (by simp; omega) ((m2.mono (fun _ z => z) (fun _ _ => trivial)).tr (mod_f (by simp))) ⟨?_, fun i hi w hw => ?_⟩ hp _
          · rw [mp_eq]; simp [e]
          · simp [e] at hi
            rw [mp_k (by decide), e1 _ (by omega), show 7 * i + w + 7 = 7 * (i + 1) + w by omega, hh.2 (i + 1) (by omega) w hw, List.getD_eq_getElem?_getD, List.getD_eq_getElem?_getD]
            simp [List.getElem?_tail]
        · omega
      | succ k ih =>
        intro q h2 hq h7 m2 e1 e2
        refine ev_iload_n dX12_recordChange_12 rfl ?_
        refine ev_bipush (nI 84) dX12_recordChange_13 rfl ?_
        refine ev_icmp_geN 39 dX12_recordChange_15 (by decide) (by omega) (by omega) (fun c15 => ?_) (fun c15 => ?_)
        · omega
        · refine ev_aload_n dX12_recordChange_18 rfl ?_
          refine ev_getR fl_X12_19 rfl rfl dX12_recordChange_19 ?_
          refine ev_iload_n dX12_recordChange_22 rfl ?_
          refine ev_bipush (nI 7) dX12_recordChange_23 rfl ?_
          refine ev_isubN dX12_recordChange_25 (by omega) ?_
          refine ev_aload_n dX12_recordChange_26 rfl ?_
          refine ev_getR fl_X12_19 rfl rfl dX12_recordChange_27 ?_
          refine ev_iload_n dX12_recordChange_30 rfl ?_
          refine ev_ialdN rfl dX12_recordChange_31 (by omega) (by omega) ?_
          refine ev_iastN rfl dX12_recordChange_32 (by omega) (by omega) ?_
          refine ev_inc1N dX12_recordChange_33 (by decide) rfl ?_
          refine ev_goto 12 dX12_recordChange_36 (by decide) ?_
          refine ih (q + 1) _ (by omega) (by omega) (m2.tr (mod_p (by simp) (by decide))) (fun i hi => ?_) (fun i hi => ?_)
          · by_cases e3 : i = q - 7
            · subst e3; rw [mp_eq, e2 q (by omega), show q - 7 + 7 = q by omega]
            · rw [mp_j e3]; exact e1 i (by omega)
          · rw [mp_j (by omega)]; exact e2 i (by omega)
    refine ev_start 1 (lv := [some (.ref 67), none]) rfl (by decide) (Nat.le_of_ble_eq_true rfl) ?_
    refine ev_aload_n dX12_recordChange_0 rfl ?_
    refine ev_getIv (hc) fl_X12_83 rfl rfl dX12_recordChange_1 ?_
    refine ev_bipush (nI 12) dX12_recordChange_4 rfl ?_
    refine ev_icmp_neN 49 dX12_recordChange_6 (by decide) (by omega) (by omega) (fun c6 => ?_) (fun c6 => ?_)
    · exact absurd rfl c6
    · refine ev_bipush (nI 7) dX12_recordChange_9 rfl ?_
      refine ev_ist1 dX12_recordChange_11 (by decide) rfl ?_
      exact loop 77 7 h (by omega) (by omega) mod.rf (fun i hi => absurd hi (by omega)) (fun _ _ => rfl)
  · have hp : pushH HL N = HL ++ [N] := by unfold pushH; rw [if_neg e]
    refine ev_start 1 (lv := [some (.ref 67), none]) rfl (by decide) (Nat.le_of_ble_eq_true rfl) ?_
    refine ev_aload_n dX12_recordChange_0 rfl ?_
    refine ev_getIv (h1) fl_X12_83 rfl rfl dX12_recordChange_1 ?_
    refine ev_bipush (nI 12) dX12_recordChange_4 rfl ?_
    refine ev_icmp_neN 49 dX12_recordChange_6 (by decide) (by omega) (by omega) (fun c6 => ?_) (fun c6 => ?_)
    · exact fin HL h (by omega) mod.rf hh hp _
    · exact absurd c6 e
theorem cl_setVertexCountM {n N j : Nat} (g : gM h n N) (h1 : 1 ≤ j) (h2 : j ≤ 7) : Cl G (d + 1) M_X12_setVertexCount [.ref 67, .int (nI j)] h (fun rv h' => rv = some (.int (nI n)) ∧ mod (fun k => k ≠ 68) (fun i => i ≠ 0 ∧ i ≠ 3 ∧ i ≠ 5) h h' ∧ gM h' j 0 ∧ hM h' [] ∧ h'.1 67 5 = nI 1) := by
  have q1 : b01 (rg (nI j) 1 7) = 1 := b01_t ⟨j, h1, h2, rfl⟩
  have loop : ∀ (k v : Nat) (h2 : MH), v + k = 7 → mod (fun k => k ≠ 68) (fun i => i ≠ 0 ∧ i ≠ 3 ∧ i ≠ 5) h h2 → h2.1 67 0 = nI j → (∀ w, w < v → h2.1 68 w = nI 0) → Ev G (d + 1) M_X12_setVertexCount 26 [some (.ref 67), some (.int (nI j)), some (.int (nI n)), some (.int (nI v))] [] h2 (fun rv h' => rv = some (.int (nI n)) ∧ mod (fun k => k ≠ 68) (fun i => i ≠ 0 ∧ i ≠ 3 ∧ i ≠ 5) h h' ∧ gM h' j 0 ∧ hM h' [] ∧ h'.1 67 5 = nI 1) := by
    intro k
    induction k with
    | zero =>
      intro v h2 hv m2 e0 e1
      refine ev_iload_n dX12_setVertexCount_26 rfl ?_
      refine ev_bipush (nI 7) dX12_setVertexCount_27 rfl ?_
      refine ev_icmp_geN 45 dX12_setVertexCount_29 (by decide) (by omega) (by omega) (fun c29 => ?_) (fun c29 => ?_)
      · refine ev_aload_n dX12_setVertexCount_45 rfl ?_
        refine ev_iconst (nI 0) dX12_setVertexCount_46 rfl ?_
        refine ev_putI fp_X12_83 rfl rfl rfl rfl dX12_setVertexCount_47 ?_
        refine ev_aload_n dX12_setVertexCount_50 rfl ?_
        refine ev_iconst (nI 1) dX12_setVertexCount_51 rfl ?_
        refine ev_putI fp_X12_25 rfl rfl rfl rfl dX12_setVertexCount_52 ?_
        refine ev_iload_n dX12_setVertexCount_55 rfl ?_
        refine ev_iret dX12_setVertexCount_56 rfl ?_
        refine ⟨rfl, (m2.tr (mod_f (by simp))).tr (mod_f (by simp)), ⟨?_, fun w hw => ?_⟩, ⟨?_, fun i hi => absurd hi (by simp)⟩, by rw [mp_eq]⟩
        · rw [mp_j (by decide), mp_j (by decide)]; exact e0
        · rw [mp_k (by decide), mp_k (by decide), e1 w (by omega), show nb 0 w = 0 by unfold nb; simp]
        · rw [mp_j (by decide), mp_eq]; rfl
      · omega
    | succ k ih =>
      intro v h2 hv m2 e0 e1
      refine ev_iload_n dX12_setVertexCount_26 rfl ?_
      refine ev_bipush (nI 7) dX12_setVertexCount_27 rfl ?_
      refine ev_icmp_geN 45 dX12_setVertexCount_29 (by decide) (by omega) (by omega) (fun c29 => ?_) (fun c29 => ?_)
      · omega
      · refine ev_aload_n dX12_setVertexCount_32 rfl ?_
        refine ev_getR fl_X12_15 rfl rfl dX12_setVertexCount_33 ?_
        refine ev_iload_n dX12_setVertexCount_36 rfl ?_
        refine ev_iconst (nI 0) dX12_setVertexCount_37 rfl ?_
        refine ev_iastN rfl dX12_setVertexCount_38 (by omega) (by omega) ?_
        refine ev_inc3N dX12_setVertexCount_39 (by decide) rfl ?_
        refine ev_goto 26 dX12_setVertexCount_42 (by decide) ?_
        refine ih (v + 1) _ (by omega) (m2.tr (mod_p (by simp) (by decide))) (by rw [mp_k (by decide)]; exact e0) (fun w hw => ?_)
        by_cases e : w = v
        · subst e; rw [mp_eq]
        · rw [mp_j e]; exact e1 w (by omega)
  refine ev_start 2 (lv := [some (.ref 67), some (.int (nI j)), none, none]) rfl (by decide) (Nat.le_of_ble_eq_true rfl) ?_
  refine ev_iload_n dX12_setVertexCount_0 rfl ?_
  refine ev_i2l dX12_setVertexCount_1 rfl ?_
  refine ev_lconst (lN 1) dX12_setVertexCount_2 rfl ?_
  refine ev_ldc2 (lN 7) dX12_setVertexCount_3 kl_X12_86 ?_
  refine ev_callS (cl_btw (a := 1) (b := 7) rfl rfl (by decide) (by decide)) ok_X12_isBetween ml_X12_79 rfl rfl (Nat.le_of_ble_eq_true rfl) dX12_setVertexCount_6 (kI ?_)
  rw [q1]
  refine ev_if_neN 14 dX12_setVertexCount_9 (by decide) (by omega) (fun c9 => ?_) (fun c9 => ?_)
  · refine ev_aload_n dX12_setVertexCount_14 rfl ?_
    refine ev_getIv (g.1) fl_X12_9 rfl rfl dX12_setVertexCount_15 ?_
    refine ev_ist2 dX12_setVertexCount_18 (by decide) rfl ?_
    refine ev_aload_n dX12_setVertexCount_19 rfl ?_
    refine ev_iload_n dX12_setVertexCount_20 rfl ?_
    refine ev_putI fp_X12_9 rfl rfl rfl rfl dX12_setVertexCount_21 ?_
    refine ev_iconst (nI 0) dX12_setVertexCount_24 rfl ?_
    refine ev_ist3 dX12_setVertexCount_25 (by decide) rfl ?_
    exact loop 7 0 _ (by omega) (mod_f (by simp)) (by rw [mp_eq]) (fun w hw => absurd hw (by omega))
  · exact absurd c9 (by decide)
theorem cl_setVertexCountM_bad {x : Int32} (hx : ¬ rg x 1 7) : Cl G (d + 1) M_X12_setVertexCount [.ref 67, .int x] h (qI (-1) h) := by
  have q1 : b01 (rg x 1 7) = 0 := b01_f hx
  refine ev_start 2 (lv := [some (.ref 67), some (.int x), none, none]) rfl (by decide) (Nat.le_of_ble_eq_true rfl) ?_
  refine ev_iload_n dX12_setVertexCount_0 rfl ?_
  refine ev_i2l dX12_setVertexCount_1 rfl ?_
  refine ev_lconst (lN 1) dX12_setVertexCount_2 rfl ?_
  refine ev_ldc2 (lN 7) dX12_setVertexCount_3 kl_X12_86 ?_
  refine ev_callS (cl_btw (a := 1) (b := 7) rfl rfl (by decide) (by decide)) ok_X12_isBetween ml_X12_79 rfl rfl (Nat.le_of_ble_eq_true rfl) dX12_setVertexCount_6 (kI ?_)
  rw [q1]
  refine ev_if_neN 14 dX12_setVertexCount_9 (by decide) (by omega) (fun c9 => ?_) (fun c9 => ?_)
  · exact absurd rfl c9
  · refine ev_iconst (-1) dX12_setVertexCount_12 rfl ?_
    refine ev_iret dX12_setVertexCount_13 rfl ?_
    exact ⟨by with_reducible rfl, rfl⟩
theorem cl_revertChangeM {n N K : Nat} {HL : List Nat} (g : gM h n N) (hh : hM h (HL ++ [K])) (hl : HL.length < 12) : Cl G d M_X12_revertChange [.ref 67] h (fun rv h' => rv = some (.int (nI HL.length)) ∧ mod (fun k => k ≠ 68) (fun i => i ≠ 3 ∧ i ≠ 5) h h' ∧ gM h' n K ∧ hM h' HL ∧ h'.1 67 5 = nI 1) := by
  obtain ⟨h1, h2⟩ := hh
  rw [List.length_append, List.length_singleton] at h1 h2
  have ec : HL.length + 1 - 1 = HL.length := by omega
  have loop : ∀ (k v : Nat) (h3 : MH), v + k = 7 → mod (fun k => k ≠ 68) (fun i => i ≠ 3 ∧ i ≠ 5) h h3 → h3.1 67 3 = nI HL.length → (∀ w, w < v → h3.1 68 w = nI (nb K w)) → Ev G d M_X12_revertChange 22 [some (.ref 67), some (.int (nI v))] [] h3 (fun rv h' => rv = some (.int (nI HL.length)) ∧ mod (fun k => k ≠ 68) (fun i => i ≠ 3 ∧ i ≠ 5) h h' ∧ gM h' n K ∧ hM h' HL ∧ h'.1 67 5 = nI 1) := by
    intro k
    induction k with
    | zero =>
      intro v h3 hv m3 e0 e1
      refine ev_iload_n dX12_revertChange_22 rfl ?_
      refine ev_bipush (nI 7) dX12_revertChange_23 rfl ?_
      refine ev_icmp_geN 54 dX12_revertChange_25 (by decide) (by omega) (by omega) (fun c25 => ?_) (fun c25 => ?_)
      · refine ev_aload_n dX12_revertChange_54 rfl ?_
        refine ev_iconst (nI 1) dX12_revertChange_55 rfl ?_
        refine ev_putI fp_X12_25 rfl rfl rfl rfl dX12_revertChange_56 ?_
        refine ev_aload_n dX12_revertChange_59 rfl ?_
        refine ev_getIv ((show _ = nI HL.length by rw [mp_j (by decide)]; exact e0)) fl_X12_83 rfl rfl dX12_revertChange_60 ?_
        refine ev_iret dX12_revertChange_63 rfl ?_
        refine ⟨rfl, m3.tr (mod_f (by simp)), ⟨?_, fun w hw => ?_⟩, ⟨?_, fun i hi w hw => ?_⟩, by rw [mp_eq]⟩
        · rw [mp_j (by decide), m3.2 0 (by decide)]; exact g.1
        · rw [mp_k (by decide)]; exact e1 w (by omega)
        · rw [mp_j (by decide)]; exact e0
        · rw [mp_k (by decide), (m3.1 69 (by decide) (by decide)).1, h2 i (by omega) w hw, List.getD_eq_getElem?_getD, List.getD_eq_getElem?_getD, List.getElem?_append_left (by omega)]
      · omega
    | succ k ih =>
      intro v h3 hv m3 e0 e1
      have hv69 : h3.1 69 (HL.length * 7 + v) = nI (nb K v) := by
        rw [(m3.1 69 (by decide) (by decide)).1, show HL.length * 7 + v = 7 * HL.length + v by omega, h2 _ (by omega) v (by omega), List.getD_eq_getElem?_getD, List.getElem?_append_right (by omega)]; simp
      refine ev_iload_n dX12_revertChange_22 rfl ?_
      refine ev_bipush (nI 7) dX12_revertChange_23 rfl ?_
      refine ev_icmp_geN 54 dX12_revertChange_25 (by decide) (by omega) (by omega) (fun c25 => ?_) (fun c25 => ?_)
      · omega
      · refine ev_aload_n dX12_revertChange_28 rfl ?_
        refine ev_getR fl_X12_15 rfl rfl dX12_revertChange_29 ?_
        refine ev_iload_n dX12_revertChange_32 rfl ?_
        refine ev_aload_n dX12_revertChange_33 rfl ?_
        refine ev_getR fl_X12_19 rfl rfl dX12_revertChange_34 ?_
        refine ev_aload_n dX12_revertChange_37 rfl ?_
        refine ev_getIv (e0) fl_X12_83 rfl rfl dX12_revertChange_38 ?_
        refine ev_bipush (nI 7) dX12_revertChange_41 rfl ?_
        refine ev_imulN dX12_revertChange_43 ?_
        refine ev_iload_n dX12_revertChange_44 rfl ?_
        refine ev_iaddN dX12_revertChange_45 ?_
        refine ev_ialdv (hv69) rfl dX12_revertChange_46 (by omega) (by omega) ?_
        refine ev_iastN rfl dX12_revertChange_47 (by omega) (by omega) ?_
        refine ev_inc1N dX12_revertChange_48 (by decide) rfl ?_
        refine ev_goto 22 dX12_revertChange_51 (by decide) ?_
        refine ih (v + 1) _ (by omega) (m3.tr (mod_p (by simp) (by decide))) (by rw [mp_k (by decide)]; exact e0) (fun w hw => ?_)
        by_cases e : w = v
        · subst e; rw [mp_eq]
        · rw [mp_j e]; exact e1 w (by omega)
  refine ev_start 1 (lv := [some (.ref 67), none]) rfl (by decide) (Nat.le_of_ble_eq_true rfl) ?_
  refine ev_aload_n dX12_revertChange_0 rfl ?_
  refine ev_getIv (h1) fl_X12_83 rfl rfl dX12_revertChange_1 ?_
  refine ev_if_neN 10 dX12_revertChange_4 (by decide) (by omega) (fun c4 => ?_) (fun c4 => ?_)
  · refine ev_aload_n dX12_revertChange_10 rfl ?_
    refine ev_dup dX12_revertChange_11 rfl ?_
    refine ev_getIv (h1) fl_X12_83 rfl rfl dX12_revertChange_12 ?_
    refine ev_iconst (nI 1) dX12_revertChange_15 rfl ?_
    refine ev_isubN dX12_revertChange_16 (by omega) ?_
    rw [ec]
    refine ev_putI fp_X12_83 rfl rfl rfl rfl dX12_revertChange_17 ?_
    refine ev_iconst (nI 0) dX12_revertChange_20 rfl ?_
    refine ev_ist1 dX12_revertChange_21 (by decide) rfl ?_
    exact loop 7 0 _ (by omega) (mod_f (by simp)) (by rw [mp_eq]) (fun w hw => absurd hw (by omega))
  · omega
theorem cl_revertChangeM_bad (hh : hM h []) : Cl G d M_X12_revertChange [.ref 67] h (qI (-5) h) := by
  have h1 : h.1 67 3 = nI 0 := hh.1
  refine ev_start 1 (lv := [some (.ref 67), none]) rfl (by decide) (Nat.le_of_ble_eq_true rfl) ?_
  refine ev_aload_n dX12_revertChange_0 rfl ?_
  refine ev_getIv (h1) fl_X12_83 rfl rfl dX12_revertChange_1 ?_
  refine ev_if_neN 10 dX12_revertChange_4 (by decide) (by omega) (fun c4 => ?_) (fun c4 => ?_)
  · exact absurd rfl c4
  · refine ev_bipush (-5) dX12_revertChange_7 rfl ?_
    refine ev_iret dX12_revertChange_9 rfl ?_
    exact ⟨by with_reducible rfl, rfl⟩
theorem nb_tog {N u v w : Nat} (hu : u < 7) (hv : v < 7) (hw : w < 7) (huv : u ≠ v) : nb (N ^^^ eb u v) w = if w = u then nb N u ^^^ 2 ^ v else if w = v then nb N v ^^^ 2 ^ u else nb N w := by
  have hx : ∀ a b : Nat, a < 128 → b < 7 → a ^^^ 2 ^ b < 2 ^ 7 := fun a b h1 h2 => Nat.xor_lt_two_pow (n := 7) h1 (pow_lt h2)
  have key : ∀ i, i < 7 → (nb (N ^^^ eb u v) w).testBit i = ((nb N w).testBit i ^^ decide ((w = u ∧ i = v) ∨ (w = v ∧ i = u))) := by
    intro i hi; rw [nb_xor _ _ _ _ hi, nb_eb hu hv hw hi]
  by_cases e1 : w = u
  · subst e1
    rw [if_pos rfl]
    refine set_ext (k := 7) (nb_lt _ _) (hx _ _ (nb_lt _ _) hv) (fun i hi => ?_)
    rw [key i hi, Nat.testBit_xor, pow_bit]
    congr 1
    simp [huv, eq_comm]
  · rw [if_neg e1]
    by_cases e2 : w = v
    · subst e2
      rw [if_pos rfl]
      refine set_ext (k := 7) (nb_lt _ _) (hx _ _ (nb_lt _ _) hu) (fun i hi => ?_)
      rw [key i hi, Nat.testBit_xor, pow_bit]
      congr 1
      simp [e1, eq_comm]
    · rw [if_neg e2]
      refine set_ext (k := 7) (nb_lt _ _) (nb_lt _ _) (fun i hi => ?_)
      rw [key i hi]; simp [e1, e2]
theorem cl_toggleEdgeM {n N u v : Nat} {HL : List Nat} (g : gM h n N) (ok : gOK n N) (hh : hM h HL) (hl : HL.length ≤ 12) (hu : u < n) (hv : v < n) (huv : u ≠ v) : Cl G (d + 2) M_X12_toggleEdge [.ref 67, .int (nI u), .int (nI v)] h (fun rv h' => rv = some (.int (nI (b01 ((nb (N ^^^ eb u v) u).testBit v = true)))) ∧ mod (fun k => k ≠ 68 ∧ k ≠ 69) (fun i => i ≠ 3 ∧ i ≠ 5) h h' ∧ gM h' n (N ^^^ eb u v) ∧ hM h' (pushH HL N) ∧ h'.1 67 5 = nI 1) := by
  have hn := ok.2.1
  have q1 : b01 (inR (nI u) n) = 1 := b01_t ⟨u, hu, rfl⟩
  have q2 : b01 (inR (nI v) n) = 1 := b01_t ⟨v, hv, rfl⟩
  have e1 : 1 * 2 ^ v = 2 ^ v := Nat.one_mul _
  have e2 : 1 * 2 ^ u = 2 ^ u := Nat.one_mul _
  have p1 : 2 ^ v < 2 ^ 7 := pow_lt (by omega)
  have p2 : 2 ^ u < 2 ^ 7 := pow_lt (by omega)
  have q3 := b01_lt ((nb (N ^^^ eb u v) u).testBit v = true)
  refine ev_start 0 (lv := [some (.ref 67), some (.int (nI u)), some (.int (nI v))]) rfl (by decide) (Nat.le_of_ble_eq_true rfl) ?_
  refine ev_aload_n dX12_toggleEdge_0 rfl ?_
  refine ev_iload_n dX12_toggleEdge_1 rfl ?_
  refine ev_callV (cl_isVertexM g ok.1 hn) ok_X12_isVertex ml_X12_88 rfl rfl rfl rfl (Nat.le_of_ble_eq_true rfl) dX12_toggleEdge_2 (kI ?_)
  rw [q1]
  refine ev_if_eqN 21 dX12_toggleEdge_5 (by decide) (by omega) (fun c5 => ?_) (fun c5 => ?_)
  · exact absurd c5 (by decide)
  · refine ev_aload_n dX12_toggleEdge_8 rfl ?_
    refine ev_iload_n dX12_toggleEdge_9 rfl ?_
    refine ev_callV (cl_isVertexM g ok.1 hn) ok_X12_isVertex ml_X12_88 rfl rfl rfl rfl (Nat.le_of_ble_eq_true rfl) dX12_toggleEdge_10 (kI ?_)
    rw [q2]
    refine ev_if_eqN 21 dX12_toggleEdge_13 (by decide) (by omega) (fun c13 => ?_) (fun c13 => ?_)
    · exact absurd c13 (by decide)
    · refine ev_iload_n dX12_toggleEdge_16 rfl ?_
      refine ev_iload_n dX12_toggleEdge_17 rfl ?_
      refine ev_icmp_neN 23 dX12_toggleEdge_18 (by decide) (by omega) (by omega) (fun c18 => ?_) (fun c18 => ?_)
      · refine ev_aload_n dX12_toggleEdge_23 rfl ?_
        refine ev_callV (cl_recordChangeM g hh hl) ok_X12_recordChange ml_X12_92 rfl rfl rfl rfl (Nat.le_of_ble_eq_true rfl) dX12_toggleEdge_24 ?_
        rintro rv h1 ⟨rfl, m1, hh1⟩
        have a68 : ∀ w, w < 7 → h1.1 68 w = nI (nb N w) := fun w hw => by rw [(m1.1 68 (by decide) (by decide)).1]; exact g.2 w hw
        refine ev_aload_n dX12_toggleEdge_27 rfl ?_
        refine ev_getR fl_X12_15 rfl rfl dX12_toggleEdge_28 ?_
        refine ev_iload_n dX12_toggleEdge_31 rfl ?_
        refine ev_dup2 dX12_toggleEdge_32 rfl rfl ?_
        refine ev_ialdv (a68 u (by omega)) rfl dX12_toggleEdge_33 (by omega) (by omega) ?_
        refine ev_iconst (nI 1) dX12_toggleEdge_34 rfl ?_
        refine ev_iload_n dX12_toggleEdge_35 rfl ?_
        refine ev_ishlN dX12_toggleEdge_36 (by omega) (by omega) ?_
        rw [e1]
        refine ev_ixorN dX12_toggleEdge_37 ?_
        refine ev_iastN rfl dX12_toggleEdge_38 (by omega) (by omega) ?_
        refine ev_aload_n dX12_toggleEdge_39 rfl ?_
        refine ev_getR fl_X12_15 rfl rfl dX12_toggleEdge_40 ?_
        refine ev_iload_n dX12_toggleEdge_43 rfl ?_
        refine ev_dup2 dX12_toggleEdge_44 rfl rfl ?_
        refine ev_ialdv ((show _ = nI (nb N v) by rw [mp_j (Ne.symm huv)]; exact a68 v (by omega))) rfl dX12_toggleEdge_45 (by omega) (by omega) ?_
        refine ev_iconst (nI 1) dX12_toggleEdge_46 rfl ?_
        refine ev_iload_n dX12_toggleEdge_47 rfl ?_
        refine ev_ishlN dX12_toggleEdge_48 (by omega) (by omega) ?_
        rw [e2]
        refine ev_ixorN dX12_toggleEdge_49 ?_
        refine ev_iastN rfl dX12_toggleEdge_50 (by omega) (by omega) ?_
        refine ev_aload_n dX12_toggleEdge_51 rfl ?_
        refine ev_iconst (nI 1) dX12_toggleEdge_52 rfl ?_
        refine ev_putI fp_X12_25 rfl rfl rfl rfl dX12_toggleEdge_53 ?_
        have g2 : gM (m_put (m_put (m_put h1 68 u (nI (nb N u ^^^ 2 ^ v))) 68 v (nI (nb N v ^^^ 2 ^ u))) 67 5 (nI 1)) n (N ^^^ eb u v) := by
          refine ⟨?_, fun w hw => ?_⟩
          · rw [mp_j (by decide), mp_k (by decide), mp_k (by decide), m1.2 0 (by decide)]; exact g.1
          · rw [mp_k (by decide), nb_tog (by omega) (by omega) hw huv]
            by_cases c1 : w = v
            · subst c1; rw [mp_eq, if_neg (Ne.symm huv), if_pos rfl]
            · rw [mp_j c1]
              by_cases c2 : w = u
              · subst c2; rw [mp_eq, if_pos rfl]
              · rw [mp_j c2, if_neg c2, if_neg c1]; exact a68 w hw
        refine ev_aload_n dX12_toggleEdge_56 rfl ?_
        refine ev_iload_n dX12_toggleEdge_57 rfl ?_
        refine ev_iload_n dX12_toggleEdge_58 rfl ?_
        refine ev_callV (cl_isEdge g2 (by omega) (by omega)) ok_X12_isEdge ml_X12_95 rfl rfl rfl rfl (Nat.le_of_ble_eq_true rfl) dX12_toggleEdge_59 (kI ?_)
        refine ev_if_eqN 69 dX12_toggleEdge_62 (by decide) (by omega) (fun c62 => ?_) (fun c62 => ?_)
        · refine ev_iconst (nI 0) dX12_toggleEdge_69 rfl ?_
          refine ev_iret dX12_toggleEdge_70 rfl ?_
          refine ⟨by rw [c62], (((m1.mono (fun _ z => z.2) (fun _ z => z.1)).tr (mod_p (by simp) (by decide))).tr (mod_p (by simp) (by decide))).tr (mod_f (by simp)), g2, ⟨?_, fun i hi w hw => ?_⟩, by rw [mp_eq]⟩
          · rw [mp_j (by decide), mp_k (by decide), mp_k (by decide)]; exact hh1.1
          · rw [mp_k (by decide), mp_k (by decide), mp_k (by decide)]; exact hh1.2 i hi w hw
        · refine ev_iconst (nI 1) dX12_toggleEdge_65 rfl ?_
          refine ev_goto 70 dX12_toggleEdge_66 (by decide) ?_
          refine ev_iret dX12_toggleEdge_70 rfl ?_
          refine ⟨by rw [show b01 ((nb (N ^^^ eb u v) u).testBit v = true) = 1 by omega], (((m1.mono (fun _ z => z.2) (fun _ z => z.1)).tr (mod_p (by simp) (by decide))).tr (mod_p (by simp) (by decide))).tr (mod_f (by simp)), g2, ⟨?_, fun i hi w hw => ?_⟩, by rw [mp_eq]⟩
          · rw [mp_j (by decide), mp_k (by decide), mp_k (by decide)]; exact hh1.1
          · rw [mp_k (by decide), mp_k (by decide), mp_k (by decide)]; exact hh1.2 i hi w hw
      · exact absurd c18 huv
theorem cl_toggleEdgeM_bad {n N : Nat} {x y : Int32} (g : gM h n N) (h1 : 1 ≤ n) (hn : n ≤ 7) (hx : ¬ (inR x n ∧ inR y n ∧ x ≠ y)) : Cl G (d + 2) M_X12_toggleEdge [.ref 67, .int x, .int y] h (qI (-1) h) := by
  have q1 := b01_lt (inR x n)
  have q2 := b01_lt (inR y n)
  refine ev_start 0 (lv := [some (.ref 67), some (.int x), some (.int y)]) rfl (by decide) (Nat.le_of_ble_eq_true rfl) ?_
  refine ev_aload_n dX12_toggleEdge_0 rfl ?_
  refine ev_iload_n dX12_toggleEdge_1 rfl ?_
  refine ev_callV (cl_isVertexM g h1 hn) ok_X12_isVertex ml_X12_88 rfl rfl rfl rfl (Nat.le_of_ble_eq_true rfl) dX12_toggleEdge_2 (kI ?_)
  refine ev_if_eqN 21 dX12_toggleEdge_5 (by decide) (by omega) (fun c5 => ?_) (fun c5 => ?_)
  · refine ev_iconst (-1) dX12_toggleEdge_21 rfl ?_
    refine ev_iret dX12_toggleEdge_22 rfl ?_
    exact ⟨by with_reducible rfl, rfl⟩
  · refine ev_aload_n dX12_toggleEdge_8 rfl ?_
    refine ev_iload_n dX12_toggleEdge_9 rfl ?_
    refine ev_callV (cl_isVertexM g h1 hn) ok_X12_isVertex ml_X12_88 rfl rfl rfl rfl (Nat.le_of_ble_eq_true rfl) dX12_toggleEdge_10 (kI ?_)
    refine ev_if_eqN 21 dX12_toggleEdge_13 (by decide) (by omega) (fun c13 => ?_) (fun c13 => ?_)
    · refine ev_iconst (-1) dX12_toggleEdge_21 rfl ?_
      refine ev_iret dX12_toggleEdge_22 rfl ?_
      exact ⟨by with_reducible rfl, rfl⟩
    · refine ev_iload_n dX12_toggleEdge_16 rfl ?_
      refine ev_iload_n dX12_toggleEdge_17 rfl ?_
      refine ev_icmp_ne 23 dX12_toggleEdge_18 (by decide) (fun c18 => ?_) (fun c18 => ?_)
      · exact absurd ⟨b01_1.mp (by omega), b01_1.mp (by omega), c18⟩ hx
      · refine ev_iconst (-1) dX12_toggleEdge_21 rfl ?_
        refine ev_iret dX12_toggleEdge_22 rfl ?_
        exact ⟨by with_reducible rfl, rfl⟩
end BUILD
