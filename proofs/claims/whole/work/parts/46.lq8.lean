section LQ8
variable {G : MG} {d : Nat} {h : MH}
theorem dif_1 : ∀ a, a < 4 → ∀ b, b < 4 → ((nI 1 < nI a - nI b ↔ b + 1 < a) ∧ (nI a - nI b = nI 1 ↔ a = b + 1)) := by decide +kernel
def sgP (n a g : Nat) (h : MH) : Option Value → MH → Prop := fun rv h' => h' = h ∧ ∃ z : Int32, rv = some (.int z) ∧ ((∃ u, u < n ∧ stpV n a g u ∧ z = nI u) ∨ ((∀ u, u < n → ¬ stpV n a g u) ∧ z = -2))
theorem cl_singleStep {n N a g : Nat} (gm : gM h n N) (hn : n ≤ 7) (ha : a < 16384) (hg : g < 16384) : Cl G (d + 1) M_X12_singleStep [.ref 67, .int (nI a), .int (nI g)] h (sgP n a g h) := by
  have big : ∀ v, v < n → ex g v + 1 < ex a v → sgP n a g h (some (.int (-2))) h := by
    intro v hv hb
    refine ⟨rfl, -2, rfl, Or.inr ⟨fun u hu hs => ?_, rfl⟩⟩
    by_cases c : v = u
    · subst c; have := hs.1; omega
    · have := hs.2 v hv c; omega
  have loopB : ∀ (k v u : Nat), v + k = n → u < v → ex a u = ex g u + 1 → (∀ w, w < v → w ≠ u → ex a w ≤ ex g w) → ∀ x5 : Option Value, Ev G (d + 1) M_X12_singleStep 6 [some (.ref 67), some (.int (nI a)), some (.int (nI g)), some (.int (nI u)), some (.int (nI v)), x5] [] h (sgP n a g h) := by
    intro k
    induction k with
    | zero =>
      intro v u hv hu h1 h2 x5
      refine ev_iload dX12_singleStep_6 rfl ?_
      refine ev_aload_n dX12_singleStep_8 rfl ?_
      refine ev_getIv (gm.1) fl_X12_9 rfl rfl dX12_singleStep_9 ?_
      refine ev_icmp_geN 70 dX12_singleStep_12 (by decide) (by omega) (by omega) (fun c12 => ?_) (fun c12 => ?_)
      · refine ev_iload_n dX12_singleStep_70 rfl ?_
        refine ev_iret dX12_singleStep_71 rfl ?_
        exact ⟨rfl, nI u, rfl, Or.inl ⟨u, by omega, ⟨h1, fun w hw hwu => h2 w (by omega) hwu⟩, rfl⟩⟩
      · omega
    | succ k ih =>
      intro v u hv hu h1 h2 x5
      have x1 := ex_lt a v
      have x2 := ex_lt g v
      have dd := dif_1 _ x1 _ x2
      refine ev_iload dX12_singleStep_6 rfl ?_
      refine ev_aload_n dX12_singleStep_8 rfl ?_
      refine ev_getIv (gm.1) fl_X12_9 rfl rfl dX12_singleStep_9 ?_
      refine ev_icmp_geN 70 dX12_singleStep_12 (by decide) (by omega) (by omega) (fun c12 => ?_) (fun c12 => ?_)
      · omega
      · refine ev_iload_n dX12_singleStep_15 rfl ?_
        refine ev_iload dX12_singleStep_16 rfl ?_
        refine ev_callS (cl_exponentOfM (by omega) (by omega)) ok_X12_exponentOf ml_X12_128 rfl rfl (Nat.le_of_ble_eq_true rfl) dX12_singleStep_18 (kI ?_)
        refine ev_iload_n dX12_singleStep_21 rfl ?_
        refine ev_iload dX12_singleStep_22 rfl ?_
        refine ev_callS (cl_exponentOfM (by omega) (by omega)) ok_X12_exponentOf ml_X12_128 rfl rfl (Nat.le_of_ble_eq_true rfl) dX12_singleStep_24 (kI ?_)
        refine ev_isub dX12_singleStep_27 ?_
        refine ev_ist5 dX12_singleStep_28 (by decide) rfl ?_
        refine ev_iload dX12_singleStep_30 rfl ?_
        refine ev_iconst (nI 1) dX12_singleStep_32 rfl ?_
        refine ev_icmp_gt 48 dX12_singleStep_33 (by decide) (fun c33 => ?_) (fun c33 => ?_)
        · refine ev_bipush (-2) dX12_singleStep_48 rfl ?_
          refine ev_iret dX12_singleStep_50 rfl ?_
          exact big v (by omega) (dd.1.mp c33)
        · refine ev_iload dX12_singleStep_36 rfl ?_
          refine ev_iconst (nI 1) dX12_singleStep_38 rfl ?_
          refine ev_icmp_ne 51 dX12_singleStep_39 (by decide) (fun c39 => ?_) (fun c39 => ?_)
          · refine ev_iload dX12_singleStep_51 rfl ?_
            refine ev_iconst (nI 1) dX12_singleStep_53 rfl ?_
            refine ev_icmp_ne 62 dX12_singleStep_54 (by decide) (fun c54 => ?_) (fun c54 => ?_)
            · refine ev_iload_n dX12_singleStep_62 rfl ?_
              refine ev_ist3 dX12_singleStep_63 (by decide) rfl ?_
              refine ev_inc4N dX12_singleStep_64 (by decide) rfl ?_
              refine ev_goto 6 dX12_singleStep_67 (by decide) ?_
              refine ih (v + 1) u (by omega) (by omega) h1 (fun w hw hwu => ?_) _
              by_cases c : w = v
              · subst c
                have e1 : ¬ ex g w + 1 < ex a w := fun z => c33 (dd.1.mpr z)
                have e2 : ¬ ex a w = ex g w + 1 := fun z => c39 (dd.2.mpr z)
                omega
              · exact h2 w (by omega) hwu
            · exact absurd c54 c39
          · refine ev_iload_n dX12_singleStep_42 rfl ?_
            refine ev_bipush (-2) dX12_singleStep_43 rfl ?_
            refine ev_icmp_eq 51 dX12_singleStep_45 (by decide) (fun c45 => ?_) (fun c45 => ?_)
            · exact absurd c45 (nI_m2 (by omega))
            · refine ev_bipush (-2) dX12_singleStep_48 rfl ?_
              refine ev_iret dX12_singleStep_50 rfl ?_
              refine ⟨rfl, -2, rfl, Or.inr ⟨fun w hw hs => ?_, rfl⟩⟩
              have e1 := dd.2.mp c39
              by_cases c : w = u
              · have := hs.2 v (by omega) (by omega); omega
              · have := hs.2 u (by omega) (Ne.symm c); omega
  have loopA : ∀ (k v : Nat), v + k = n → (∀ w, w < v → ex a w ≤ ex g w) → ∀ x5 : Option Value, Ev G (d + 1) M_X12_singleStep 6 [some (.ref 67), some (.int (nI a)), some (.int (nI g)), some (.int (-2)), some (.int (nI v)), x5] [] h (sgP n a g h) := by
    intro k
    induction k with
    | zero =>
      intro v hv h2 x5
      refine ev_iload dX12_singleStep_6 rfl ?_
      refine ev_aload_n dX12_singleStep_8 rfl ?_
      refine ev_getIv (gm.1) fl_X12_9 rfl rfl dX12_singleStep_9 ?_
      refine ev_icmp_geN 70 dX12_singleStep_12 (by decide) (by omega) (by omega) (fun c12 => ?_) (fun c12 => ?_)
      · refine ev_iload_n dX12_singleStep_70 rfl ?_
        refine ev_iret dX12_singleStep_71 rfl ?_
        exact ⟨rfl, -2, rfl, Or.inr ⟨fun u hu hs => by have := hs.1; have := h2 u (by omega); omega, rfl⟩⟩
      · omega
    | succ k ih =>
      intro v hv h2 x5
      have x1 := ex_lt a v
      have x2 := ex_lt g v
      have dd := dif_1 _ x1 _ x2
      refine ev_iload dX12_singleStep_6 rfl ?_
      refine ev_aload_n dX12_singleStep_8 rfl ?_
      refine ev_getIv (gm.1) fl_X12_9 rfl rfl dX12_singleStep_9 ?_
      refine ev_icmp_geN 70 dX12_singleStep_12 (by decide) (by omega) (by omega) (fun c12 => ?_) (fun c12 => ?_)
      · omega
      · refine ev_iload_n dX12_singleStep_15 rfl ?_
        refine ev_iload dX12_singleStep_16 rfl ?_
        refine ev_callS (cl_exponentOfM (by omega) (by omega)) ok_X12_exponentOf ml_X12_128 rfl rfl (Nat.le_of_ble_eq_true rfl) dX12_singleStep_18 (kI ?_)
        refine ev_iload_n dX12_singleStep_21 rfl ?_
        refine ev_iload dX12_singleStep_22 rfl ?_
        refine ev_callS (cl_exponentOfM (by omega) (by omega)) ok_X12_exponentOf ml_X12_128 rfl rfl (Nat.le_of_ble_eq_true rfl) dX12_singleStep_24 (kI ?_)
        refine ev_isub dX12_singleStep_27 ?_
        refine ev_ist5 dX12_singleStep_28 (by decide) rfl ?_
        refine ev_iload dX12_singleStep_30 rfl ?_
        refine ev_iconst (nI 1) dX12_singleStep_32 rfl ?_
        refine ev_icmp_gt 48 dX12_singleStep_33 (by decide) (fun c33 => ?_) (fun c33 => ?_)
        · refine ev_bipush (-2) dX12_singleStep_48 rfl ?_
          refine ev_iret dX12_singleStep_50 rfl ?_
          exact big v (by omega) (dd.1.mp c33)
        · refine ev_iload dX12_singleStep_36 rfl ?_
          refine ev_iconst (nI 1) dX12_singleStep_38 rfl ?_
          refine ev_icmp_ne 51 dX12_singleStep_39 (by decide) (fun c39 => ?_) (fun c39 => ?_)
          · refine ev_iload dX12_singleStep_51 rfl ?_
            refine ev_iconst (nI 1) dX12_singleStep_53 rfl ?_
            refine ev_icmp_ne 62 dX12_singleStep_54 (by decide) (fun c54 => ?_) (fun c54 => ?_)
            · refine ev_iload_n dX12_singleStep_62 rfl ?_
              refine ev_ist3 dX12_singleStep_63 (by decide) rfl ?_
              refine ev_inc4N dX12_singleStep_64 (by decide) rfl ?_
              refine ev_goto 6 dX12_singleStep_67 (by decide) ?_
              refine ih (v + 1) (by omega) (fun w hw => ?_) _
              by_cases c : w = v
              · subst c
                have e1 : ¬ ex g w + 1 < ex a w := fun z => c33 (dd.1.mpr z)
                have e2 : ¬ ex a w = ex g w + 1 := fun z => c39 (dd.2.mpr z)
                omega
              · exact h2 w (by omega)
            · exact absurd c54 c39
          · refine ev_iload_n dX12_singleStep_42 rfl ?_
            refine ev_bipush (-2) dX12_singleStep_43 rfl ?_
            refine ev_icmp_eq 51 dX12_singleStep_45 (by decide) (fun c45 => ?_) (fun c45 => ?_)
            · refine ev_iload dX12_singleStep_51 rfl ?_
              refine ev_iconst (nI 1) dX12_singleStep_53 rfl ?_
              refine ev_icmp_ne 62 dX12_singleStep_54 (by decide) (fun c54 => ?_) (fun c54 => ?_)
              · exact absurd c39 c54
              · refine ev_iload dX12_singleStep_57 rfl ?_
                refine ev_goto 63 dX12_singleStep_59 (by decide) ?_
                refine ev_ist3 dX12_singleStep_63 (by decide) rfl ?_
                refine ev_inc4N dX12_singleStep_64 (by decide) rfl ?_
                refine ev_goto 6 dX12_singleStep_67 (by decide) ?_
                exact loopB k (v + 1) v (by omega) (by omega) (dd.2.mp c39) (fun w hw hwv => h2 w (by omega)) _
            · exact absurd rfl c45
  refine ev_start 3 (lv := [some (.ref 67), some (.int (nI a)), some (.int (nI g)), none, none, none]) rfl (by decide) (Nat.le_of_ble_eq_true rfl) ?_
  refine ev_bipush (-2) dX12_singleStep_0 rfl ?_
  refine ev_ist3 dX12_singleStep_2 (by decide) rfl ?_
  refine ev_iconst (nI 0) dX12_singleStep_3 rfl ?_
  refine ev_ist4 dX12_singleStep_4 (by decide) rfl ?_
  exact loopA n 0 (by omega) (fun w hw => absurd hw (by omega)) none
theorem cl_colonSet {n N i : Nat} {O : List Nat} (gm : gM h n N) (hn : n ≤ 7) (hO : hold (h.1 75) O) (lO : O.length ≤ 16384) (bO : ∀ x, x ∈ O → x < 16384) (hi : i < O.length) : Cl G (d + 2) M_X12_colonSet [.ref 67, .int (nI i)] h (qI (nI (cSt n O i)) h) := by
  have loop : ∀ (j k acc : Nat), k + j = i → acc < 128 → (∀ w, w < 7 → (acc.testBit w = true ↔ w < n ∧ ∃ e, e < k ∧ stpV n (O.getD e 0) (O.getD i 0) w)) → ∀ x4 : Option Value, Ev G (d + 2) M_X12_colonSet 4 [some (.ref 67), some (.int (nI i)), some (.int (nI acc)), some (.int (nI k)), x4] [] h (qI (nI (cSt n O i)) h) := by
    intro j
    induction j with
    | zero =>
      intro k acc hk ha hw x4
      obtain rfl : k = i := by omega
      have e : acc = cSt n O k := bits_eq ha cSt_lt (fun w hw7 => by rw [hw w hw7, cSt_bit hw7]; exact Iff.rfl)
      subst e
      refine ev_iload_n dX12_colonSet_4 rfl ?_
      refine ev_iload_n dX12_colonSet_5 rfl ?_
      refine ev_icmp_geN 51 dX12_colonSet_6 (by decide) (by omega) (by omega) (fun c6 => ?_) (fun c6 => ?_)
      · refine ev_iload_n dX12_colonSet_51 rfl ?_
        refine ev_iret dX12_colonSet_52 rfl ?_
        exact ⟨by with_reducible rfl, rfl⟩
      · omega
    | succ j ih =>
      intro k acc hk ha hw x4
      have contZ : (∀ u, u < n → ¬ stpV n (O.getD k 0) (O.getD i 0) u) → Ev G (d + 2) M_X12_colonSet 27 [some (.ref 67), some (.int (nI i)), some (.int (nI acc)), some (.int (nI k)), some (.int (-2))] [] h (qI (nI (cSt n O i)) h) := by
        intro hz
        refine ev_iload_n dX12_colonSet_27 rfl ?_
        refine ev_iload dX12_colonSet_28 rfl ?_
        refine ev_bipush (-2) dX12_colonSet_30 rfl ?_
        refine ev_icmp_ne 39 dX12_colonSet_32 (by decide) (fun c32 => ?_) (fun c32 => ?_)
        · exact absurd rfl c32
        · refine ev_iconst (nI 0) dX12_colonSet_35 rfl ?_
          refine ev_goto 43 dX12_colonSet_36 (by decide) ?_
          refine ev_iorN dX12_colonSet_43 ?_
          rw [Nat.or_zero]
          refine ev_ist2 dX12_colonSet_44 (by decide) rfl ?_
          refine ev_inc3N dX12_colonSet_45 (by decide) rfl ?_
          refine ev_goto 4 dX12_colonSet_48 (by decide) ?_
          refine ih (k + 1) acc (by omega) ha (fun w hw7 => (hw w hw7).trans (and_congr_right (fun hwn => ⟨fun ⟨e, h1, h2⟩ => ⟨e, by omega, h2⟩, fun ⟨e, h1, h2⟩ => ⟨e, ?_, h2⟩⟩))) _
          apply Nat.lt_of_le_of_ne (by omega)
          intro z; subst z
          exact hz w hwn h2
      have contN : ∀ u, u < n → stpV n (O.getD k 0) (O.getD i 0) u → Ev G (d + 2) M_X12_colonSet 27 [some (.ref 67), some (.int (nI i)), some (.int (nI acc)), some (.int (nI k)), some (.int (nI u))] [] h (qI (nI (cSt n O i)) h) := by
        intro u hu hst
        have p7 := pow7 (show u < 7 by omega)
        refine ev_iload_n dX12_colonSet_27 rfl ?_
        refine ev_iload dX12_colonSet_28 rfl ?_
        refine ev_bipush (-2) dX12_colonSet_30 rfl ?_
        refine ev_icmp_ne 39 dX12_colonSet_32 (by decide) (fun c32 => ?_) (fun c32 => ?_)
        · refine ev_iconst (nI 1) dX12_colonSet_39 rfl ?_
          refine ev_iload dX12_colonSet_40 rfl ?_
          refine ev_ishlN dX12_colonSet_42 (by omega) (by rw [Nat.one_mul]; omega) ?_
          refine ev_iorN dX12_colonSet_43 ?_
          rw [Nat.one_mul]
          refine ev_ist2 dX12_colonSet_44 (by decide) rfl ?_
          refine ev_inc3N dX12_colonSet_45 (by decide) rfl ?_
          refine ev_goto 4 dX12_colonSet_48 (by decide) ?_
          refine ih (k + 1) _ (by omega) (or_lt7 ha p7) (fun w hw7 => ?_) _
          rw [or_bit, hw w hw7]
          constructor
          · rintro (⟨h1, e, h2, h3⟩ | z)
            · exact ⟨h1, e, by omega, h3⟩
            · subst z; exact ⟨hu, k, by omega, hst⟩
          · rintro ⟨h1, e, h2, h3⟩
            by_cases c : e = k
            · subst c
              right
              apply Classical.byContradiction
              intro z
              have q1 := h3.2 u hu (fun y => z y.symm)
              have q2 := hst.1
              omega
            · exact Or.inl ⟨h1, e, by omega, h3⟩
        · exact absurd c32 (nI_m2 (by omega))
      refine ev_iload_n dX12_colonSet_4 rfl ?_
      refine ev_iload_n dX12_colonSet_5 rfl ?_
      refine ev_icmp_geN 51 dX12_colonSet_6 (by decide) (by omega) (by omega) (fun c6 => ?_) (fun c6 => ?_)
      · omega
      · refine ev_aload_n dX12_colonSet_9 rfl ?_
        refine ev_aload_n dX12_colonSet_10 rfl ?_
        refine ev_getR fl_X12_41 rfl rfl dX12_colonSet_11 ?_
        refine ev_iload_n dX12_colonSet_14 rfl ?_
        refine ev_ialdv (hO k (by omega)) rfl dX12_colonSet_15 (by omega) (by omega) ?_
        refine ev_aload_n dX12_colonSet_16 rfl ?_
        refine ev_getR fl_X12_41 rfl rfl dX12_colonSet_17 ?_
        refine ev_iload_n dX12_colonSet_20 rfl ?_
        refine ev_ialdv (hO i hi) rfl dX12_colonSet_21 (by omega) (by omega) ?_
        refine ev_callV (cl_singleStep gm hn (bO _ (getD_mem (by omega))) (bO _ (getD_mem hi))) ok_X12_singleStep ml_X12_208 rfl rfl rfl rfl (Nat.le_of_ble_eq_true rfl) dX12_colonSet_22 ?_
        rintro rv h1 ⟨rfl, z, rfl, hz⟩
        refine ev_ist4 dX12_colonSet_25 (by decide) rfl ?_
        rcases hz with ⟨u, hu, hst, rfl⟩ | ⟨hz, rfl⟩
        · exact contN u hu hst
        · exact contZ hz
  refine ev_start 3 (lv := [some (.ref 67), some (.int (nI i)), none, none, none]) rfl (by decide) (Nat.le_of_ble_eq_true rfl) ?_
  refine ev_iconst (nI 0) dX12_colonSet_0 rfl ?_
  refine ev_ist2 dX12_colonSet_1 (by decide) rfl ?_
  refine ev_iconst (nI 0) dX12_colonSet_2 rfl ?_
  refine ev_ist3 dX12_colonSet_3 (by decide) rfl ?_
  exact loop i 0 0 (by omega) (by decide) (fun w _ => by rw [Nat.zero_testBit]; exact ⟨fun z => Bool.noConfusion z, fun ⟨_, e, h1, _⟩ => absurd h1 (by omega)⟩) none
end LQ8
