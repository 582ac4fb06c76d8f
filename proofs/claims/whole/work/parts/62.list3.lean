section LIST3
variable {G : MG} {d : Nat} {h : MH}
def SupJ (L : List Nat) (i j : Nat) : Prop := (L.getD j 0 ≠ L.getD i 0 ∨ j < i) ∧ dvd (L.getD j 0) (L.getD i 0)
def Sup (L : List Nat) (i : Nat) : Prop := ∃ j, j < L.length ∧ SupJ L i j
noncomputable def mnF (L : List Nat) : Nat → List Nat
  | 0 => []
  | i + 1 => if b01 (Sup L i) = 0 then mnF L i ++ [L.getD i 0] else mnF L i
noncomputable def mn (L : List Nat) : List Nat := mnF L L.length
theorem mnF_len (L : List Nat) (i : Nat) : (mnF L i).length ≤ i := by
  induction i with
  | zero => exact Nat.le_refl _
  | succ i ih =>
    rw [mnF]
    by_cases c : b01 (Sup L i) = 0
    · rw [if_pos c, List.length_append]; simp; exact ih
    · rw [if_neg c]; omega
theorem okL_mnF {L : List Nat} (o : okL L) : ∀ i, i ≤ L.length → okL (mnF L i) := by
  intro i
  induction i with
  | zero => exact fun _ => okL_nil
  | succ i ih =>
    intro hi
    have l := mnF_len L i
    have l24 := o.1
    rw [mnF]
    by_cases c : b01 (Sup L i) = 0
    · rw [if_pos c]; exact okL_snoc (ih (by omega)) (by omega) (o.2 i (by omega))
    · rw [if_neg c]; exact ih (by omega)
theorem okL_mn {L : List Nat} (o : okL L) : okL (mn L) := okL_mnF o _ (Nat.le_refl _)
theorem cl_isSuperfluous {L : List Nat} {i : Nat} (r : rowIs h 40 L) (o : okL L) (hi : i < L.length) : Cl G (d + 2) M_X5_isSuperfluous [.ref 39, .int (nI i)] h (qI (nI (b01 (Sup L i))) h) := by
  have l24 := o.1
  have oi := o.2 i hi
  have loop : ∀ (k j : Nat) (x3 : Option Value), j + k = L.length → (∀ j', j' < j → ¬ SupJ L i j') → Ev G (d + 2) M_X5_isSuperfluous 2 [some (.ref 39), some (.int (nI i)), some (.int (nI j)), x3] [] h (qI (nI (b01 (Sup L i))) h) := by
    intro k
    induction k with
    | zero =>
      intro j x3 hj hn
      obtain rfl : j = L.length := by omega
      refine ev_iload_n dX5_isSuperfluous_2 rfl ?_
      refine ev_aload_n dX5_isSuperfluous_3 rfl ?_
      refine ev_getR fl_X5_14 rfl rfl dX5_isSuperfluous_4 ?_
      refine ev_getIv (r.1) fl_X5_26 rfl rfl dX5_isSuperfluous_7 ?_
      refine ev_icmp_geN 81 dX5_isSuperfluous_10 (by decide) (by omega) (by omega) (fun c10 => ?_) (fun c10 => ?_)
      · refine ev_iconst (nI 0) dX5_isSuperfluous_81 rfl ?_
        refine ev_zret dX5_isSuperfluous_82 rfl rfl ?_
        exact ⟨rv0 (fun ⟨j', h1, h2⟩ => hn j' h1 h2), rfl⟩
      · omega
    | succ k ih =>
      intro j x3 hj hn
      have oj := o.2 j (by omega)
      have nx : ¬ SupJ L i j → ∀ j', j' < j + 1 → ¬ SupJ L i j' := fun z j' hj' => by
        by_cases e : j' = j
        · subst e; exact z
        · exact hn j' (by omega)
      refine ev_iload_n dX5_isSuperfluous_2 rfl ?_
      refine ev_aload_n dX5_isSuperfluous_3 rfl ?_
      refine ev_getR fl_X5_14 rfl rfl dX5_isSuperfluous_4 ?_
      refine ev_getIv (r.1) fl_X5_26 rfl rfl dX5_isSuperfluous_7 ?_
      refine ev_icmp_geN 81 dX5_isSuperfluous_10 (by decide) (by omega) (by omega) (fun c10 => ?_) (fun c10 => ?_)
      · omega
      · refine ev_aload_n dX5_isSuperfluous_13 rfl ?_
        refine ev_getR fl_X5_14 rfl rfl dX5_isSuperfluous_14 ?_
        refine ev_getR fl_X5_34 rfl rfl dX5_isSuperfluous_17 ?_
        refine ev_iload_n dX5_isSuperfluous_20 rfl ?_
        refine ev_ialdv (r.2 j (by omega)) rfl dX5_isSuperfluous_21 (by omega) (by omega) ?_
        refine ev_aload_n dX5_isSuperfluous_22 rfl ?_
        refine ev_getR fl_X5_14 rfl rfl dX5_isSuperfluous_23 ?_
        refine ev_getR fl_X5_34 rfl rfl dX5_isSuperfluous_26 ?_
        refine ev_iload_n dX5_isSuperfluous_29 rfl ?_
        refine ev_ialdv (r.2 i hi) rfl dX5_isSuperfluous_30 (by omega) (by omega) ?_
        refine ev_icmp_neN 39 dX5_isSuperfluous_31 (by decide) (by omega) (by omega) (fun c31 => ?_) (fun c31 => ?_)
        · refine ev_iconst (nI 1) dX5_isSuperfluous_39 rfl ?_
          refine ev_goto 44 dX5_isSuperfluous_40 (by decide) ?_
          refine ev_ist3 dX5_isSuperfluous_44 (by decide) rfl ?_
          refine ev_iload_n dX5_isSuperfluous_45 rfl ?_
          refine ev_if_eqN 75 dX5_isSuperfluous_46 (by decide) (by omega) (fun c46 => ?_) (fun c46 => ?_)
          · omega
          · refine ev_aload_n dX5_isSuperfluous_49 rfl ?_
            refine ev_getR fl_X5_14 rfl rfl dX5_isSuperfluous_50 ?_
            refine ev_getR fl_X5_34 rfl rfl dX5_isSuperfluous_53 ?_
            refine ev_iload_n dX5_isSuperfluous_56 rfl ?_
            refine ev_ialdv (r.2 j (by omega)) rfl dX5_isSuperfluous_57 (by omega) (by omega) ?_
            refine ev_aload_n dX5_isSuperfluous_58 rfl ?_
            refine ev_getR fl_X5_14 rfl rfl dX5_isSuperfluous_59 ?_
            refine ev_getR fl_X5_34 rfl rfl dX5_isSuperfluous_62 ?_
            refine ev_iload_n dX5_isSuperfluous_65 rfl ?_
            refine ev_ialdv (r.2 i hi) rfl dX5_isSuperfluous_66 (by omega) (by omega) ?_
            refine ev_callS (cl_dividesC oj oi) ok_X6_divides ml_X5_45 rfl rfl (Nat.le_of_ble_eq_true rfl) dX5_isSuperfluous_67 (kI ?_)
            refine ev_if_eqN 75 dX5_isSuperfluous_70 (by decide) (by have := b01_lt (dvd (L.getD j 0) (L.getD i 0)); omega) (fun c70 => ?_) (fun c70 => ?_)
            · refine ev_inc2N dX5_isSuperfluous_75 (by decide) rfl ?_
              refine ev_goto 2 dX5_isSuperfluous_78 (by decide) ?_
              exact ih (j + 1) _ (by omega) (nx (fun z => b01_0.mp c70 z.2))
            · refine ev_iconst (nI 1) dX5_isSuperfluous_73 rfl ?_
              refine ev_zret dX5_isSuperfluous_74 rfl rfl ?_
              exact ⟨rv1 ⟨j, by omega, Or.inl (by omega), Classical.byContradiction fun z => c70 (b01_f z)⟩, rfl⟩
        · refine ev_iload_n dX5_isSuperfluous_34 rfl ?_
          refine ev_iload_n dX5_isSuperfluous_35 rfl ?_
          refine ev_icmp_geN 43 dX5_isSuperfluous_36 (by decide) (by omega) (by omega) (fun c36 => ?_) (fun c36 => ?_)
          · refine ev_iconst (nI 0) dX5_isSuperfluous_43 rfl ?_
            refine ev_ist3 dX5_isSuperfluous_44 (by decide) rfl ?_
            refine ev_iload_n dX5_isSuperfluous_45 rfl ?_
            refine ev_if_eqN 75 dX5_isSuperfluous_46 (by decide) (by omega) (fun c46 => ?_) (fun c46 => ?_)
            · refine ev_inc2N dX5_isSuperfluous_75 (by decide) rfl ?_
              refine ev_goto 2 dX5_isSuperfluous_78 (by decide) ?_
              exact ih (j + 1) _ (by omega) (nx (fun z => z.1.elim (fun w => w (by omega)) (fun w => by omega)))
            · omega
          · refine ev_iconst (nI 1) dX5_isSuperfluous_39 rfl ?_
            refine ev_goto 44 dX5_isSuperfluous_40 (by decide) ?_
            refine ev_ist3 dX5_isSuperfluous_44 (by decide) rfl ?_
            refine ev_iload_n dX5_isSuperfluous_45 rfl ?_
            refine ev_if_eqN 75 dX5_isSuperfluous_46 (by decide) (by omega) (fun c46 => ?_) (fun c46 => ?_)
            · omega
            · refine ev_aload_n dX5_isSuperfluous_49 rfl ?_
              refine ev_getR fl_X5_14 rfl rfl dX5_isSuperfluous_50 ?_
              refine ev_getR fl_X5_34 rfl rfl dX5_isSuperfluous_53 ?_
              refine ev_iload_n dX5_isSuperfluous_56 rfl ?_
              refine ev_ialdv (r.2 j (by omega)) rfl dX5_isSuperfluous_57 (by omega) (by omega) ?_
              refine ev_aload_n dX5_isSuperfluous_58 rfl ?_
              refine ev_getR fl_X5_14 rfl rfl dX5_isSuperfluous_59 ?_
              refine ev_getR fl_X5_34 rfl rfl dX5_isSuperfluous_62 ?_
              refine ev_iload_n dX5_isSuperfluous_65 rfl ?_
              refine ev_ialdv (r.2 i hi) rfl dX5_isSuperfluous_66 (by omega) (by omega) ?_
              refine ev_callS (cl_dividesC oj oi) ok_X6_divides ml_X5_45 rfl rfl (Nat.le_of_ble_eq_true rfl) dX5_isSuperfluous_67 (kI ?_)
              refine ev_if_eqN 75 dX5_isSuperfluous_70 (by decide) (by have := b01_lt (dvd (L.getD j 0) (L.getD i 0)); omega) (fun c70 => ?_) (fun c70 => ?_)
              · refine ev_inc2N dX5_isSuperfluous_75 (by decide) rfl ?_
                refine ev_goto 2 dX5_isSuperfluous_78 (by decide) ?_
                exact ih (j + 1) _ (by omega) (nx (fun z => b01_0.mp c70 z.2))
              · refine ev_iconst (nI 1) dX5_isSuperfluous_73 rfl ?_
                refine ev_zret dX5_isSuperfluous_74 rfl rfl ?_
                exact ⟨rv1 ⟨j, by omega, Or.inr (by omega), Classical.byContradiction fun z => c70 (b01_f z)⟩, rfl⟩
  refine ev_start 2 (lv := [some (.ref 39), some (.int (nI i)), none, none]) rfl (by decide) (Nat.le_of_ble_eq_true rfl) ?_
  refine ev_iconst (nI 0) dX5_isSuperfluous_0 rfl ?_
  refine ev_ist2 dX5_isSuperfluous_1 (by decide) rfl ?_
  exact loop L.length 0 _ (by omega) (fun j' h1 => absurd h1 (Nat.not_lt_zero _))
theorem cl_isRedundant {L : List Nat} {i : Nat} (r : lM h L) (o : okL L) (hi : i < L.length) : Cl G (d + 2) M_X12_isRedundant [.ref 67, .int (nI i)] h (qI (nI (b01 (Sup L i))) h) := by
  have l24 := o.1
  have oi := o.2 i hi
  have loop : ∀ (k j : Nat), j + k = L.length → (∀ j', j' < j → ¬ SupJ L i j') → Ev G (d + 2) M_X12_isRedundant 2 [some (.ref 67), some (.int (nI i)), some (.int (nI j))] [] h (qI (nI (b01 (Sup L i))) h) := by
    intro k
    induction k with
    | zero =>
      intro j hj hn
      obtain rfl : j = L.length := by omega
      refine ev_iload_n dX12_isRedundant_2 rfl ?_
      refine ev_aload_n dX12_isRedundant_3 rfl ?_
      refine ev_getIv (r.1) fl_X12_251 rfl rfl dX12_isRedundant_4 ?_
      refine ev_icmp_geN 61 dX12_isRedundant_7 (by decide) (by omega) (by omega) (fun c7 => ?_) (fun c7 => ?_)
      · refine ev_iconst (nI 0) dX12_isRedundant_61 rfl ?_
        refine ev_zret dX12_isRedundant_62 rfl rfl ?_
        exact ⟨rv0 (fun ⟨j', h1, h2⟩ => hn j' h1 h2), rfl⟩
      · omega
    | succ k ih =>
      intro j hj hn
      have oj := o.2 j (by omega)
      have nx : ¬ SupJ L i j → ∀ j', j' < j + 1 → ¬ SupJ L i j' := fun z j' hj' => by
        by_cases e : j' = j
        · subst e; exact z
        · exact hn j' (by omega)
      refine ev_iload_n dX12_isRedundant_2 rfl ?_
      refine ev_aload_n dX12_isRedundant_3 rfl ?_
      refine ev_getIv (r.1) fl_X12_251 rfl rfl dX12_isRedundant_4 ?_
      refine ev_icmp_geN 61 dX12_isRedundant_7 (by decide) (by omega) (by omega) (fun c7 => ?_) (fun c7 => ?_)
      · omega
      · refine ev_iload_n dX12_isRedundant_10 rfl ?_
        refine ev_iload_n dX12_isRedundant_11 rfl ?_
        refine ev_icmp_eqN 55 dX12_isRedundant_12 (by decide) (by omega) (by omega) (fun c12 => ?_) (fun c12 => ?_)
        · refine ev_inc2N dX12_isRedundant_55 (by decide) rfl ?_
          refine ev_goto 2 dX12_isRedundant_58 (by decide) ?_
          exact ih (j + 1) (by omega) (nx (fun z => z.1.elim (fun w => w (by rw [c12])) (fun w => by omega)))
        · refine ev_aload_n dX12_isRedundant_15 rfl ?_
          refine ev_getR fl_X12_50 rfl rfl dX12_isRedundant_16 ?_
          refine ev_iload_n dX12_isRedundant_19 rfl ?_
          refine ev_ialdv (r.2 j (by omega)) rfl dX12_isRedundant_20 (by omega) (by omega) ?_
          refine ev_aload_n dX12_isRedundant_21 rfl ?_
          refine ev_getR fl_X12_50 rfl rfl dX12_isRedundant_22 ?_
          refine ev_iload_n dX12_isRedundant_25 rfl ?_
          refine ev_ialdv (r.2 i hi) rfl dX12_isRedundant_26 (by omega) (by omega) ?_
          refine ev_callS (cl_dividesM oj oi) ok_X12_divides ml_X12_166 rfl rfl (Nat.le_of_ble_eq_true rfl) dX12_isRedundant_27 (kI ?_)
          refine ev_if_eqN 55 dX12_isRedundant_30 (by decide) (by have := b01_lt (dvd (L.getD j 0) (L.getD i 0)); omega) (fun c30 => ?_) (fun c30 => ?_)
          · refine ev_inc2N dX12_isRedundant_55 (by decide) rfl ?_
            refine ev_goto 2 dX12_isRedundant_58 (by decide) ?_
            exact ih (j + 1) (by omega) (nx (fun z => b01_0.mp c30 z.2))
          · refine ev_aload_n dX12_isRedundant_33 rfl ?_
            refine ev_getR fl_X12_50 rfl rfl dX12_isRedundant_34 ?_
            refine ev_iload_n dX12_isRedundant_37 rfl ?_
            refine ev_ialdv (r.2 j (by omega)) rfl dX12_isRedundant_38 (by omega) (by omega) ?_
            refine ev_aload_n dX12_isRedundant_39 rfl ?_
            refine ev_getR fl_X12_50 rfl rfl dX12_isRedundant_40 ?_
            refine ev_iload_n dX12_isRedundant_43 rfl ?_
            refine ev_ialdv (r.2 i hi) rfl dX12_isRedundant_44 (by omega) (by omega) ?_
            refine ev_icmp_neN 53 dX12_isRedundant_45 (by decide) (by omega) (by omega) (fun c45 => ?_) (fun c45 => ?_)
            · refine ev_iconst (nI 1) dX12_isRedundant_53 rfl ?_
              refine ev_zret dX12_isRedundant_54 rfl rfl ?_
              exact ⟨rv1 ⟨j, by omega, Or.inl (by omega), Classical.byContradiction fun z => c30 (b01_f z)⟩, rfl⟩
            · refine ev_iload_n dX12_isRedundant_48 rfl ?_
              refine ev_iload_n dX12_isRedundant_49 rfl ?_
              refine ev_icmp_geN 55 dX12_isRedundant_50 (by decide) (by omega) (by omega) (fun c50 => ?_) (fun c50 => ?_)
              · refine ev_inc2N dX12_isRedundant_55 (by decide) rfl ?_
                refine ev_goto 2 dX12_isRedundant_58 (by decide) ?_
                exact ih (j + 1) (by omega) (nx (fun z => z.1.elim (fun w => w (by omega)) (fun w => by omega)))
              · refine ev_iconst (nI 1) dX12_isRedundant_53 rfl ?_
                refine ev_zret dX12_isRedundant_54 rfl rfl ?_
                exact ⟨rv1 ⟨j, by omega, Or.inr (by omega), Classical.byContradiction fun z => c30 (b01_f z)⟩, rfl⟩
  refine ev_start 1 (lv := [some (.ref 67), some (.int (nI i)), none]) rfl (by decide) (Nat.le_of_ble_eq_true rfl) ?_
  refine ev_iconst (nI 0) dX12_isRedundant_0 rfl ?_
  refine ev_ist2 dX12_isRedundant_1 (by decide) rfl ?_
  exact loop L.length 0 (by omega) (fun j' h1 => absurd h1 (Nat.not_lt_zero _))
theorem cl_minimize {L : List Nat} (r : rowIs h 40 L) (o : okL L) : Cl G (d + 3) M_X5_minimize [.ref 39] h (fun rv h' => rv = none ∧ same (fun k => k < 40 ∨ 45 < k) h h' ∧ rowIs h' 40 (mn L)) := by
  have l24 := o.1
  have loop : ∀ (k i : Nat) (h1 : MH), i + k = L.length → same (fun k => k ≠ 42 ∧ k ≠ 43) h h1 → rowIs h1 42 (mnF L i) → Ev G (d + 3) M_X5_minimize 10 [some (.ref 39), some (.int (nI i))] [] h1 (fun rv h' => rv = none ∧ same (fun k => k < 40 ∨ 45 < k) h h' ∧ rowIs h' 40 (mn L)) := by
    intro k
    induction k with
    | zero =>
      intro i h1 hi s1 r1
      obtain rfl : i = L.length := by omega
      have r40 := rowIs_same r s1 (by decide) (by decide)
      have ml := mnF_len L L.length
      refine ev_iload_n dX5_minimize_10 rfl ?_
      refine ev_aload_n dX5_minimize_11 rfl ?_
      refine ev_getR fl_X5_14 rfl rfl dX5_minimize_12 ?_
      refine ev_getIv (r40.1) fl_X5_26 rfl rfl dX5_minimize_15 ?_
      refine ev_icmp_geN 52 dX5_minimize_18 (by decide) (by omega) (by omega) (fun c18 => ?_) (fun c18 => ?_)
      · refine ev_aload_n dX5_minimize_52 rfl ?_
        refine ev_getR fl_X5_14 rfl rfl dX5_minimize_53 ?_
        refine ev_aload_n dX5_minimize_56 rfl ?_
        refine ev_getR fl_X5_20 rfl rfl dX5_minimize_57 ?_
        refine ev_callV (cl_copyFrom row_40 row_42 (by decide) (by decide) r1.1 (by omega) (by omega)) ok_X7_copyFrom ml_X5_41 rfl rfl rfl rfl (Nat.le_of_ble_eq_true rfl) dX5_minimize_60 (kV ?_)
        refine ev_ret dX5_minimize_63 rfl ?_
        exact ⟨rfl, (s1.mono (fun k hk => by omega)).tr (same_copy (by decide) (by decide)), rowIs_copy r1⟩
      · omega
    | succ k ih =>
      intro i h1 hi s1 r1
      have r40 := rowIs_same r s1 (by decide) (by decide)
      have ml := mnF_len L i
      have q := ih (i + 1)
      rw [mnF] at q
      refine ev_iload_n dX5_minimize_10 rfl ?_
      refine ev_aload_n dX5_minimize_11 rfl ?_
      refine ev_getR fl_X5_14 rfl rfl dX5_minimize_12 ?_
      refine ev_getIv (r40.1) fl_X5_26 rfl rfl dX5_minimize_15 ?_
      refine ev_icmp_geN 52 dX5_minimize_18 (by decide) (by omega) (by omega) (fun c18 => ?_) (fun c18 => ?_)
      · omega
      · refine ev_aload_n dX5_minimize_21 rfl ?_
        refine ev_iload_n dX5_minimize_22 rfl ?_
        refine ev_callV (cl_isSuperfluous r40 o (by omega)) ok_X5_isSuperfluous ml_X5_30 rfl rfl rfl rfl (Nat.le_of_ble_eq_true rfl) dX5_minimize_23 (kI ?_)
        refine ev_if_neN 46 dX5_minimize_26 (by decide) (by have := b01_lt (Sup L i); omega) (fun c26 => ?_) (fun c26 => ?_)
        · refine ev_inc1N dX5_minimize_46 (by decide) rfl ?_
          refine ev_goto 10 dX5_minimize_49 (by decide) ?_
          rw [if_neg c26] at q
          exact q h1 (by omega) s1 r1
        · refine ev_aload_n dX5_minimize_29 rfl ?_
          refine ev_getR fl_X5_20 rfl rfl dX5_minimize_30 ?_
          refine ev_aload_n dX5_minimize_33 rfl ?_
          refine ev_getR fl_X5_14 rfl rfl dX5_minimize_34 ?_
          refine ev_getR fl_X5_34 rfl rfl dX5_minimize_37 ?_
          refine ev_iload_n dX5_minimize_40 rfl ?_
          refine ev_ialdv (r40.2 i (by omega)) rfl dX5_minimize_41 (by omega) (by omega) ?_
          refine ev_callV (cl_add row_42 r1.1 (by omega)) ok_X7_add ml_X5_38 rfl rfl rfl rfl (Nat.le_of_ble_eq_true rfl) dX5_minimize_42 (kI ?_)
          refine ev_pop dX5_minimize_45 rfl ?_
          refine ev_inc1N dX5_minimize_46 (by decide) rfl ?_
          refine ev_goto 10 dX5_minimize_49 (by decide) ?_
          rw [if_pos (by omega)] at q
          exact q _ (by omega) (s1.tr (same_add (by decide) (by decide))) (rowIs_add r1)
  refine ev_start 1 (lv := [some (.ref 39), none]) rfl (by decide) (Nat.le_of_ble_eq_true rfl) ?_
  refine ev_aload_n dX5_minimize_0 rfl ?_
  refine ev_getR fl_X5_20 rfl rfl dX5_minimize_1 ?_
  refine ev_iconst (nI 0) dX5_minimize_4 rfl ?_
  refine ev_putI fp_X5_26 rfl rfl rfl rfl dX5_minimize_5 ?_
  refine ev_iconst (nI 0) dX5_minimize_8 rfl ?_
  refine ev_ist1 dX5_minimize_9 (by decide) rfl ?_
  exact loop L.length 0 _ (by omega) (same_put (by decide)) ⟨mp_eq _ _ _ _, hold_nil _⟩
theorem cl_minimizeListC {L : List Nat} (r : rowIs h 40 L) (o : okL L) : Cl G (d + 4) M_X11_minimizeList [.ref 0] h (fun rv h' => rv = some (.int (nI (mn L).length)) ∧ same (fun k => k < 40 ∨ 45 < k) h h' ∧ rowIs h' 40 (mn L)) := by
  refine ev_start 0 (lv := [some (.ref 0)]) rfl (by decide) (Nat.le_of_ble_eq_true rfl) ?_
  refine ev_aload_n dX11_minimizeList_0 rfl ?_
  refine ev_getR fl_X11_53 rfl rfl dX11_minimizeList_1 ?_
  refine ev_callV (cl_minimize r o) ok_X5_minimize ml_X11_261 rfl rfl rfl rfl (Nat.le_of_ble_eq_true rfl) dX11_minimizeList_4 ?_
  rintro rv h1 ⟨rfl, s1, r1⟩
  refine ev_aload_n dX11_minimizeList_7 rfl ?_
  refine ev_getR fl_X11_53 rfl rfl dX11_minimizeList_8 ?_
  refine ev_getR fl_X11_253 rfl rfl dX11_minimizeList_11 ?_
  refine ev_getIv (r1.1) fl_X11_148 rfl rfl dX11_minimizeList_14 ?_
  refine ev_iret dX11_minimizeList_17 rfl ?_
  exact ⟨rfl, s1, r1⟩
theorem cl_minimizeListM {L : List Nat} (r : lM h L) (o : okL L) : Cl G (d + 3) M_X12_minimizeList [.ref 67] h (fun rv h' => rv = some (.int (nI (mn L).length)) ∧ lm h h' ∧ lM h' (mn L)) := by
  have l24 := o.1
  have ml := mnF_len L L.length
  have loop2 : ∀ (h0 : MH), lm h h0 → h0.1 67 18 = nI L.length → hold (h0.1 79) (mn L) → ∀ (k i : Nat) (f : Nat → Int32), i + k = (mn L).length → (∀ j, j < i → f j = nI ((mn L).getD j 0)) → Ev G (d + 3) M_X12_minimizeList 43 [some (.ref 67), some (.int (nI (mn L).length)), some (.int (nI i))] [] (m_putA h0 78 f) (fun rv h' => rv = some (.int (nI (mn L).length)) ∧ lm h h' ∧ lM h' (mn L)) := by
    intro h0 m0 e0 hR k
    have ml2 : (mn L).length ≤ 24 := by unfold mn; omega
    induction k with
    | zero =>
      intro i f hi hf
      obtain rfl : i = (mn L).length := by omega
      refine ev_iload_n dX12_minimizeList_43 rfl ?_
      refine ev_iload_n dX12_minimizeList_44 rfl ?_
      refine ev_icmp_geN 66 dX12_minimizeList_45 (by decide) (by omega) (by omega) (fun c45 => ?_) (fun c45 => ?_)
      · refine ev_aload_n dX12_minimizeList_66 rfl ?_
        refine ev_iload_n dX12_minimizeList_67 rfl ?_
        refine ev_putI fp_X12_251 rfl rfl rfl rfl dX12_minimizeList_68 ?_
        refine ev_aload_n dX12_minimizeList_71 rfl ?_
        refine ev_getIv ((show _ = nI (mn L).length from mp_eq _ _ _ _)) fl_X12_251 rfl rfl dX12_minimizeList_72 ?_
        refine ev_iret dX12_minimizeList_75 rfl ?_
        exact ⟨rfl, (m0.tr (mod_a (by simp) (by decide))).tr (mod_f (by simp)), mp_eq _ _ _ _, by rw [mp_k (by decide), ma_eq]; exact hf⟩
      · omega
    | succ k ih =>
      intro i f hi hf
      refine ev_iload_n dX12_minimizeList_43 rfl ?_
      refine ev_iload_n dX12_minimizeList_44 rfl ?_
      refine ev_icmp_geN 66 dX12_minimizeList_45 (by decide) (by omega) (by omega) (fun c45 => ?_) (fun c45 => ?_)
      · omega
      · refine ev_aload_n dX12_minimizeList_48 rfl ?_
        refine ev_getR fl_X12_50 rfl rfl dX12_minimizeList_49 ?_
        refine ev_iload_n dX12_minimizeList_52 rfl ?_
        refine ev_aload_n dX12_minimizeList_53 rfl ?_
        refine ev_getR fl_X12_53 rfl rfl dX12_minimizeList_54 ?_
        refine ev_iload_n dX12_minimizeList_57 rfl ?_
        refine ev_ialdv ((show (m_putA h0 78 f).1 79 i = nI ((mn L).getD i 0) by rw [ma_k (by decide)]; exact hR i (by omega))) rfl dX12_minimizeList_58 (by omega) (by omega) ?_
        refine ev_iastN rfl dX12_minimizeList_59 (by omega) (by omega) ?_
        rw [ma_set]
        refine ev_inc2N dX12_minimizeList_60 (by decide) rfl ?_
        refine ev_goto 43 dX12_minimizeList_63 (by decide) ?_
        exact ih (i + 1) _ (by omega) (fun j hj => by
        by_cases e : j = i
        · subst e; rw [pk_us]
        · rw [pk_un e]; exact hf j (by omega))
  have loop : ∀ (k i : Nat) (f : Nat → Int32), i + k = L.length → hold f (mnF L i) → Ev G (d + 3) M_X12_minimizeList 4 [some (.ref 67), some (.int (nI (mnF L i).length)), some (.int (nI i))] [] (m_putA h 79 f) (fun rv h' => rv = some (.int (nI (mn L).length)) ∧ lm h h' ∧ lM h' (mn L)) := by
    intro k
    induction k with
    | zero =>
      intro i f hi hf
      obtain rfl : i = L.length := by omega
      have e1 : (m_putA h 79 f).1 67 18 = nI L.length := by rw [ma_k (by decide)]; exact r.1
      refine ev_iload_n dX12_minimizeList_4 rfl ?_
      refine ev_aload_n dX12_minimizeList_5 rfl ?_
      refine ev_getIv (e1) fl_X12_251 rfl rfl dX12_minimizeList_6 ?_
      refine ev_icmp_geN 41 dX12_minimizeList_9 (by decide) (by omega) (by omega) (fun c9 => ?_) (fun c9 => ?_)
      · refine ev_iconst (nI 0) dX12_minimizeList_41 rfl ?_
        refine ev_ist2 dX12_minimizeList_42 (by decide) rfl ?_
        have q := loop2 (m_putA h 79 f) (mod_a (by simp) (by decide)) e1 (by rw [ma_eq]; exact hf) (mn L).length 0 ((m_putA h 79 f).1 78) (by omega) (fun j hj => absurd hj (Nat.not_lt_zero _))
        rw [ma_self] at q
        exact q
      · omega
    | succ k ih =>
      intro i f hi hf
      have rr : lM (m_putA h 79 f) L := ⟨by rw [ma_k (by decide)]; exact r.1, by rw [ma_k (by decide)]; exact r.2⟩
      have mli := mnF_len L i
      have q := ih (i + 1)
      rw [mnF] at q
      refine ev_iload_n dX12_minimizeList_4 rfl ?_
      refine ev_aload_n dX12_minimizeList_5 rfl ?_
      refine ev_getIv (rr.1) fl_X12_251 rfl rfl dX12_minimizeList_6 ?_
      refine ev_icmp_geN 41 dX12_minimizeList_9 (by decide) (by omega) (by omega) (fun c9 => ?_) (fun c9 => ?_)
      · omega
      · refine ev_aload_n dX12_minimizeList_12 rfl ?_
        refine ev_iload_n dX12_minimizeList_13 rfl ?_
        refine ev_callV (cl_isRedundant rr o (by omega)) ok_X12_isRedundant ml_X12_257 rfl rfl rfl rfl (Nat.le_of_ble_eq_true rfl) dX12_minimizeList_14 (kI ?_)
        refine ev_if_neN 35 dX12_minimizeList_17 (by decide) (by have := b01_lt (Sup L i); omega) (fun c17 => ?_) (fun c17 => ?_)
        · refine ev_inc2N dX12_minimizeList_35 (by decide) rfl ?_
          refine ev_goto 4 dX12_minimizeList_38 (by decide) ?_
          rw [if_neg c17] at q
          exact q f (by omega) hf
        · refine ev_aload_n dX12_minimizeList_20 rfl ?_
          refine ev_getR fl_X12_53 rfl rfl dX12_minimizeList_21 ?_
          refine ev_iload_n dX12_minimizeList_24 rfl ?_
          refine ev_aload_n dX12_minimizeList_25 rfl ?_
          refine ev_getR fl_X12_50 rfl rfl dX12_minimizeList_26 ?_
          refine ev_iload_n dX12_minimizeList_29 rfl ?_
          refine ev_ialdv (rr.2 i (by omega)) rfl dX12_minimizeList_30 (by omega) (by omega) ?_
          refine ev_iastN rfl dX12_minimizeList_31 (by omega) (by omega) ?_
          rw [ma_set]
          refine ev_inc1N dX12_minimizeList_32 (by decide) rfl ?_
          refine ev_inc2N dX12_minimizeList_35 (by decide) rfl ?_
          refine ev_goto 4 dX12_minimizeList_38 (by decide) ?_
          rw [if_pos (by omega), List.length_append] at q
          exact q _ (by omega) (hold_snoc hf)
  refine ev_start 2 (lv := [some (.ref 67), none, none]) rfl (by decide) (Nat.le_of_ble_eq_true rfl) ?_
  refine ev_iconst (nI 0) dX12_minimizeList_0 rfl ?_
  refine ev_ist1 dX12_minimizeList_1 (by decide) rfl ?_
  refine ev_iconst (nI 0) dX12_minimizeList_2 rfl ?_
  refine ev_ist2 dX12_minimizeList_3 (by decide) rfl ?_
  have q := loop L.length 0 (h.1 79) (by omega) (hold_nil _)
  rw [ma_self] at q
  exact q
/-! division by a variable -/
def dvX (v x : Nat) : Nat := if 0 < ex x v then x - 4 ^ v else x
def dvL (v : Nat) (L : List Nat) : List Nat := mkL L.length (fun i => dvX v (L.getD i 0))
theorem dvX_lt {v x : Nat} (hx : x < 16384) : dvX v x < 16384 := by
  unfold dvX
  by_cases c : 0 < ex x v
  · rw [if_pos c]; exact Nat.lt_of_le_of_lt (Nat.sub_le _ _) hx
  · rw [if_neg c]; exact hx
theorem okL_dv {v : Nat} {L : List Nat} (o : okL L) : okL (dvL v L) := okL_mk o.1 (fun i hi => dvX_lt (o.2 i hi))
noncomputable def dbA (L : List Nat) (x : Int32) : Int32 := aIn x 7 (fun v => nI (mn (dvL v L)).length)
noncomputable def dbL (L : List Nat) (x : Int32) : List Nat := if b01 (inR x 7) = 0 then L else mn (dvL x.toNatClampNeg L)
theorem dbL_ok {L : List Nat} {x : Int32} (o : okL L) : okL (dbL L x) := by
  unfold dbL
  by_cases c : b01 (inR x 7) = 0
  · rw [if_pos c]; exact o
  · rw [if_neg c]; exact okL_mn (okL_dv o)
theorem cl_decreaseExponents {L : List Nat} {v : Nat} (r : rowIs h 40 L) (o : okL L) (hv : v < 7) : Cl G (d + 1) M_X5_decreaseExponents [.ref 39, .int (nI v)] h (fun rv h' => rv = none ∧ same (fun k => k < 40 ∨ 45 < k) h h' ∧ rowIs h' 40 (dvL v L)) := by
  have l24 := o.1
  have loop : ∀ (k i : Nat) (f : Nat → Int32), i + k = L.length → (∀ j, j < i → f j = nI (dvX v (L.getD j 0))) → (∀ j, i ≤ j → j < L.length → f j = nI (L.getD j 0)) → Ev G (d + 1) M_X5_decreaseExponents 2 [some (.ref 39), some (.int (nI v)), some (.int (nI i))] [] (m_putA h 41 f) (fun rv h' => rv = none ∧ same (fun k => k < 40 ∨ 45 < k) h h' ∧ rowIs h' 40 (dvL v L)) := by
    intro k
    have e1 : ∀ f, (m_putA h 41 f).1 40 1 = nI L.length := fun f => by rw [ma_k (by decide)]; exact r.1
    induction k with
    | zero =>
      intro i f hi h1 h2
      obtain rfl : i = L.length := by omega
      refine ev_iload_n dX5_decreaseExponents_2 rfl ?_
      refine ev_aload_n dX5_decreaseExponents_3 rfl ?_
      refine ev_getR fl_X5_14 rfl rfl dX5_decreaseExponents_4 ?_
      refine ev_getIv (e1 f) fl_X5_26 rfl rfl dX5_decreaseExponents_7 ?_
      refine ev_icmp_geN 51 dX5_decreaseExponents_10 (by decide) (by omega) (by omega) (fun c10 => ?_) (fun c10 => ?_)
      · refine ev_ret dX5_decreaseExponents_51 rfl ?_
        exact ⟨rfl, same_putA (by decide), by rw [e1, dvL, mkL_len], by rw [ma_eq]; exact mkL_hold h1⟩
      · omega
    | succ k ih =>
      intro i f hi h1 h2
      have ev : (m_putA h 41 f).1 41 i = nI (L.getD i 0) := by rw [ma_eq]; exact h2 i (Nat.le_refl _) (by omega)
      have oi := o.2 i (by omega)
      have xl := ex_lt (L.getD i 0) v
      refine ev_iload_n dX5_decreaseExponents_2 rfl ?_
      refine ev_aload_n dX5_decreaseExponents_3 rfl ?_
      refine ev_getR fl_X5_14 rfl rfl dX5_decreaseExponents_4 ?_
      refine ev_getIv (e1 f) fl_X5_26 rfl rfl dX5_decreaseExponents_7 ?_
      refine ev_icmp_geN 51 dX5_decreaseExponents_10 (by decide) (by omega) (by omega) (fun c10 => ?_) (fun c10 => ?_)
      · omega
      · refine ev_aload_n dX5_decreaseExponents_13 rfl ?_
        refine ev_getR fl_X5_14 rfl rfl dX5_decreaseExponents_14 ?_
        refine ev_getR fl_X5_34 rfl rfl dX5_decreaseExponents_17 ?_
        refine ev_iload_n dX5_decreaseExponents_20 rfl ?_
        refine ev_ialdv (ev) rfl dX5_decreaseExponents_21 (by omega) (by omega) ?_
        refine ev_iload_n dX5_decreaseExponents_22 rfl ?_
        refine ev_callS (cl_exponentOf (by omega) (by omega)) ok_X6_exponentOf ml_X5_51 rfl rfl (Nat.le_of_ble_eq_true rfl) dX5_decreaseExponents_23 (kI ?_)
        refine ev_if_leN 45 dX5_decreaseExponents_26 (by decide) (by omega) (fun c26 => ?_) (fun c26 => ?_)
        · refine ev_inc2N dX5_decreaseExponents_45 (by decide) rfl ?_
          refine ev_goto 2 dX5_decreaseExponents_48 (by decide) ?_
          exact ih (i + 1) f (by omega) (fun j hj => by
          by_cases e : j = i
          · subst e; rw [h2 j (Nat.le_refl _) (by omega), dvX, if_neg (by omega)]
          · exact h1 j (by omega)) (fun j hj hl => h2 j (by omega) hl)
        · have hle := ex_le_sub (show 0 < ex (L.getD i 0) v by omega)
          refine ev_aload_n dX5_decreaseExponents_29 rfl ?_
          refine ev_getR fl_X5_14 rfl rfl dX5_decreaseExponents_30 ?_
          refine ev_getR fl_X5_34 rfl rfl dX5_decreaseExponents_33 ?_
          refine ev_iload_n dX5_decreaseExponents_36 rfl ?_
          refine ev_dup2 dX5_decreaseExponents_37 rfl rfl ?_
          refine ev_ialdv (ev) rfl dX5_decreaseExponents_38 (by omega) (by omega) ?_
          refine ev_iload_n dX5_decreaseExponents_39 rfl ?_
          refine ev_callS (cl_unit (by omega)) ok_X6_unit ml_X5_55 rfl rfl (Nat.le_of_ble_eq_true rfl) dX5_decreaseExponents_40 (kI ?_)
          refine ev_isubN dX5_decreaseExponents_43 (by omega) ?_
          refine ev_iastN rfl dX5_decreaseExponents_44 (by omega) (by omega) ?_
          rw [ma_set]
          refine ev_inc2N dX5_decreaseExponents_45 (by decide) rfl ?_
          refine ev_goto 2 dX5_decreaseExponents_48 (by decide) ?_
          exact ih (i + 1) _ (by omega) (fun j hj => by
          by_cases e : j = i
          · subst e; rw [pk_us, dvX, if_pos (by omega)]
          · rw [pk_un e]; exact h1 j (by omega)) (fun j hj hl => by rw [pk_un (by omega)]; exact h2 j (by omega) hl)
  refine ev_start 1 (lv := [some (.ref 39), some (.int (nI v)), none]) rfl (by decide) (Nat.le_of_ble_eq_true rfl) ?_
  refine ev_iconst (nI 0) dX5_decreaseExponents_0 rfl ?_
  refine ev_ist2 dX5_decreaseExponents_1 (by decide) rfl ?_
  have q := loop L.length 0 (h.1 41) (by omega) (fun j hj => absurd hj (Nat.not_lt_zero _)) (fun j _ hj => r.2 j hj)
  rw [ma_self] at q
  exact q
theorem cl_divideListByC {L : List Nat} {x : Int32} (r : rowIs h 40 L) (o : okL L) : Cl G (d + 4) M_X11_divideListBy [.ref 0, .int x] h (fun rv h' => rv = some (.int (dbA L x)) ∧ same (fun k => k < 40 ∨ 45 < k) h h' ∧ rowIs h' 40 (dbL L x)) := by
  unfold dbA dbL
  by_cases hx : inR x 7
  · have q1 := b01_t hx
    rw [q1, if_neg (show ¬ 1 = 0 by decide)]
    obtain ⟨v, hv, rfl⟩ := hx
    rw [aIn_t hv (by decide), nI_clamp (by omega)]
    refine ev_start 0 (lv := [some (.ref 0), some (.int (nI v))]) rfl (by decide) (Nat.le_of_ble_eq_true rfl) ?_
    refine ev_iload_n dX11_divideListBy_0 rfl ?_
    refine ev_callS (cl_isVariable) ok_X11_isVariable ml_X11_242 rfl rfl (Nat.le_of_ble_eq_true rfl) dX11_divideListBy_1 (kI ?_)
    refine ev_if_neN 9 dX11_divideListBy_4 (by decide) (by omega) (fun c4 => ?_) (fun c4 => ?_)
    · refine ev_aload_n dX11_divideListBy_9 rfl ?_
      refine ev_getR fl_X11_53 rfl rfl dX11_divideListBy_10 ?_
      refine ev_iload_n dX11_divideListBy_13 rfl ?_
      refine ev_callV (cl_decreaseExponents r o hv) ok_X5_decreaseExponents ml_X11_264 rfl rfl rfl rfl (Nat.le_of_ble_eq_true rfl) dX11_divideListBy_14 ?_
      rintro rv h1 ⟨rfl, s1, r1⟩
      refine ev_aload_n dX11_divideListBy_17 rfl ?_
      refine ev_getR fl_X11_53 rfl rfl dX11_divideListBy_18 ?_
      refine ev_callV (cl_minimize r1 (okL_dv o)) ok_X5_minimize ml_X11_261 rfl rfl rfl rfl (Nat.le_of_ble_eq_true rfl) dX11_divideListBy_21 ?_
      rintro rv h2 ⟨rfl, s2, r2⟩
      refine ev_aload_n dX11_divideListBy_24 rfl ?_
      refine ev_getR fl_X11_53 rfl rfl dX11_divideListBy_25 ?_
      refine ev_getR fl_X11_253 rfl rfl dX11_divideListBy_28 ?_
      refine ev_getIv (r2.1) fl_X11_148 rfl rfl dX11_divideListBy_31 ?_
      refine ev_iret dX11_divideListBy_34 rfl ?_
      exact ⟨rfl, s1.tr s2, r2⟩
    · omega
  · have q1 := b01_f hx
    rw [q1, if_pos (show 0 = 0 from rfl), aIn_f hx]
    refine ev_start 0 (lv := [some (.ref 0), some (.int x)]) rfl (by decide) (Nat.le_of_ble_eq_true rfl) ?_
    refine ev_iload_n dX11_divideListBy_0 rfl ?_
    refine ev_callS (cl_isVariable) ok_X11_isVariable ml_X11_242 rfl rfl (Nat.le_of_ble_eq_true rfl) dX11_divideListBy_1 (kI ?_)
    refine ev_if_neN 9 dX11_divideListBy_4 (by decide) (by omega) (fun c4 => ?_) (fun c4 => ?_)
    · omega
    · refine ev_iconst (-1) dX11_divideListBy_7 rfl ?_
      refine ev_iret dX11_divideListBy_8 rfl ?_
      exact ⟨rfl, same.rf, r⟩
theorem cl_divideListByM {L : List Nat} {x : Int32} (r : lM h L) (o : okL L) : Cl G (d + 4) M_X12_divideListBy [.ref 67, .int x] h (fun rv h' => rv = some (.int (dbA L x)) ∧ lm h h' ∧ lM h' (dbL L x)) := by
  have l24 := o.1
  have e7 : inR x 7 ↔ rg x 0 6 := rg_inR (by decide)
  unfold dbA dbL
  by_cases hx : inR x 7
  · have q0 := b01_t hx
    have q1 := b01_t (e7.mp hx)
    rw [q0, if_neg (show ¬ 1 = 0 by decide)]
    obtain ⟨v, hv, rfl⟩ := hx
    rw [aIn_t hv (by decide), nI_clamp (by omega)]
    have p1 : 4 ^ v ≤ 4096 := Nat.pow_le_pow_right (n := 4) (i := v) (j := 6) (by decide) (by omega)
    have eS : 1 * 2 ^ (2 * v) = 4 ^ v := by rw [Nat.one_mul, Nat.pow_mul]
    have loop : ∀ (k i : Nat) (f : Nat → Int32), i + k = L.length → (∀ j, j < i → f j = nI (dvX v (L.getD j 0))) → (∀ j, i ≤ j → j < L.length → f j = nI (L.getD j 0)) → Ev G (d + 4) M_X12_divideListBy 16 [some (.ref 67), some (.int (nI v)), some (.int (nI i))] [] (m_putA h 78 f) (fun rv h' => rv = some (.int (nI (mn (dvL v L)).length)) ∧ lm h h' ∧ lM h' (mn (dvL v L))) := by
      intro k
      have e1 : ∀ f, (m_putA h 78 f).1 67 18 = nI L.length := fun f => by rw [ma_k (by decide)]; exact r.1
      induction k with
      | zero =>
        intro i f hi h1 h2
        obtain rfl : i = L.length := by omega
        have rr : lM (m_putA h 78 f) (dvL v L) := ⟨by rw [e1, dvL, mkL_len], by rw [ma_eq]; exact mkL_hold h1⟩
        refine ev_iload_n dX12_divideListBy_16 rfl ?_
        refine ev_aload_n dX12_divideListBy_17 rfl ?_
        refine ev_getIv (e1 f) fl_X12_251 rfl rfl dX12_divideListBy_18 ?_
        refine ev_icmp_geN 61 dX12_divideListBy_21 (by decide) (by omega) (by omega) (fun c21 => ?_) (fun c21 => ?_)
        · refine ev_aload_n dX12_divideListBy_61 rfl ?_
          refine ev_callV (cl_minimizeListM rr (okL_dv o)) ok_X12_minimizeList ml_X12_260 rfl rfl rfl rfl (Nat.le_of_ble_eq_true rfl) dX12_divideListBy_62 ?_
          rintro rv h2 ⟨rfl, m2, l2⟩
          refine ev_iret dX12_divideListBy_65 rfl ?_
          exact ⟨rfl, (show lm h (m_putA h 78 f) from mod_a (by simp) (by decide)).tr m2, l2⟩
        · omega
      | succ k ih =>
        intro i f hi h1 h2
        have ev : (m_putA h 78 f).1 78 i = nI (L.getD i 0) := by rw [ma_eq]; exact h2 i (Nat.le_refl _) (by omega)
        have oi := o.2 i (by omega)
        have xl := ex_lt (L.getD i 0) v
        refine ev_iload_n dX12_divideListBy_16 rfl ?_
        refine ev_aload_n dX12_divideListBy_17 rfl ?_
        refine ev_getIv (e1 f) fl_X12_251 rfl rfl dX12_divideListBy_18 ?_
        refine ev_icmp_geN 61 dX12_divideListBy_21 (by decide) (by omega) (by omega) (fun c21 => ?_) (fun c21 => ?_)
        · omega
        · refine ev_aload_n dX12_divideListBy_24 rfl ?_
          refine ev_getR fl_X12_50 rfl rfl dX12_divideListBy_25 ?_
          refine ev_iload_n dX12_divideListBy_28 rfl ?_
          refine ev_dup2 dX12_divideListBy_29 rfl rfl ?_
          refine ev_ialdv (ev) rfl dX12_divideListBy_30 (by omega) (by omega) ?_
          refine ev_aload_n dX12_divideListBy_31 rfl ?_
          refine ev_getR fl_X12_50 rfl rfl dX12_divideListBy_32 ?_
          refine ev_iload_n dX12_divideListBy_35 rfl ?_
          refine ev_ialdv (ev) rfl dX12_divideListBy_36 (by omega) (by omega) ?_
          refine ev_iload_n dX12_divideListBy_37 rfl ?_
          refine ev_callS (cl_exponentOfM (by omega) (by omega)) ok_X12_exponentOf ml_X12_128 rfl rfl (Nat.le_of_ble_eq_true rfl) dX12_divideListBy_38 (kI ?_)
          refine ev_if_leN 52 dX12_divideListBy_41 (by decide) (by omega) (fun c41 => ?_) (fun c41 => ?_)
          · refine ev_iconst (nI 0) dX12_divideListBy_52 rfl ?_
            refine ev_isubN dX12_divideListBy_53 (by omega) ?_
            refine ev_iastN rfl dX12_divideListBy_54 (by omega) (by omega) ?_
            rw [ma_set]
            refine ev_inc2N dX12_divideListBy_55 (by decide) rfl ?_
            refine ev_goto 16 dX12_divideListBy_58 (by decide) ?_
            exact ih (i + 1) _ (by omega) (fun j hj => by
            by_cases e : j = i
            · subst e; rw [pk_us, dvX, if_neg (by omega), Nat.sub_zero]
            · rw [pk_un e]; exact h1 j (by omega)) (fun j hj hl => by rw [pk_un (by omega)]; exact h2 j (by omega) hl)
          · have hle := ex_le_sub (show 0 < ex (L.getD i 0) v by omega)
            refine ev_iconst (nI 1) dX12_divideListBy_44 rfl ?_
            refine ev_iconst (nI 2) dX12_divideListBy_45 rfl ?_
            refine ev_iload_n dX12_divideListBy_46 rfl ?_
            refine ev_imulN dX12_divideListBy_47 ?_
            refine ev_ishlN dX12_divideListBy_48 (by omega) (by rw [eS]; omega) ?_
            rw [eS]
            refine ev_goto 53 dX12_divideListBy_49 (by decide) ?_
            refine ev_isubN dX12_divideListBy_53 (by omega) ?_
            refine ev_iastN rfl dX12_divideListBy_54 (by omega) (by omega) ?_
            rw [ma_set]
            refine ev_inc2N dX12_divideListBy_55 (by decide) rfl ?_
            refine ev_goto 16 dX12_divideListBy_58 (by decide) ?_
            exact ih (i + 1) _ (by omega) (fun j hj => by
            by_cases e : j = i
            · subst e; rw [pk_us, dvX, if_pos (by omega)]
            · rw [pk_un e]; exact h1 j (by omega)) (fun j hj hl => by rw [pk_un (by omega)]; exact h2 j (by omega) hl)
    refine ev_start 1 (lv := [some (.ref 67), some (.int (nI v)), none]) rfl (by decide) (Nat.le_of_ble_eq_true rfl) ?_
    refine ev_iload_n dX12_divideListBy_0 rfl ?_
    refine ev_i2l dX12_divideListBy_1 rfl ?_
    refine ev_lconst (lN 0) dX12_divideListBy_2 rfl ?_
    refine ev_ldc2 (lN 6) dX12_divideListBy_3 kl_X12_243 ?_
    refine ev_callS (cl_btw (a := 0) (b := 6) rfl rfl (by decide) (by decide)) ok_X12_isBetween ml_X12_79 rfl rfl (Nat.le_of_ble_eq_true rfl) dX12_divideListBy_6 (kI ?_)
    refine ev_if_neN 14 dX12_divideListBy_9 (by decide) (by omega) (fun c9 => ?_) (fun c9 => ?_)
    · refine ev_iconst (nI 0) dX12_divideListBy_14 rfl ?_
      refine ev_ist2 dX12_divideListBy_15 (by decide) rfl ?_
      have q := loop L.length 0 (h.1 78) (by omega) (fun j hj => absurd hj (Nat.not_lt_zero _)) (fun j _ hj => r.2 j hj)
      rw [ma_self] at q
      exact q
    · omega
  · have q0 := b01_f hx
    have q1 := b01_f (fun z => hx (e7.mpr z))
    rw [q0, if_pos (show 0 = 0 from rfl), aIn_f hx]
    refine ev_start 1 (lv := [some (.ref 67), some (.int x), none]) rfl (by decide) (Nat.le_of_ble_eq_true rfl) ?_
    refine ev_iload_n dX12_divideListBy_0 rfl ?_
    refine ev_i2l dX12_divideListBy_1 rfl ?_
    refine ev_lconst (lN 0) dX12_divideListBy_2 rfl ?_
    refine ev_ldc2 (lN 6) dX12_divideListBy_3 kl_X12_243 ?_
    refine ev_callS (cl_btw (a := 0) (b := 6) rfl rfl (by decide) (by decide)) ok_X12_isBetween ml_X12_79 rfl rfl (Nat.le_of_ble_eq_true rfl) dX12_divideListBy_6 (kI ?_)
    refine ev_if_neN 14 dX12_divideListBy_9 (by decide) (by omega) (fun c9 => ?_) (fun c9 => ?_)
    · omega
    · refine ev_iconst (-1) dX12_divideListBy_12 rfl ?_
      refine ev_iret dX12_divideListBy_13 rfl ?_
      exact ⟨rfl, mod.rf, r⟩
end LIST3
