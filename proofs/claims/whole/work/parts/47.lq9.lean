section LQ9
variable {G : MG} {d : Nat} {h : MH}
theorem cl_isLinear {n N i : Nat} {O : List Nat} (gm : gM h n N) (hn : n ≤ 7) (hO : hold (h.1 75) O) (lO : O.length ≤ 16384) (bO : ∀ x, x ∈ O → x < 16384) (hi : i < O.length) : Cl G (d + 3) M_X12_isLinear [.ref 67, .int (nI i)] h (qI (nI (b01 (Lin n O i))) h) := by
  have hc := cSt_lt (n := n) (O := O) (i := i)
  have loop : ∀ (j k : Nat), k + j = i → (∀ e, e < k → ∃ v, Col n O i v ∧ ex (O.getD i 0) v < ex (O.getD e 0) v) → ∀ x4 x5 : Option Value, Ev G (d + 3) M_X12_isLinear 8 [some (.ref 67), some (.int (nI i)), some (.int (nI (cSt n O i))), some (.int (nI k)), x4, x5] [] h (qI (nI (b01 (Lin n O i))) h) := by
    intro j
    induction j with
    | zero =>
      intro k hk hw x4 x5
      obtain rfl : k = i := by omega
      refine ev_iload_n dX12_isLinear_8 rfl ?_
      refine ev_iload_n dX12_isLinear_9 rfl ?_
      refine ev_icmp_geN 92 dX12_isLinear_10 (by decide) (by omega) (by omega) (fun c10 => ?_) (fun c10 => ?_)
      · refine ev_iconst (nI 1) dX12_isLinear_92 rfl ?_
        refine ev_zret dX12_isLinear_93 rfl rfl ?_
        exact ⟨by rw [b01_t (show Lin n O k from hw)], rfl⟩
      · omega
    | succ j ih =>
      intro k hk hw x4 x5
      have hkO : k < O.length := by omega
      have b1 := bO _ (getD_mem hkO)
      have b2 := bO _ (getD_mem hi)
      have inner : ∀ (q v : Nat), v + q = n → Ev G (d + 3) M_X12_isLinear 19 [some (.ref 67), some (.int (nI i)), some (.int (nI (cSt n O i))), some (.int (nI k)), some (.int (nI (b01 (∃ w, w < v ∧ Col n O i w ∧ ex (O.getD i 0) w < ex (O.getD k 0) w)))), some (.int (nI v))] [] h (qI (nI (b01 (Lin n O i))) h) := by
        intro q
        induction q with
        | zero =>
          intro v hv
          obtain rfl : v = n := by omega
          have y := b01_lt (∃ w, w < v ∧ Col v O i w ∧ ex (O.getD i 0) w < ex (O.getD k 0) w)
          refine ev_iload dX12_isLinear_19 rfl ?_
          refine ev_aload_n dX12_isLinear_21 rfl ?_
          refine ev_getIv (gm.1) fl_X12_9 rfl rfl dX12_isLinear_22 ?_
          refine ev_icmp_geN 79 dX12_isLinear_25 (by decide) (by omega) (by omega) (fun c25 => ?_) (fun c25 => ?_)
          · refine ev_iload dX12_isLinear_79 rfl ?_
            refine ev_if_neN 86 dX12_isLinear_81 (by decide) (by omega) (fun c81 => ?_) (fun c81 => ?_)
            · refine ev_inc3N dX12_isLinear_86 (by decide) rfl ?_
              refine ev_goto 8 dX12_isLinear_89 (by decide) ?_
              refine ih (k + 1) (by omega) (fun e he => ?_) _ _
              by_cases c : e = k
              · subst c
                obtain ⟨w, h1, h2⟩ := b01_1.mp (show b01 (∃ w, w < v ∧ Col v O i w ∧ ex (O.getD i 0) w < ex (O.getD e 0) w) = 1 by omega)
                exact ⟨w, h2⟩
              · exact hw e (by omega)
            · refine ev_iconst (nI 0) dX12_isLinear_84 rfl ?_
              refine ev_zret dX12_isLinear_85 rfl rfl ?_
              exact ⟨by rw [b01_f (fun z => by
              obtain ⟨w, h1, h2⟩ := z k (by omega)
              exact b01_0.mp (show b01 (∃ w, w < v ∧ Col v O i w ∧ ex (O.getD i 0) w < ex (O.getD k 0) w) = 0 by omega) ⟨w, h1.1, h1, h2⟩)], rfl⟩
          · omega
        | succ q ihq =>
          intro v hv
          have hv7 : v < 7 := by omega
          have x1 := ex_lt (O.getD k 0) v
          have x2 := ex_lt (O.getD i 0) v
          have l1 := tb_lt1 (cSt n O i) v
          have bt := cSt_bit (n := n) (O := O) (i := i) hv7
          have ihv := ihq (v + 1) (by omega)
          have y := b01_lt (∃ w, w < v ∧ Col n O i w ∧ ex (O.getD i 0) w < ex (O.getD k 0) w)
          have no : ¬ (Col n O i v ∧ ex (O.getD i 0) v < ex (O.getD k 0) v) → b01 (∃ w, w < v + 1 ∧ Col n O i w ∧ ex (O.getD i 0) w < ex (O.getD k 0) w) = b01 (∃ w, w < v ∧ Col n O i w ∧ ex (O.getD i 0) w < ex (O.getD k 0) w) := fun z => b01_c ⟨fun ⟨w, h1, h2⟩ => ⟨w, Nat.lt_of_le_of_ne (by omega) (fun e => z (e ▸ h2)), h2⟩, fun ⟨w, h1, h2⟩ => ⟨w, by omega, h2⟩⟩
          have ye : (Col n O i v ∧ ex (O.getD i 0) v < ex (O.getD k 0) v) → b01 (∃ w, w < v + 1 ∧ Col n O i w ∧ ex (O.getD i 0) w < ex (O.getD k 0) w) = b01 (∃ w, w < v ∧ Col n O i w ∧ ex (O.getD i 0) w < ex (O.getD k 0) w) ||| 1 := fun z => by
            rw [b01_t ⟨v, by omega, z⟩]
            rcases (show b01 (∃ w, w < v ∧ Col n O i w ∧ ex (O.getD i 0) w < ex (O.getD k 0) w) = 0 ∨ b01 (∃ w, w < v ∧ Col n O i w ∧ ex (O.getD i 0) w < ex (O.getD k 0) w) = 1 by omega) with e | e <;> rw [e] <;> rfl
          refine ev_iload dX12_isLinear_19 rfl ?_
          refine ev_aload_n dX12_isLinear_21 rfl ?_
          refine ev_getIv (gm.1) fl_X12_9 rfl rfl dX12_isLinear_22 ?_
          refine ev_icmp_geN 79 dX12_isLinear_25 (by decide) (by omega) (by omega) (fun c25 => ?_) (fun c25 => ?_)
          · omega
          · refine ev_iload dX12_isLinear_28 rfl ?_
            refine ev_iload_n dX12_isLinear_30 rfl ?_
            refine ev_iload dX12_isLinear_31 rfl ?_
            refine ev_ishrN dX12_isLinear_33 (by omega) (by omega) ?_
            refine ev_iconst (nI 1) dX12_isLinear_34 rfl ?_
            refine ev_iandN dX12_isLinear_35 ?_
            refine ev_iconst (nI 1) dX12_isLinear_36 rfl ?_
            refine ev_icmp_neN 69 dX12_isLinear_37 (by decide) (by omega) (by omega) (fun c37 => ?_) (fun c37 => ?_)
            · refine ev_iconst (nI 0) dX12_isLinear_69 rfl ?_
              refine ev_iorN dX12_isLinear_70 ?_
              refine ev_ist4 dX12_isLinear_71 (by decide) rfl ?_
              refine ev_inc5N dX12_isLinear_73 (by decide) rfl ?_
              refine ev_goto 19 dX12_isLinear_76 (by decide) ?_
              rw [no (fun z => by rw [(tb_n1 _ _).mp c37] at bt; exact absurd (bt.mpr z.1) (by decide))] at ihv
              rw [Nat.or_zero]; exact ihv
            · refine ev_aload_n dX12_isLinear_40 rfl ?_
              refine ev_getR fl_X12_41 rfl rfl dX12_isLinear_41 ?_
              refine ev_iload_n dX12_isLinear_44 rfl ?_
              refine ev_ialdv (hO k hkO) rfl dX12_isLinear_45 (by omega) (by omega) ?_
              refine ev_iload dX12_isLinear_46 rfl ?_
              refine ev_callS (cl_exponentOfM (by omega) (by omega)) ok_X12_exponentOf ml_X12_128 rfl rfl (Nat.le_of_ble_eq_true rfl) dX12_isLinear_48 (kI ?_)
              refine ev_aload_n dX12_isLinear_51 rfl ?_
              refine ev_getR fl_X12_41 rfl rfl dX12_isLinear_52 ?_
              refine ev_iload_n dX12_isLinear_55 rfl ?_
              refine ev_ialdv (hO i hi) rfl dX12_isLinear_56 (by omega) (by omega) ?_
              refine ev_iload dX12_isLinear_57 rfl ?_
              refine ev_callS (cl_exponentOfM (by omega) (by omega)) ok_X12_exponentOf ml_X12_128 rfl rfl (Nat.le_of_ble_eq_true rfl) dX12_isLinear_59 (kI ?_)
              refine ev_icmp_leN 69 dX12_isLinear_62 (by decide) (by omega) (by omega) (fun c62 => ?_) (fun c62 => ?_)
              · refine ev_iconst (nI 0) dX12_isLinear_69 rfl ?_
                refine ev_iorN dX12_isLinear_70 ?_
                refine ev_ist4 dX12_isLinear_71 (by decide) rfl ?_
                refine ev_inc5N dX12_isLinear_73 (by decide) rfl ?_
                refine ev_goto 19 dX12_isLinear_76 (by decide) ?_
                rw [no (fun z => by omega)] at ihv
                rw [Nat.or_zero]; exact ihv
              · refine ev_iconst (nI 1) dX12_isLinear_65 rfl ?_
                refine ev_goto 70 dX12_isLinear_66 (by decide) ?_
                refine ev_iorN dX12_isLinear_70 ?_
                refine ev_ist4 dX12_isLinear_71 (by decide) rfl ?_
                refine ev_inc5N dX12_isLinear_73 (by decide) rfl ?_
                refine ev_goto 19 dX12_isLinear_76 (by decide) ?_
                rw [ye ⟨bt.mp ((tb_iff _ _).mp (by omega)), by omega⟩] at ihv
                exact ihv
      have q0 := inner n 0 (by omega)
      rw [b01_f (show ¬ ∃ w, w < 0 ∧ Col n O i w ∧ ex (O.getD i 0) w < ex (O.getD k 0) w from fun ⟨w, h1, _⟩ => absurd h1 (by omega))] at q0
      refine ev_iload_n dX12_isLinear_8 rfl ?_
      refine ev_iload_n dX12_isLinear_9 rfl ?_
      refine ev_icmp_geN 92 dX12_isLinear_10 (by decide) (by omega) (by omega) (fun c10 => ?_) (fun c10 => ?_)
      · omega
      · refine ev_iconst (nI 0) dX12_isLinear_13 rfl ?_
        refine ev_ist4 dX12_isLinear_14 (by decide) rfl ?_
        refine ev_iconst (nI 0) dX12_isLinear_16 rfl ?_
        refine ev_ist5 dX12_isLinear_17 (by decide) rfl ?_
        exact q0
  refine ev_start 4 (lv := [some (.ref 67), some (.int (nI i)), none, none, none, none]) rfl (by decide) (Nat.le_of_ble_eq_true rfl) ?_
  refine ev_aload_n dX12_isLinear_0 rfl ?_
  refine ev_iload_n dX12_isLinear_1 rfl ?_
  refine ev_callV (cl_colonSet gm hn hO lO bO hi) ok_X12_colonSet ml_X12_211 rfl rfl rfl rfl (Nat.le_of_ble_eq_true rfl) dX12_isLinear_2 (kI ?_)
  refine ev_ist2 dX12_isLinear_5 (by decide) rfl ?_
  refine ev_iconst (nI 0) dX12_isLinear_6 rfl ?_
  refine ev_ist3 dX12_isLinear_7 (by decide) rfl ?_
  exact loop i 0 (by omega) (fun e he => absurd he (by omega)) none none
theorem cl_firstNonLinearM {n N : Nat} {O : List Nat} (gm : gM h n N) (hn : n ≤ 7) (hl : gLM h O) (lO : O.length ≤ 16384) (bO : ∀ x, x ∈ O → x < 16384) : Cl G (d + 4) M_X12_firstNonLinear [.ref 67] h (qI (fnd (fun i => ¬ Lin n O i) O.length) h) := by
  generalize hF : fnd (fun i => ¬ Lin n O i) O.length = A
  have loop : ∀ (k i : Nat), i + k = O.length → srch (fun i => ¬ Lin n O i) O.length 0 = srch (fun i => ¬ Lin n O i) k i → Ev G (d + 4) M_X12_firstNonLinear 2 [some (.ref 67), some (.int (nI i))] [] h (qI A h) := by
    intro k
    induction k with
    | zero =>
      intro i hi hw
      have hA : A = -2 := by rw [← hF]; unfold fnd; rw [hw]; exact if_neg (by show ¬ i < O.length; omega)
      rw [hA]
      refine ev_iload_n dX12_firstNonLinear_2 rfl ?_
      refine ev_aload_n dX12_firstNonLinear_3 rfl ?_
      refine ev_getIv (hl.1) fl_X12_177 rfl rfl dX12_firstNonLinear_4 ?_
      refine ev_icmp_geN 26 dX12_firstNonLinear_7 (by decide) (by omega) (by omega) (fun c7 => ?_) (fun c7 => ?_)
      · refine ev_bipush (-2) dX12_firstNonLinear_26 rfl ?_
        refine ev_iret dX12_firstNonLinear_28 rfl ?_
        exact ⟨by with_reducible rfl, rfl⟩
      · omega
    | succ k ih =>
      intro i hi hw
      have y := b01_lt (Lin n O i)
      refine ev_iload_n dX12_firstNonLinear_2 rfl ?_
      refine ev_aload_n dX12_firstNonLinear_3 rfl ?_
      refine ev_getIv (hl.1) fl_X12_177 rfl rfl dX12_firstNonLinear_4 ?_
      refine ev_icmp_geN 26 dX12_firstNonLinear_7 (by decide) (by omega) (by omega) (fun c7 => ?_) (fun c7 => ?_)
      · omega
      · refine ev_aload_n dX12_firstNonLinear_10 rfl ?_
        refine ev_iload_n dX12_firstNonLinear_11 rfl ?_
        refine ev_callV (cl_isLinear gm hn hl.2 lO bO (by omega)) ok_X12_isLinear ml_X12_224 rfl rfl rfl rfl (Nat.le_of_ble_eq_true rfl) dX12_firstNonLinear_12 (kI ?_)
        refine ev_if_neN 20 dX12_firstNonLinear_15 (by decide) (by omega) (fun c15 => ?_) (fun c15 => ?_)
        · refine ev_inc1N dX12_firstNonLinear_20 (by decide) rfl ?_
          refine ev_goto 2 dX12_firstNonLinear_23 (by decide) ?_
          exact ih (i + 1) (by omega) (by rw [hw, srch_f (fun z => z (b01_1.mp (by omega)))])
        · refine ev_iload_n dX12_firstNonLinear_18 rfl ?_
          refine ev_iret dX12_firstNonLinear_19 rfl ?_
          have hP : ¬ Lin n O i := b01_0.mp (by omega)
          have hA : A = nI i := by rw [← hF]; unfold fnd; rw [hw, srch_t hP]; exact if_pos (by omega)
          exact ⟨by rw [hA], rfl⟩
  refine ev_start 1 (lv := [some (.ref 67), none]) rfl (by decide) (Nat.le_of_ble_eq_true rfl) ?_
  refine ev_iconst (nI 0) dX12_firstNonLinear_0 rfl ?_
  refine ev_ist1 dX12_firstNonLinear_1 (by decide) rfl ?_
  exact loop O.length 0 (by omega) rfl
/-- what is known of the quotients is right -/
def lqC (h : MH) (n N : Nat) : Prop := h.1 26 5 = nI 0 ∨ ∃ s S, 1 ≤ s ∧ s ≤ 3 ∧ rdO n (h.1 26 6) = some S ∧ rdy h n N s S
theorem cl_prepare {n N k : Nat} {x : Int32} (gc : gC h n N) (ok : gOK n N) (c : cI h n N) (lq : lqC h n N) (hk : k < 3) : Cl G (d + 4) M_X4_prepare [.ref 26, .int (nI (k + 1)), .int x] h (fun rv h' => rv = some (.int (nI (b01 (rdO n x ≠ none)))) ∧ same (fun k => k < 4 ∨ 31 < k) h h' ∧ cI h' n N ∧ lqC h' n N ∧ ∀ S, rdO n x = some S → rdy h' n N (k + 1) S) := by
  have hn := ok.2.1
  have h4 := four_n hn
  obtain ⟨hp, ha, hcap⟩ := rowG hk
  have hgl := gnL_len (N := N) (n := n) (s := k + 1) hn (by omega) (by omega)
  have y := b01_lt (rdO n x ≠ none)
  have main : Ev G (d + 4) M_X4_prepare 18 [some (.ref 26), some (.int (nI (k + 1))), some (.int x)] [] h (fun rv h' => rv = some (.int (nI (b01 (rdO n x ≠ none)))) ∧ same (fun k => k < 4 ∨ 31 < k) h h' ∧ cI h' n N ∧ lqC h' n N ∧ ∀ S, rdO n x = some S → rdy h' n N (k + 1) S) := by
    have g1 : gC (m_put h 26 5 (nI 0)) n N := ⟨by rw [mp_k (by decide)]; exact gc.1, gc.2⟩
    have c1 : cI (m_put h 26 5 (nI 0)) n N := cI_same c (fun k _ h2 => mp_k (by omega))
    refine ev_aload_n dX4_prepare_18 rfl ?_
    refine ev_iconst (nI 0) dX4_prepare_19 rfl ?_
    refine ev_putI fp_X4_37 rfl rfl rfl rfl dX4_prepare_20 ?_
    refine ev_aload_n dX4_prepare_23 rfl ?_
    refine ev_iload_n dX4_prepare_24 rfl ?_
    refine ev_callV (cl_readSequence g1 ok) ok_X4_readSequence ml_X4_44 rfl rfl rfl rfl (Nat.le_of_ble_eq_true rfl) dX4_prepare_25 ?_
    rintro rv h2 ⟨f, rfl, rfl, hf⟩
    have s2 : same (fun k => k ≠ 26 ∧ k ≠ 27) h (m_putA (m_put h 26 5 (nI 0)) 27 f) := (same_put (by decide)).tr (same_putA (by decide))
    have g2 : gC (m_putA (m_put h 26 5 (nI 0)) 27 f) n N := ⟨by rw [(s2 1 (by decide)).1]; exact gc.1, by rw [(s2 1 (by decide)).2]; exact gc.2⟩
    have c2 : cI (m_putA (m_put h 26 5 (nI 0)) 27 f) n N := cI_same c (fun k _ h2 => (s2 k (by omega)).1)
    refine ev_if_neN 33 dX4_prepare_28 (by decide) (by omega) (fun c28 => ?_) (fun c28 => ?_)
    · have hsm : rdO n x ≠ none := b01_1.mp (by omega)
      obtain ⟨S, hS⟩ := Option.ne_none_iff_exists'.mp hsm
      have o := rdO_isO hS
      refine ev_aload_n dX4_prepare_33 rfl ?_
      refine ev_getR fl_X4_30 rfl rfl dX4_prepare_34 ?_
      refine ev_aload_n dX4_prepare_37 rfl ?_
      refine ev_getR fl_X4_15 rfl rfl dX4_prepare_38 ?_
      refine ev_iload_n dX4_prepare_41 rfl ?_
      refine ev_callV (cl_generators g2 ok c2 hk) ok_X2_generators ml_X4_48 rfl rfl rfl rfl (Nat.le_of_ble_eq_true rfl) dX4_prepare_42 ?_
      rintro rv h3 ⟨rfl, i3, c3, kg⟩
      have r4 : rowIs (rowCopy h3 28 (14 + 2 * k) (gnL n N (k + 1)).length) 28 (gnL n N (k + 1)) := rowIs_copy kg.2.1
      have s4 : same (fun k => k ≠ 28 ∧ k ≠ 29) h3 (rowCopy h3 28 (14 + 2 * k) (gnL n N (k + 1)).length) := same_copy (by decide) (by decide)
      have g3 := gC_iq g2 i3
      have g4 : gC (rowCopy h3 28 (14 + 2 * k) (gnL n N (k + 1)).length) n N := ⟨by rw [(s4 1 (by decide)).1]; exact g3.1, by rw [(s4 1 (by decide)).2]; exact g3.2⟩
      have q4 : hold ((rowCopy h3 28 (14 + 2 * k) (gnL n N (k + 1)).length).1 27) S := by rw [(s4 27 (by decide)).1, (i3.1 27 (by decide)).1, ma_eq]; exact hf S hS
      refine ev_callV (cl_copyFrom row_28 (rowG hk) (by omega) (by omega) kg.2.1.1 (by omega) (by omega)) ok_X7_copyFrom ml_X4_52 rfl rfl rfl rfl (Nat.le_of_ble_eq_true rfl) dX4_prepare_45 (kV ?_)
      refine ev_aload_n dX4_prepare_48 rfl ?_
      refine ev_callV (cl_sortBySequence g4 hn ok.1 q4 o.1 o.2.2 r4 (by omega) (fun z hz => by have := ((selD_mem _).mp hz).1; omega)) ok_X4_sortBySequence ml_X4_56 rfl rfl rfl rfl (Nat.le_of_ble_eq_true rfl) dX4_prepare_49 ?_
      rintro rv h5 ⟨rfl, s5, r5⟩
      refine ev_aload_n dX4_prepare_52 rfl ?_
      refine ev_iload_n dX4_prepare_53 rfl ?_
      refine ev_putI fp_X4_37 rfl rfl rfl rfl dX4_prepare_54 ?_
      refine ev_aload_n dX4_prepare_57 rfl ?_
      refine ev_iload_n dX4_prepare_58 rfl ?_
      refine ev_putI fp_X4_41 rfl rfl rfl rfl dX4_prepare_59 ?_
      refine ev_iconst (nI 1) dX4_prepare_62 rfl ?_
      refine ev_zret dX4_prepare_63 rfl rfl ?_
      have s6 : same (fun k => k ≠ 26) h5 (m_put (m_put h5 26 5 (nI (k + 1))) 26 6 x) := (same_put (by decide)).tr (same_put (by decide))
      have sA : same (fun k => k < 26) h3 (m_put (m_put h5 26 5 (nI (k + 1))) 26 6 x) := ((s4.mono (fun k hk => by omega)).tr (s5.mono (fun k hk => by omega))).tr (s6.mono (fun k hk => by omega))
      have hr : rdy (m_put (m_put h5 26 5 (nI (k + 1))) 26 6 x) n N (k + 1) S := by
        refine ⟨by rw [mp_j (by decide), mp_eq], ?_, o, rowIs_same r5 s6 (by decide) (by decide), ?_⟩
        · rw [(s6 27 (by decide)).1, (s5 27 (by decide)).1]; exact q4
        · obtain ⟨-, -, ko, ⟨k1, k2, k3⟩, k4⟩ := kg
          exact ⟨ko, ⟨k1, by rw [(sA 4 (by decide)).1]; exact k2, fun j hj => by rw [(sA 5 (by decide)).1]; exact k3 j hj⟩, k4⟩
      refine ⟨by rw [b01_t hsm], ?_, cI_same c3 (fun k _ h2 => (sA k (by omega)).1), Or.inr ⟨k + 1, S, by omega, by omega, by rw [mp_eq]; exact hS, hr⟩, fun S' hS' => ?_⟩
      · exact (((s2.mono (fun k hk => by omega)).tr (i3.1.mono (fun k hk => by omega))).tr (s4.mono (fun k hk => by omega))).tr ((s5.mono (fun k hk => by omega)).tr (s6.mono (fun k hk => by omega)))
      · rw [hS] at hS'; cases hS'; exact hr
    · refine ev_iconst (nI 0) dX4_prepare_31 rfl ?_
      refine ev_zret dX4_prepare_32 rfl rfl ?_
      have hno : ¬ (rdO n x ≠ none) := b01_0.mp (by omega)
      refine ⟨by rw [b01_f hno], s2.mono (fun k hk => by omega), c2, Or.inl (by rw [ma_k (by decide), mp_eq]), fun S hS => absurd (fun e => by rw [e] at hS; cases hS) hno⟩
  refine ev_start 0 (lv := [some (.ref 26), some (.int (nI (k + 1))), some (.int x)]) rfl (by decide) (Nat.le_of_ble_eq_true rfl) ?_
  refine ev_aload_n dX4_prepare_0 rfl ?_
  refine ev_getI fl_X4_37 rfl rfl dX4_prepare_1 ?_
  refine ev_iload_n dX4_prepare_4 rfl ?_
  refine ev_icmp_ne 18 dX4_prepare_5 (by decide) (fun c5 => ?_) (fun c5 => ?_)
  · exact main
  · refine ev_aload_n dX4_prepare_8 rfl ?_
    refine ev_getI fl_X4_41 rfl rfl dX4_prepare_9 ?_
    refine ev_iload_n dX4_prepare_12 rfl ?_
    refine ev_icmp_ne 18 dX4_prepare_13 (by decide) (fun c13 => ?_) (fun c13 => ?_)
    · exact main
    · refine ev_iconst (nI 1) dX4_prepare_16 rfl ?_
      refine ev_zret dX4_prepare_17 rfl rfl ?_
      rcases lq with z | ⟨s, S, h1, h3, h5, h6⟩
      · rw [z] at c5; exact absurd (nI_ij (by decide) (by omega) c5) (by omega)
      · have es : s = k + 1 := nI_ij (by omega) (by omega) (h6.1.symm.trans c5)
        rw [c13] at h5
        subst es
        refine ⟨by rw [b01_t (fun e => by rw [e] at h5; cases h5)], same.rf, c, Or.inr ⟨k + 1, S, h1, h3, by rw [c13]; exact h5, h6⟩, fun S' hS' => ?_⟩
        rw [h5] at hS'; cases hS'; exact h6
end LQ9
