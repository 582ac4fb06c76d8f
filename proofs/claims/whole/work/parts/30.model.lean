section MODEL
variable {G : MG} {d : Nat} {h : MH}
def cM (h : MH) (n N : Nat) : Prop := h.1 67 7 = nI (cvL n N).length ∧ hold (h.1 71) (cvL n N)
theorem cl_findSymbolicOrder {n N m : Nat} (g : gM h n N) (ok : gOK n N) (cm : cM h n N) (hm : m < 4 ^ n) : Cl G (d + 1) M_X12_findSymbolicOrder [.ref 67, .int (nI m)] h (qI (nI (so n N m)) h) := by
  have hn := ok.2.1
  have h4 := four_n hn
  have l35 := cvL_len ok
  obtain ⟨k1, k2⟩ := cm
  have fe : ∀ c, c ∈ cvL n N → wsm n c m = deg (m &&& mk c) := fun c hc => (deg_mk hn hm (cvL_lt ok hc)).symm
  have w21 : ∀ i, i < (cvL n N).length → wsm n ((cvL n N).getD i 0) m ≤ 21 := fun i hi => by
    rw [fe _ (getD_mem hi)]; exact deg_le
  have wpart : ∀ c v, v ≤ n → c ∈ cvL n N → sumTo v (fun v => (c / 2 ^ v &&& 1) * ex m v) ≤ 21 := by
    intro c v hv hc
    have := sumTo_le (n := v) (b := 3) (f := fun v => (c / 2 ^ v &&& 1) * ex m v) (fun i hi => by
      have t1 := tb_lt1 c i
      have t2 := ex_lt m i
      rcases (show (c / 2 ^ i &&& 1) = 0 ∨ (c / 2 ^ i &&& 1) = 1 by omega) with e | e <;> rw [e] <;> omega)
    omega
  have outer : ∀ (k i : Nat) (bv : Int32), i + k = (cvL n N).length → ((i = 0 ∧ bv = -1) ∨ (0 < i ∧ bv = nI (mnf (fun c => wsm n c m) ((cvL n N).take i) 21))) → ∀ x4 x5 : Option Value, Ev G (d + 1) M_X12_findSymbolicOrder 4 [some (.ref 67), some (.int (nI m)), some (.int bv), some (.int (nI i)), x4, x5] [] h (qI (nI (so n N m)) h) := by
    intro k
    induction k with
    | zero =>
      intro i bv hi hb x4 x5
      have hpos : 0 < (cvL n N).length := List.length_pos_iff.mpr (cvL_ne ok)
      rcases hb with ⟨z, -⟩ | ⟨-, rfl⟩
      · omega
      · rw [List.take_of_length_le (by omega), mnf_c (cvL n N) 21 fe]
        refine ev_iload_n dX12_findSymbolicOrder_4 rfl ?_
        refine ev_aload_n dX12_findSymbolicOrder_5 rfl ?_
        refine ev_getIv (k1) fl_X12_132 rfl rfl dX12_findSymbolicOrder_6 ?_
        refine ev_icmp_geN 79 dX12_findSymbolicOrder_9 (by decide) (by omega) (by omega) (fun c9 => ?_) (fun c9 => ?_)
        · refine ev_iload_n dX12_findSymbolicOrder_79 rfl ?_
          refine ev_iret dX12_findSymbolicOrder_80 rfl ?_
          exact ⟨by unfold so; with_reducible rfl, rfl⟩
        · omega
    | succ k ih =>
      intro i bv hi hb x4 x5
      have hv := k2 i (by omega)
      have hmem := getD_mem (L := cvL n N) (i := i) (by omega)
      have hc := cvL_lt ok hmem
      have inner : ∀ (l v : Nat), v + l = n → Ev G (d + 1) M_X12_findSymbolicOrder 18 [some (.ref 67), some (.int (nI m)), some (.int bv), some (.int (nI i)), some (.int (nI (sumTo v (fun v => ((cvL n N).getD i 0 / 2 ^ v &&& 1) * ex m v)))), some (.int (nI v))] [] h (qI (nI (so n N m)) h) := by
        intro l
        induction l with
        | zero =>
          intro v hv'
          obtain rfl : v = n := by omega
          have hw := w21 i (by omega)
          have hwd : sumTo v (fun w => ((cvL v N).getD i 0 / 2 ^ w &&& 1) * ex m w) = wsm v ((cvL v N).getD i 0) m := rfl
          rw [hwd]
          rcases hb with ⟨rfl, rfl⟩ | ⟨hi0, rfl⟩
          · have q := ih 1 (nI (wsm v ((cvL v N).getD 0 0) m)) (by omega) (Or.inr ⟨by omega, by
              rw [take_snoc (by omega), mnf_app]
              show _ = nI (min 21 _)
              rw [Nat.min_eq_right hw]⟩)
            refine ev_iload dX12_findSymbolicOrder_18 rfl ?_
            refine ev_aload_n dX12_findSymbolicOrder_20 rfl ?_
            refine ev_getIv (g.1) fl_X12_9 rfl rfl dX12_findSymbolicOrder_21 ?_
            refine ev_icmp_geN 56 dX12_findSymbolicOrder_24 (by decide) (by omega) (by omega) (fun c24 => ?_) (fun c24 => ?_)
            · refine ev_iload_n dX12_findSymbolicOrder_56 rfl ?_
              refine ev_if_lt 66 dX12_findSymbolicOrder_57 (by decide) (fun c57 => ?_) (fun c57 => ?_)
              · refine ev_iload dX12_findSymbolicOrder_66 rfl ?_
                refine ev_goto 72 dX12_findSymbolicOrder_68 (by decide) ?_
                refine ev_ist2 dX12_findSymbolicOrder_72 (by decide) rfl ?_
                refine ev_inc3N dX12_findSymbolicOrder_73 (by decide) rfl ?_
                refine ev_goto 4 dX12_findSymbolicOrder_76 (by decide) ?_
                exact q _ _
              · exact absurd (by decide) c57
            · omega
          · have hbl : mnf (fun c => wsm v c m) ((cvL v N).take i) 21 ≤ 21 := ((mnf_le _ _ _ _).mp (Nat.le_refl _)).1
            have q : ∀ b2, b2 = min (mnf (fun c => wsm v c m) ((cvL v N).take i) 21) (wsm v ((cvL v N).getD i 0) m) → ∀ x4 x5 : Option Value, Ev G (d + 1) M_X12_findSymbolicOrder 4 [some (.ref 67), some (.int (nI m)), some (.int (nI b2)), some (.int (nI (i + 1))), x4, x5] [] h (qI (nI (so v N m)) h) := fun b2 hb2 x4 x5 => ih (i + 1) (nI b2) (by omega) (Or.inr ⟨by omega, by rw [take_snoc (by omega), mnf_app, hb2]⟩) x4 x5
            refine ev_iload dX12_findSymbolicOrder_18 rfl ?_
            refine ev_aload_n dX12_findSymbolicOrder_20 rfl ?_
            refine ev_getIv (g.1) fl_X12_9 rfl rfl dX12_findSymbolicOrder_21 ?_
            refine ev_icmp_geN 56 dX12_findSymbolicOrder_24 (by decide) (by omega) (by omega) (fun c24 => ?_) (fun c24 => ?_)
            · refine ev_iload_n dX12_findSymbolicOrder_56 rfl ?_
              refine ev_if_ltN 66 dX12_findSymbolicOrder_57 (by decide) (by omega) (fun c57 => ?_) (fun c57 => ?_)
              · exact c57.elim
              · refine ev_iload dX12_findSymbolicOrder_60 rfl ?_
                refine ev_iload_n dX12_findSymbolicOrder_62 rfl ?_
                refine ev_icmp_geN 71 dX12_findSymbolicOrder_63 (by decide) (by omega) (by omega) (fun c63 => ?_) (fun c63 => ?_)
                · refine ev_iload_n dX12_findSymbolicOrder_71 rfl ?_
                  refine ev_ist2 dX12_findSymbolicOrder_72 (by decide) rfl ?_
                  refine ev_inc3N dX12_findSymbolicOrder_73 (by decide) rfl ?_
                  refine ev_goto 4 dX12_findSymbolicOrder_76 (by decide) ?_
                  exact q _ (by omega) _ _
                · refine ev_iload dX12_findSymbolicOrder_66 rfl ?_
                  refine ev_goto 72 dX12_findSymbolicOrder_68 (by decide) ?_
                  refine ev_ist2 dX12_findSymbolicOrder_72 (by decide) rfl ?_
                  refine ev_inc3N dX12_findSymbolicOrder_73 (by decide) rfl ?_
                  refine ev_goto 4 dX12_findSymbolicOrder_76 (by decide) ?_
                  exact q _ (by omega) _ _
            · omega
        | succ l ihl =>
          intro v hv'
          have hp := wpart _ v (by omega) hmem
          refine ev_iload dX12_findSymbolicOrder_18 rfl ?_
          refine ev_aload_n dX12_findSymbolicOrder_20 rfl ?_
          refine ev_getIv (g.1) fl_X12_9 rfl rfl dX12_findSymbolicOrder_21 ?_
          refine ev_icmp_geN 56 dX12_findSymbolicOrder_24 (by decide) (by omega) (by omega) (fun c24 => ?_) (fun c24 => ?_)
          · omega
          · refine ev_iload dX12_findSymbolicOrder_27 rfl ?_
            refine ev_aload_n dX12_findSymbolicOrder_29 rfl ?_
            refine ev_getR fl_X12_29 rfl rfl dX12_findSymbolicOrder_30 ?_
            refine ev_iload_n dX12_findSymbolicOrder_33 rfl ?_
            refine ev_ialdv (hv) rfl dX12_findSymbolicOrder_34 (by omega) (by omega) ?_
            refine ev_iload dX12_findSymbolicOrder_35 rfl ?_
            refine ev_ishrN dX12_findSymbolicOrder_37 (by omega) (by omega) ?_
            refine ev_iconst (nI 1) dX12_findSymbolicOrder_38 rfl ?_
            refine ev_iandN dX12_findSymbolicOrder_39 ?_
            refine ev_iload_n dX12_findSymbolicOrder_40 rfl ?_
            refine ev_iload dX12_findSymbolicOrder_41 rfl ?_
            refine ev_callS (cl_exponentOfM (by omega) (by omega)) ok_X12_exponentOf ml_X12_128 rfl rfl (Nat.le_of_ble_eq_true rfl) dX12_findSymbolicOrder_43 (kI ?_)
            refine ev_imulN dX12_findSymbolicOrder_46 ?_
            refine ev_iaddN dX12_findSymbolicOrder_47 ?_
            refine ev_ist4 dX12_findSymbolicOrder_48 (by decide) rfl ?_
            refine ev_inc5N dX12_findSymbolicOrder_50 (by decide) rfl ?_
            refine ev_goto 18 dX12_findSymbolicOrder_53 (by decide) ?_
            exact ihl (v + 1) (by omega)
      refine ev_iload_n dX12_findSymbolicOrder_4 rfl ?_
      refine ev_aload_n dX12_findSymbolicOrder_5 rfl ?_
      refine ev_getIv (k1) fl_X12_132 rfl rfl dX12_findSymbolicOrder_6 ?_
      refine ev_icmp_geN 79 dX12_findSymbolicOrder_9 (by decide) (by omega) (by omega) (fun c9 => ?_) (fun c9 => ?_)
      · omega
      · refine ev_iconst (nI 0) dX12_findSymbolicOrder_12 rfl ?_
        refine ev_ist4 dX12_findSymbolicOrder_13 (by decide) rfl ?_
        refine ev_iconst (nI 0) dX12_findSymbolicOrder_15 rfl ?_
        refine ev_ist5 dX12_findSymbolicOrder_16 (by decide) rfl ?_
        exact inner n 0 (by omega)
  refine ev_start 4 (lv := [some (.ref 67), some (.int (nI m)), none, none, none, none]) rfl (by decide) (Nat.le_of_ble_eq_true rfl) ?_
  refine ev_iconst (-1) dX12_findSymbolicOrder_0 rfl ?_
  refine ev_ist2 dX12_findSymbolicOrder_1 (by decide) rfl ?_
  refine ev_iconst (nI 0) dX12_findSymbolicOrder_2 rfl ?_
  refine ev_ist3 dX12_findSymbolicOrder_3 (by decide) rfl ?_
  exact outer (cvL n N).length 0 _ (by omega) (Or.inl ⟨rfl, rfl⟩) _ _
/-- the reference's tables are right -/
def tM (h : MH) (n N : Nat) : Prop := h.1 67 5 = nI 0 ∧ cM h n N ∧ (∀ m, m < 4 ^ n → h.1 72 m = nI (ord n N m)) ∧ (∀ m, m < 4 ^ n → h.1 73 m = nI (so n N m))
def cacheM (h : MH) (n N : Nat) : Prop := h.1 67 5 = nI 1 ∨ tM h n N
/-- only tables have changed -/
def mq (h h' : MH) : Prop := mod (fun k => k ≠ 71 ∧ k ≠ 72 ∧ k ≠ 73) (fun j => j ≠ 5 ∧ j ≠ 7) h h'
theorem cl_update {n N : Nat} (g : gM h n N) (ok : gOK n N) (c : cacheM h n N) : Cl G (d + 2) M_X12_update [.ref 67] h (fun rv h' => rv = none ∧ mq h h' ∧ tM h' n N) := by
  have hn := ok.2.1
  have t2 := two_n hn
  have t3 := two_pos n
  have h4 := four_n hn
  have l35 := cvL_len ok
  rcases c with c | c
  · have tabs : ∀ (k m : Nat) (h1 : MH), m + k = 4 ^ n → mq h h1 → h1.1 67 5 = nI 0 → cM h1 n N → (∀ j, j < m → h1.1 72 j = nI (ord n N j)) → (∀ j, j < m → h1.1 73 j = nI (so n N j)) → Ev G (d + 2) M_X12_update 64 [some (.ref 67), some (.int (nI m))] [] h1 (fun rv h' => rv = none ∧ mq h h' ∧ tM h' n N) := by
      intro k
      induction k with
      | zero =>
        intro m h1 hm hq e5 cm e1 e2
        have g1 : gM h1 n N := ⟨by rw [hq.2 0 (by decide)]; exact g.1, fun v hv => by rw [(hq.1 68 (by decide) (by decide)).1]; exact g.2 v hv⟩
        refine ev_iload_n dX12_update_64 rfl ?_
        refine ev_aload_n dX12_update_65 rfl ?_
        refine ev_callV (cl_codeCount g1 hn) ok_X12_codeCount ml_X12_125 rfl rfl rfl rfl (Nat.le_of_ble_eq_true rfl) dX12_update_66 (kI ?_)
        refine ev_icmp_geN 100 dX12_update_69 (by decide) (by omega) (by omega) (fun c69 => ?_) (fun c69 => ?_)
        · refine ev_ret dX12_update_100 rfl ?_
          exact ⟨rfl, hq, e5, cm, fun j hj => e1 j (by omega), fun j hj => e2 j (by omega)⟩
        · omega
      | succ k ih =>
        intro m h1 hm hq e5 cm e1 e2
        have g1 : gM h1 n N := ⟨by rw [hq.2 0 (by decide)]; exact g.1, fun v hv => by rw [(hq.1 68 (by decide) (by decide)).1]; exact g.2 v hv⟩
        have g2 : gM (m_put h1 72 m (nI (ord n N m))) n N := ⟨by rw [mp_k (by decide)]; exact g1.1, fun v hv => by rw [mp_k (by decide)]; exact g1.2 v hv⟩
        have cm2 : cM (m_put h1 72 m (nI (ord n N m))) n N := ⟨by rw [mp_k (by decide)]; exact cm.1, by rw [mp_k (by decide)]; exact cm.2⟩
        refine ev_iload_n dX12_update_64 rfl ?_
        refine ev_aload_n dX12_update_65 rfl ?_
        refine ev_callV (cl_codeCount g1 hn) ok_X12_codeCount ml_X12_125 rfl rfl rfl rfl (Nat.le_of_ble_eq_true rfl) dX12_update_66 (kI ?_)
        refine ev_icmp_geN 100 dX12_update_69 (by decide) (by omega) (by omega) (fun c69 => ?_) (fun c69 => ?_)
        · omega
        · refine ev_aload_n dX12_update_72 rfl ?_
          refine ev_getR fl_X12_32 rfl rfl dX12_update_73 ?_
          refine ev_iload_n dX12_update_76 rfl ?_
          refine ev_aload_n dX12_update_77 rfl ?_
          refine ev_iload_n dX12_update_78 rfl ?_
          refine ev_callV (cl_findPowerOrder g1 ok (by omega) e1) ok_X12_findPowerOrder ml_X12_138 rfl rfl rfl rfl (Nat.le_of_ble_eq_true rfl) dX12_update_79 (kI ?_)
          refine ev_iastN rfl dX12_update_82 (by omega) (by omega) ?_
          refine ev_aload_n dX12_update_83 rfl ?_
          refine ev_getR fl_X12_35 rfl rfl dX12_update_84 ?_
          refine ev_iload_n dX12_update_87 rfl ?_
          refine ev_aload_n dX12_update_88 rfl ?_
          refine ev_iload_n dX12_update_89 rfl ?_
          refine ev_callV (cl_findSymbolicOrder g2 ok cm2 (by omega)) ok_X12_findSymbolicOrder ml_X12_141 rfl rfl rfl rfl (Nat.le_of_ble_eq_true rfl) dX12_update_90 (kI ?_)
          refine ev_iastN rfl dX12_update_93 (by omega) (by omega) ?_
          refine ev_inc1N dX12_update_94 (by decide) rfl ?_
          refine ev_goto 64 dX12_update_97 (by decide) ?_
          refine ih (m + 1) _ (by omega) ((hq.tr (mod_p (by simp) (by decide))).tr (mod_p (by simp) (by decide))) ?_ ⟨?_, ?_⟩ (fun j hj => ?_) (fun j hj => ?_)
          · rw [mp_k (by decide), mp_k (by decide)]; exact e5
          · rw [mp_k (by decide), mp_k (by decide)]; exact cm.1
          · rw [mp_k (by decide), mp_k (by decide)]; exact cm.2
          · rw [mp_k (by decide)]
            by_cases e : j = m
            · subst e; rw [mp_eq]
            · rw [mp_j e]; exact e1 j (by omega)
          · by_cases e : j = m
            · subst e; rw [mp_eq]
            · rw [mp_j e, mp_k (by decide)]; exact e2 j (by omega)
    have cov : ∀ (k s : Nat) (L : List Nat) (h1 : MH), s + k = 2 ^ n → mq h h1 → h1.1 67 5 = nI 0 → h1.1 67 7 = nI L.length → hold (h1.1 71) L → L ++ selA (MinC n N) k s = cvL n N → Ev G (d + 2) M_X12_update 20 [some (.ref 67), some (.int (nI s))] [] h1 (fun rv h' => rv = none ∧ mq h h' ∧ tM h' n N) := by
      intro k
      induction k with
      | zero =>
        intro s L h1 hs hq e5 e7 eL hL
        have g1 : gM h1 n N := ⟨by rw [hq.2 0 (by decide)]; exact g.1, fun v hv => by rw [(hq.1 68 (by decide) (by decide)).1]; exact g.2 v hv⟩
        have hL' : L = cvL n N := by rw [← hL]; simp [selA]
        subst hL'
        refine ev_iload_n dX12_update_20 rfl ?_
        refine ev_aload_n dX12_update_21 rfl ?_
        refine ev_callV (cl_allVerticesM g1 hn) ok_X12_allVertices ml_X12_116 rfl rfl rfl rfl (Nat.le_of_ble_eq_true rfl) dX12_update_22 (kI ?_)
        refine ev_icmp_gtN 62 dX12_update_25 (by decide) (by omega) (by omega) (fun c25 => ?_) (fun c25 => ?_)
        · refine ev_iconst (nI 0) dX12_update_62 rfl ?_
          refine ev_ist1 dX12_update_63 (by decide) rfl ?_
          exact tabs (4 ^ n) 0 h1 (by omega) hq e5 ⟨e7, eL⟩ (fun j hj => absurd hj (by omega)) (fun j hj => absurd hj (by omega))
        · omega
      | succ k ih =>
        intro s L h1 hs hq e5 e7 eL hL
        have g1 : gM h1 n N := ⟨by rw [hq.2 0 (by decide)]; exact g.1, fun v hv => by rw [(hq.1 68 (by decide) (by decide)).1]; exact g.2 v hv⟩
        have q1 := b01_lt (MinC n N s)
        refine ev_iload_n dX12_update_20 rfl ?_
        refine ev_aload_n dX12_update_21 rfl ?_
        refine ev_callV (cl_allVerticesM g1 hn) ok_X12_allVertices ml_X12_116 rfl rfl rfl rfl (Nat.le_of_ble_eq_true rfl) dX12_update_22 (kI ?_)
        refine ev_icmp_gtN 62 dX12_update_25 (by decide) (by omega) (by omega) (fun c25 => ?_) (fun c25 => ?_)
        · omega
        · refine ev_aload_n dX12_update_28 rfl ?_
          refine ev_iload_n dX12_update_29 rfl ?_
          refine ev_callV (cl_isMinimalCoverM g1 ok (by omega)) ok_X12_isMinimalCover ml_X12_135 rfl rfl rfl rfl (Nat.le_of_ble_eq_true rfl) dX12_update_30 (kI ?_)
          refine ev_if_eqN 56 dX12_update_33 (by decide) (by omega) (fun c33 => ?_) (fun c33 => ?_)
          · refine ev_inc1N dX12_update_56 (by decide) rfl ?_
            refine ev_goto 20 dX12_update_59 (by decide) ?_
            rw [selA_f (b01_0.mp c33)] at hL
            exact ih (s + 1) L h1 (by omega) hq e5 e7 eL hL
          · have hp : MinC n N s := b01_1.mp (by omega)
            rw [selA_t hp] at hL
            have hlt : L.length < 35 := by
              have := congrArg List.length hL
              simp at this; omega
            refine ev_aload_n dX12_update_36 rfl ?_
            refine ev_getR fl_X12_29 rfl rfl dX12_update_37 ?_
            refine ev_aload_n dX12_update_40 rfl ?_
            refine ev_getIv (e7) fl_X12_132 rfl rfl dX12_update_41 ?_
            refine ev_iload_n dX12_update_44 rfl ?_
            refine ev_iastN rfl dX12_update_45 (by omega) (by omega) ?_
            refine ev_aload_n dX12_update_46 rfl ?_
            refine ev_dup dX12_update_47 rfl ?_
            refine ev_getIv ((show _ = nI L.length by rw [mp_k (by decide)]; exact e7)) fl_X12_132 rfl rfl dX12_update_48 ?_
            refine ev_iconst (nI 1) dX12_update_51 rfl ?_
            refine ev_iaddN dX12_update_52 ?_
            refine ev_putI fp_X12_132 rfl rfl rfl rfl dX12_update_53 ?_
            refine ev_inc1N dX12_update_56 (by decide) rfl ?_
            refine ev_goto 20 dX12_update_59 (by decide) ?_
            refine ih (s + 1) (L ++ [s]) _ (by omega) ((hq.tr (mod_p (by simp) (by decide))).tr (mod_f (by simp))) ?_ ?_ ?_ (by rw [List.append_assoc]; exact hL)
            · rw [mp_j (by decide), mp_k (by decide)]; exact e5
            · rw [mp_eq]; simp
            · rw [mp_k (by decide)]
              have : (m_put h1 71 L.length (nI s)).1 71 = upd (h1.1 71) L.length (nI s) := ma_eq _ _ _
              rw [this]; exact hold_snoc eL
    refine ev_start 1 (lv := [some (.ref 67), none]) rfl (by decide) (Nat.le_of_ble_eq_true rfl) ?_
    refine ev_aload_n dX12_update_0 rfl ?_
    refine ev_getIv (c) fl_X12_25 rfl rfl dX12_update_1 ?_
    refine ev_if_neN 8 dX12_update_4 (by decide) (by omega) (fun c4 => ?_) (fun c4 => ?_)
    · refine ev_aload_n dX12_update_8 rfl ?_
      refine ev_iconst (nI 0) dX12_update_9 rfl ?_
      refine ev_putI fp_X12_25 rfl rfl rfl rfl dX12_update_10 ?_
      refine ev_aload_n dX12_update_13 rfl ?_
      refine ev_iconst (nI 0) dX12_update_14 rfl ?_
      refine ev_putI fp_X12_132 rfl rfl rfl rfl dX12_update_15 ?_
      refine ev_iconst (nI 0) dX12_update_18 rfl ?_
      refine ev_ist1 dX12_update_19 (by decide) rfl ?_
      refine cov (2 ^ n) 0 [] _ (by omega) ((mod_f (by simp)).tr (mod_f (by simp))) ?_ ?_ (hold_nil _) rfl
      · rw [mp_j (by decide), mp_eq]
      · rw [mp_eq]; rfl
    · exact absurd c4 (by decide)
  · skip
    refine ev_start 1 (lv := [some (.ref 67), none]) rfl (by decide) (Nat.le_of_ble_eq_true rfl) ?_
    refine ev_aload_n dX12_update_0 rfl ?_
    refine ev_getIv (c.1) fl_X12_25 rfl rfl dX12_update_1 ?_
    refine ev_if_neN 8 dX12_update_4 (by decide) (by omega) (fun c4 => ?_) (fun c4 => ?_)
    · exact absurd rfl c4
    · refine ev_ret dX12_update_7 rfl ?_
      exact ⟨rfl, mod.rf, c⟩
end MODEL
