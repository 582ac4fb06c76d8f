section Q1
variable {G : MG} {d : Nat} {h : MH}
/-- the answer of a query with a bound argument -/
noncomputable def aIn (x : Int32) (s : Nat) (f : Nat → Int32) : Int32 := @ite _ (inR x s) (Classical.propDecidable _) (f x.toNatClampNeg) (-1)
theorem aIn_t {s j : Nat} {f : Nat → Int32} (hj : j < s) (hs : s < 2 ^ 31) : aIn (nI j) s f = f j := by
  unfold aIn; rw [if_pos ⟨j, hj, rfl⟩, nI_clamp (by omega)]
theorem aIn_f {s : Nat} {x : Int32} {f : Nat → Int32} (hx : ¬ inR x s) : aIn x s f = -1 := by
  unfold aIn; exact if_neg hx
/-- an item of a list or an error -/
def itL (L : List Nat) (x : Int32) : Int32 := itemE (fun i => nI (L.getD i 0)) L.length x
theorem itL_hold {f : Nat → Int32} {L : List Nat} (hl : L.length < 2 ^ 31) (hf : hold f L) (x : Int32) : itemE f L.length x = itL L x := by
  unfold itL
  by_cases h0 : x < 0
  · rw [itemE_neg h0, itemE_neg h0]
  · by_cases h1 : x < nI L.length
    · obtain ⟨j, hj, rfl⟩ := inR_of hl h0 (Int32.not_le.mpr h1)
      rw [itemE_in hj hl, itemE_in hj hl, hf j hj]
    · rw [itemE_out h0 h1, itemE_out h0 h1]
theorem cl_vertexCountC {n N : Nat} (g : gC h n N) : Cl G d M_X11_vertexCount [.ref 0] h (qI (nI n) h) := by
  refine ev_start 0 (lv := [some (.ref 0)]) rfl (by decide) (Nat.le_of_ble_eq_true rfl) ?_
  refine ev_aload_n dX11_vertexCount_0 rfl ?_
  refine ev_getR fl_X11_14 rfl rfl dX11_vertexCount_1 ?_
  refine ev_getIv (g.1) fl_X11_78 rfl rfl dX11_vertexCount_4 ?_
  refine ev_iret dX11_vertexCount_7 rfl ?_
  exact ⟨by with_reducible rfl, rfl⟩
theorem cl_vertexCountM {n N : Nat} (g : gM h n N) : Cl G d M_X12_vertexCount [.ref 67] h (qI (nI n) h) := by
  refine ev_start 0 (lv := [some (.ref 67)]) rfl (by decide) (Nat.le_of_ble_eq_true rfl) ?_
  refine ev_aload_n dX12_vertexCount_0 rfl ?_
  refine ev_getIv (g.1) fl_X12_9 rfl rfl dX12_vertexCount_1 ?_
  refine ev_iret dX12_vertexCount_4 rfl ?_
  exact ⟨by with_reducible rfl, rfl⟩
theorem cl_edgeCountC {n N : Nat} (g : gC h n N) (ok : gOK n N) : Cl G (d + 2) M_X11_edgeCount [.ref 0] h (qI (nI (pcs 49 N / 2)) h) := by
  refine ev_start 0 (lv := [some (.ref 0)]) rfl (by decide) (Nat.le_of_ble_eq_true rfl) ?_
  refine ev_aload_n dX11_edgeCount_0 rfl ?_
  refine ev_getR fl_X11_14 rfl rfl dX11_edgeCount_1 ?_
  refine ev_callV (cl_edgeTotal g ok.2.2.1) ok_X1_edgeTotal ml_X11_113 rfl rfl rfl rfl (Nat.le_of_ble_eq_true rfl) dX11_edgeCount_4 (kI ?_)
  refine ev_iret dX11_edgeCount_7 rfl ?_
  exact ⟨by with_reducible rfl, rfl⟩
theorem cl_neighborsC {n N : Nat} {x : Int32} (g : gC h n N) (ok : gOK n N) : Cl G (d + 1) M_X11_neighbors [.ref 0, .int x] h (qI (aIn x n (fun v => nI (nb N v))) h) := by
  have hn := ok.2.1
  have q0 := b01_lt (inR x n)
  by_cases hx : inR x n
  · obtain ⟨j, hj, rfl⟩ := hx
    have q1 := b01_t (show inR (nI j) n from ⟨j, hj, rfl⟩)
    rw [aIn_t hj (by omega)]
    refine ev_start 0 (lv := [some (.ref 0), some (.int (nI j))]) rfl (by decide) (Nat.le_of_ble_eq_true rfl) ?_
    refine ev_aload_n dX11_neighbors_0 rfl ?_
    refine ev_iload_n dX11_neighbors_1 rfl ?_
    refine ev_callV (cl_isVertexC g hn) ok_X11_isVertex ml_X11_89 rfl rfl rfl rfl (Nat.le_of_ble_eq_true rfl) dX11_neighbors_2 (kI ?_)
    refine ev_if_eqN 22 dX11_neighbors_5 (by decide) (by omega) (fun c5 => ?_) (fun c5 => ?_)
    · omega
    · refine ev_aload_n dX11_neighbors_8 rfl ?_
      refine ev_getR fl_X11_14 rfl rfl dX11_neighbors_9 ?_
      refine ev_getLv (g.2) fl_X11_93 rfl rfl dX11_neighbors_12 ?_
      refine ev_iload_n dX11_neighbors_15 rfl ?_
      refine ev_callS (cl_neighborsIn ok.2.2.1 (by omega)) ok_X1_neighborsIn ml_X11_105 rfl rfl (Nat.le_of_ble_eq_true rfl) dX11_neighbors_16 (kI ?_)
      refine ev_goto 23 dX11_neighbors_19 (by decide) ?_
      refine ev_iret dX11_neighbors_23 rfl ?_
      exact ⟨by with_reducible rfl, rfl⟩
  · have q1 := b01_f hx
    rw [aIn_f hx]
    refine ev_start 0 (lv := [some (.ref 0), some (.int x)]) rfl (by decide) (Nat.le_of_ble_eq_true rfl) ?_
    refine ev_aload_n dX11_neighbors_0 rfl ?_
    refine ev_iload_n dX11_neighbors_1 rfl ?_
    refine ev_callV (cl_isVertexC g hn) ok_X11_isVertex ml_X11_89 rfl rfl rfl rfl (Nat.le_of_ble_eq_true rfl) dX11_neighbors_2 (kI ?_)
    refine ev_if_eqN 22 dX11_neighbors_5 (by decide) (by omega) (fun c5 => ?_) (fun c5 => ?_)
    · refine ev_iconst (-1) dX11_neighbors_22 rfl ?_
      refine ev_iret dX11_neighbors_23 rfl ?_
      exact ⟨by with_reducible rfl, rfl⟩
    · omega
theorem cl_neighborsM {n N : Nat} {x : Int32} (g : gM h n N) (ok : gOK n N) : Cl G (d + 2) M_X12_neighbors [.ref 67, .int x] h (qI (aIn x n (fun v => nI (nb N v))) h) := by
  have hn := ok.2.1
  have q0 := b01_lt (inR x n)
  by_cases hx : inR x n
  · obtain ⟨j, hj, rfl⟩ := hx
    have q1 := b01_t (show inR (nI j) n from ⟨j, hj, rfl⟩)
    rw [aIn_t hj (by omega)]
    refine ev_start 0 (lv := [some (.ref 67), some (.int (nI j))]) rfl (by decide) (Nat.le_of_ble_eq_true rfl) ?_
    refine ev_aload_n dX12_neighbors_0 rfl ?_
    refine ev_iload_n dX12_neighbors_1 rfl ?_
    refine ev_callV (cl_isVertexM g ok.1 hn) ok_X12_isVertex ml_X12_88 rfl rfl rfl rfl (Nat.le_of_ble_eq_true rfl) dX12_neighbors_2 (kI ?_)
    refine ev_if_eqN 17 dX12_neighbors_5 (by decide) (by omega) (fun c5 => ?_) (fun c5 => ?_)
    · omega
    · refine ev_aload_n dX12_neighbors_8 rfl ?_
      refine ev_getR fl_X12_15 rfl rfl dX12_neighbors_9 ?_
      refine ev_iload_n dX12_neighbors_12 rfl ?_
      refine ev_ialdv (g.2 j (by omega)) rfl dX12_neighbors_13 (by omega) (by omega) ?_
      refine ev_goto 18 dX12_neighbors_14 (by decide) ?_
      refine ev_iret dX12_neighbors_18 rfl ?_
      exact ⟨by with_reducible rfl, rfl⟩
  · have q1 := b01_f hx
    rw [aIn_f hx]
    refine ev_start 0 (lv := [some (.ref 67), some (.int x)]) rfl (by decide) (Nat.le_of_ble_eq_true rfl) ?_
    refine ev_aload_n dX12_neighbors_0 rfl ?_
    refine ev_iload_n dX12_neighbors_1 rfl ?_
    refine ev_callV (cl_isVertexM g ok.1 hn) ok_X12_isVertex ml_X12_88 rfl rfl rfl rfl (Nat.le_of_ble_eq_true rfl) dX12_neighbors_2 (kI ?_)
    refine ev_if_eqN 17 dX12_neighbors_5 (by decide) (by omega) (fun c5 => ?_) (fun c5 => ?_)
    · refine ev_iconst (-1) dX12_neighbors_17 rfl ?_
      refine ev_iret dX12_neighbors_18 rfl ?_
      exact ⟨by with_reducible rfl, rfl⟩
    · omega
theorem cl_componentCountC {n N : Nat} (g : gC h n N) (ok : gOK n N) : Cl G (d + 3) M_X11_componentCount [.ref 0] h (qI (nI (cst n N n).1) h) := by
  refine ev_start 0 (lv := [some (.ref 0)]) rfl (by decide) (Nat.le_of_ble_eq_true rfl) ?_
  refine ev_aload_n dX11_componentCount_0 rfl ?_
  refine ev_getR fl_X11_14 rfl rfl dX11_componentCount_1 ?_
  refine ev_callV (cl_componentTotal g ok) ok_X1_componentTotal ml_X11_128 rfl rfl rfl rfl (Nat.le_of_ble_eq_true rfl) dX11_componentCount_4 (kI ?_)
  refine ev_iret dX11_componentCount_7 rfl ?_
  exact ⟨by with_reducible rfl, rfl⟩
theorem cl_hasOddCycleC {n N : Nat} (g : gC h n N) (ok : gOK n N) : Cl G (d + 3) M_X11_hasOddCycle [.ref 0] h (qI (nI (b01 (¬ Bip n N))) h) := by
  have q0 := b01_lt (Bip n N)
  refine ev_start 0 (lv := [some (.ref 0)]) rfl (by decide) (Nat.le_of_ble_eq_true rfl) ?_
  refine ev_aload_n dX11_hasOddCycle_0 rfl ?_
  refine ev_getR fl_X11_14 rfl rfl dX11_hasOddCycle_1 ?_
  refine ev_callV (cl_isBipartite g ok) ok_X1_isBipartite ml_X11_131 rfl rfl rfl rfl (Nat.le_of_ble_eq_true rfl) dX11_hasOddCycle_4 (kI ?_)
  refine ev_if_eqN 14 dX11_hasOddCycle_7 (by decide) (by omega) (fun c7 => ?_) (fun c7 => ?_)
  · refine ev_iconst (nI 1) dX11_hasOddCycle_14 rfl ?_
    refine ev_iret dX11_hasOddCycle_15 rfl ?_
    exact ⟨by rw [b01_t (show ¬ Bip n N from b01_0.mp c7)], rfl⟩
  · refine ev_iconst (nI 0) dX11_hasOddCycle_10 rfl ?_
    refine ev_goto 15 dX11_hasOddCycle_11 (by decide) ?_
    refine ev_iret dX11_hasOddCycle_15 rfl ?_
    exact ⟨by rw [b01_f (show ¬ ¬ Bip n N from fun z => z (b01_1.mp (by omega)))], rfl⟩
theorem cl_coverCountC {n N : Nat} (g : gC h n N) (ok : gOK n N) (c : cI h n N) : Cl G (d + 3) M_X11_coverCount [.ref 0] h (fun rv h' => rv = some (.int (nI (cvL n N).length)) ∧ iq n N h h' ∧ cI h' n N) := by
  refine ev_start 0 (lv := [some (.ref 0)]) rfl (by decide) (Nat.le_of_ble_eq_true rfl) ?_
  refine ev_aload_n dX11_coverCount_0 rfl ?_
  refine ev_getR fl_X11_23 rfl rfl dX11_coverCount_1 ?_
  refine ev_callV (cl_mc g ok c) ok_X2_minimalCovers ml_X11_144 rfl rfl rfl rfl (Nat.le_of_ble_eq_true rfl) dX11_coverCount_4 ?_
  rintro rv h1 ⟨rfl, sm, sj, c1, kc⟩
  refine ev_getIv (kc.2.1) fl_X11_148 rfl rfl dX11_coverCount_7 ?_
  refine ev_iret dX11_coverCount_10 rfl ?_
  exact ⟨rfl, iq_of (sm.mono (fun k hk => by omega)) (sj 2 (by decide)) (sm 5 (by decide)).1, c1⟩
theorem cl_coverC {n N : Nat} {x : Int32} (g : gC h n N) (ok : gOK n N) (c : cI h n N) : Cl G (d + 3) M_X11_cover [.ref 0, .int x] h (fun rv h' => rv = some (.int (itL (cvL n N) x)) ∧ iq n N h h' ∧ cI h' n N) := by
  have l35 := cvL_len ok
  refine ev_start 0 (lv := [some (.ref 0), some (.int x)]) rfl (by decide) (Nat.le_of_ble_eq_true rfl) ?_
  refine ev_aload_n dX11_cover_0 rfl ?_
  refine ev_getR fl_X11_23 rfl rfl dX11_cover_1 ?_
  refine ev_callV (cl_mc g ok c) ok_X2_minimalCovers ml_X11_144 rfl rfl rfl rfl (Nat.le_of_ble_eq_true rfl) dX11_cover_4 ?_
  rintro rv h1 ⟨rfl, sm, sj, c1, kc⟩
  refine ev_iload_n dX11_cover_7 rfl ?_
  refine ev_callS (cl_itemOrError row_6 kc.2.1 l35) ok_X11_itemOrError ml_X11_151 rfl rfl (Nat.le_of_ble_eq_true rfl) dX11_cover_8 (kI ?_)
  rw [itL_hold (by omega) kc.2.2.1]
  refine ev_iret dX11_cover_11 rfl ?_
  exact ⟨rfl, iq_of (sm.mono (fun k hk => by omega)) (sj 2 (by decide)) (sm 5 (by decide)).1, c1⟩
theorem cl_heightC {n N : Nat} (g : gC h n N) (ok : gOK n N) (c : cI h n N) : Cl G (d + 4) M_X11_height [.ref 0] h (fun rv h' => rv = some (.int (nI (mnf pop (cvL n N) 7))) ∧ iq n N h h' ∧ cI h' n N) := by
  refine ev_start 0 (lv := [some (.ref 0)]) rfl (by decide) (Nat.le_of_ble_eq_true rfl) ?_
  refine ev_aload_n dX11_height_0 rfl ?_
  refine ev_getR fl_X11_23 rfl rfl dX11_height_1 ?_
  refine ev_callV (cl_smallestCoverSize g ok c) ok_X2_smallestCoverSize ml_X11_155 rfl rfl rfl rfl (Nat.le_of_ble_eq_true rfl) dX11_height_4 ?_
  rintro rv h1 ⟨rfl, i1, c1⟩
  refine ev_iret dX11_height_7 rfl ?_
  exact ⟨rfl, i1, c1⟩
theorem cl_bigHeightC {n N : Nat} (g : gC h n N) (ok : gOK n N) (c : cI h n N) : Cl G (d + 4) M_X11_bigHeight [.ref 0] h (fun rv h' => rv = some (.int (nI (mxf pop (cvL n N) 0))) ∧ iq n N h h' ∧ cI h' n N) := by
  refine ev_start 0 (lv := [some (.ref 0)]) rfl (by decide) (Nat.le_of_ble_eq_true rfl) ?_
  refine ev_aload_n dX11_bigHeight_0 rfl ?_
  refine ev_getR fl_X11_23 rfl rfl dX11_bigHeight_1 ?_
  refine ev_callV (cl_largestCoverSize g ok c) ok_X2_largestCoverSize ml_X11_158 rfl rfl rfl rfl (Nat.le_of_ble_eq_true rfl) dX11_bigHeight_4 ?_
  rintro rv h1 ⟨rfl, i1, c1⟩
  refine ev_iret dX11_bigHeight_7 rfl ?_
  exact ⟨rfl, i1, c1⟩
theorem cl_coverCountM {n N : Nat} (g : gM h n N) (ok : gOK n N) (c : cacheM h n N) : Cl G (d + 3) M_X12_coverCount [.ref 67] h (fun rv h' => rv = some (.int (nI (cvL n N).length)) ∧ ms h h' ∧ cacheM h' n N) := by
  refine ev_start 0 (lv := [some (.ref 67)]) rfl (by decide) (Nat.le_of_ble_eq_true rfl) ?_
  refine ev_aload_n dX12_coverCount_0 rfl ?_
  refine ev_callV (cl_update g ok c) ok_X12_update ml_X12_144 rfl rfl rfl rfl (Nat.le_of_ble_eq_true rfl) dX12_coverCount_1 ?_
  rintro rv h1 ⟨rfl, m1, t1⟩
  refine ev_aload_n dX12_coverCount_4 rfl ?_
  refine ev_getIv (t1.2.1.1) fl_X12_132 rfl rfl dX12_coverCount_5 ?_
  refine ev_iret dX12_coverCount_8 rfl ?_
  exact ⟨rfl, ms_mq m1, Or.inr t1⟩
theorem cl_coverM {n N : Nat} {x : Int32} (g : gM h n N) (ok : gOK n N) (c : cacheM h n N) : Cl G (d + 3) M_X12_cover [.ref 67, .int x] h (fun rv h' => rv = some (.int (itL (cvL n N) x)) ∧ ms h h' ∧ cacheM h' n N) := by
  have l35 := cvL_len ok
  by_cases hx : inR x (cvL n N).length
  · obtain ⟨j, hj, rfl⟩ := hx
    rw [show itL (cvL n N) (nI j) = nI ((cvL n N).getD j 0) from itemE_in hj (by omega)]
    refine ev_start 0 (lv := [some (.ref 67), some (.int (nI j))]) rfl (by decide) (Nat.le_of_ble_eq_true rfl) ?_
    refine ev_aload_n dX12_cover_0 rfl ?_
    refine ev_callV (cl_update g ok c) ok_X12_update ml_X12_144 rfl rfl rfl rfl (Nat.le_of_ble_eq_true rfl) dX12_cover_1 ?_
    rintro rv h1 ⟨rfl, m1, t1⟩
    refine ev_iload_n dX12_cover_4 rfl ?_
    refine ev_if_geN 12 dX12_cover_5 (by decide) (by omega) (fun c5 => ?_) (fun c5 => ?_)
    · refine ev_iload_n dX12_cover_12 rfl ?_
      refine ev_aload_n dX12_cover_13 rfl ?_
      refine ev_getIv (t1.2.1.1) fl_X12_132 rfl rfl dX12_cover_14 ?_
      refine ev_icmp_geN 29 dX12_cover_17 (by decide) (by omega) (by omega) (fun c17 => ?_) (fun c17 => ?_)
      · omega
      · refine ev_aload_n dX12_cover_20 rfl ?_
        refine ev_getR fl_X12_29 rfl rfl dX12_cover_21 ?_
        refine ev_iload_n dX12_cover_24 rfl ?_
        refine ev_ialdv (t1.2.1.2 j hj) rfl dX12_cover_25 (by omega) (by omega) ?_
        refine ev_goto 31 dX12_cover_26 (by decide) ?_
        refine ev_iret dX12_cover_31 rfl ?_
        exact ⟨rfl, ms_mq m1, Or.inr t1⟩
    · exact c5.elim
  · skip
    refine ev_start 0 (lv := [some (.ref 67), some (.int x)]) rfl (by decide) (Nat.le_of_ble_eq_true rfl) ?_
    refine ev_aload_n dX12_cover_0 rfl ?_
    refine ev_callV (cl_update g ok c) ok_X12_update ml_X12_144 rfl rfl rfl rfl (Nat.le_of_ble_eq_true rfl) dX12_cover_1 ?_
    rintro rv h1 ⟨rfl, m1, t1⟩
    refine ev_iload_n dX12_cover_4 rfl ?_
    refine ev_if_ge 12 dX12_cover_5 (by decide) (fun c5 => ?_) (fun c5 => ?_)
    · refine ev_iload_n dX12_cover_12 rfl ?_
      refine ev_aload_n dX12_cover_13 rfl ?_
      refine ev_getIv (t1.2.1.1) fl_X12_132 rfl rfl dX12_cover_14 ?_
      refine ev_icmp_ge 29 dX12_cover_17 (by decide) (fun c17 => ?_) (fun c17 => ?_)
      · refine ev_bipush (-2) dX12_cover_29 rfl ?_
        refine ev_iret dX12_cover_31 rfl ?_
        exact ⟨by rw [show itL (cvL n N) x = -2 from itemE_out (Int32.not_lt.mpr c5) (Int32.not_lt.mpr c17)], ms_mq m1, Or.inr t1⟩
      · exact absurd (inR_of (by omega) (Int32.not_lt.mpr c5) c17) hx
    · refine ev_iconst (-1) dX12_cover_8 rfl ?_
      refine ev_goto 31 dX12_cover_9 (by decide) ?_
      refine ev_iret dX12_cover_31 rfl ?_
      exact ⟨by rw [show itL (cvL n N) x = -1 from itemE_neg (Int32.not_le.mp c5)], ms_mq m1, Or.inr t1⟩
theorem cl_heightM {n N : Nat} (g : gM h n N) (ok : gOK n N) (c : cacheM h n N) : Cl G (d + 3) M_X12_height [.ref 67] h (fun rv h' => rv = some (.int (nI (mnf pop (cvL n N) 7))) ∧ ms h h' ∧ cacheM h' n N) := by
  have l35 := cvL_len ok
  have loop : ∀ (h1 : MH), cM h1 n N → ∀ (k i : Nat), i + k = (cvL n N).length → ∀ x3 : Option Value, Ev G (d + 3) M_X12_height 9 [some (.ref 67), some (.int (nI (mnf pop ((cvL n N).take i) 7))), some (.int (nI i)), x3] [] h1 (qI (nI (mnf pop (cvL n N) 7)) h1) := by
    rintro h1 ⟨k1, k2⟩ k
    induction k with
    | zero =>
      intro i hi x3
      rw [List.take_of_length_le (by omega)]
      refine ev_iload_n dX12_height_9 rfl ?_
      refine ev_aload_n dX12_height_10 rfl ?_
      refine ev_getIv (k1) fl_X12_132 rfl rfl dX12_height_11 ?_
      refine ev_icmp_geN 44 dX12_height_14 (by decide) (by omega) (by omega) (fun c14 => ?_) (fun c14 => ?_)
      · refine ev_iload_n dX12_height_44 rfl ?_
        refine ev_iret dX12_height_45 rfl ?_
        exact ⟨by with_reducible rfl, rfl⟩
      · omega
    | succ k ih =>
      intro i hi x3
      have hb : mnf pop ((cvL n N).take i) 7 ≤ 7 := ((mnf_le _ _ _ _).mp (Nat.le_refl _)).1
      have hv := k2 i (by omega)
      have hc := cvL_lt ok (getD_mem (L := cvL n N) (i := i) (by omega))
      have pl := pop_le _ hc
      have q := ih (i + 1) (by omega)
      rw [take_snoc (by omega), mnf_app] at q
      refine ev_iload_n dX12_height_9 rfl ?_
      refine ev_aload_n dX12_height_10 rfl ?_
      refine ev_getIv (k1) fl_X12_132 rfl rfl dX12_height_11 ?_
      refine ev_icmp_geN 44 dX12_height_14 (by decide) (by omega) (by omega) (fun c14 => ?_) (fun c14 => ?_)
      · omega
      · refine ev_aload_n dX12_height_17 rfl ?_
        refine ev_getR fl_X12_29 rfl rfl dX12_height_18 ?_
        refine ev_iload_n dX12_height_21 rfl ?_
        refine ev_ialdv (hv) rfl dX12_height_22 (by omega) (by omega) ?_
        refine ev_callS (cl_bcM (by omega)) ok_X12_bitCount ml_X12_109 rfl rfl (Nat.le_of_ble_eq_true rfl) dX12_height_23 (kI ?_)
        refine ev_ist3 dX12_height_26 (by decide) rfl ?_
        refine ev_iload_n dX12_height_27 rfl ?_
        refine ev_iload_n dX12_height_28 rfl ?_
        refine ev_icmp_geN 36 dX12_height_29 (by decide) (by omega) (by omega) (fun c29 => ?_) (fun c29 => ?_)
        · refine ev_iload_n dX12_height_36 rfl ?_
          refine ev_ist1 dX12_height_37 (by decide) rfl ?_
          refine ev_inc2N dX12_height_38 (by decide) rfl ?_
          refine ev_goto 9 dX12_height_41 (by decide) ?_
          rw [Nat.min_eq_left (by omega)] at q; exact q _
        · refine ev_iload_n dX12_height_32 rfl ?_
          refine ev_goto 37 dX12_height_33 (by decide) ?_
          refine ev_ist1 dX12_height_37 (by decide) rfl ?_
          refine ev_inc2N dX12_height_38 (by decide) rfl ?_
          refine ev_goto 9 dX12_height_41 (by decide) ?_
          rw [Nat.min_eq_right (by omega)] at q; exact q _
  refine ev_start 3 (lv := [some (.ref 67), none, none, none]) rfl (by decide) (Nat.le_of_ble_eq_true rfl) ?_
  refine ev_aload_n dX12_height_0 rfl ?_
  refine ev_callV (cl_update g ok c) ok_X12_update ml_X12_144 rfl rfl rfl rfl (Nat.le_of_ble_eq_true rfl) dX12_height_1 ?_
  rintro rv h1 ⟨rfl, m1, t1⟩
  refine ev_bipush (nI 7) dX12_height_4 rfl ?_
  refine ev_ist1 dX12_height_6 (by decide) rfl ?_
  refine ev_iconst (nI 0) dX12_height_7 rfl ?_
  refine ev_ist2 dX12_height_8 (by decide) rfl ?_
  refine ev_mono ?_ (loop h1 t1.2.1 (cvL n N).length 0 (by omega) none)
  rintro rv h2 ⟨rfl, rfl⟩
  exact ⟨rfl, ms_mq m1, Or.inr t1⟩
theorem cl_bigHeightM {n N : Nat} (g : gM h n N) (ok : gOK n N) (c : cacheM h n N) : Cl G (d + 3) M_X12_bigHeight [.ref 67] h (fun rv h' => rv = some (.int (nI (mxf pop (cvL n N) 0))) ∧ ms h h' ∧ cacheM h' n N) := by
  have l35 := cvL_len ok
  have loop : ∀ (h1 : MH), cM h1 n N → ∀ (k i : Nat), i + k = (cvL n N).length → ∀ x3 : Option Value, Ev G (d + 3) M_X12_bigHeight 8 [some (.ref 67), some (.int (nI (mxf pop ((cvL n N).take i) 0))), some (.int (nI i)), x3] [] h1 (qI (nI (mxf pop (cvL n N) 0)) h1) := by
    rintro h1 ⟨k1, k2⟩ k
    induction k with
    | zero =>
      intro i hi x3
      rw [List.take_of_length_le (by omega)]
      refine ev_iload_n dX12_bigHeight_8 rfl ?_
      refine ev_aload_n dX12_bigHeight_9 rfl ?_
      refine ev_getIv (k1) fl_X12_132 rfl rfl dX12_bigHeight_10 ?_
      refine ev_icmp_geN 43 dX12_bigHeight_13 (by decide) (by omega) (by omega) (fun c13 => ?_) (fun c13 => ?_)
      · refine ev_iload_n dX12_bigHeight_43 rfl ?_
        refine ev_iret dX12_bigHeight_44 rfl ?_
        exact ⟨by with_reducible rfl, rfl⟩
      · omega
    | succ k ih =>
      intro i hi x3
      have hb : mxf pop ((cvL n N).take i) 0 ≤ 7 := mxf_le _ _ (by omega) (fun x hx => pop_le x (cvL_lt ok (List.mem_of_mem_take hx)))
      have hv := k2 i (by omega)
      have hc := cvL_lt ok (getD_mem (L := cvL n N) (i := i) (by omega))
      have pl := pop_le _ hc
      have q := ih (i + 1) (by omega)
      rw [take_snoc (by omega), mxf_app] at q
      refine ev_iload_n dX12_bigHeight_8 rfl ?_
      refine ev_aload_n dX12_bigHeight_9 rfl ?_
      refine ev_getIv (k1) fl_X12_132 rfl rfl dX12_bigHeight_10 ?_
      refine ev_icmp_geN 43 dX12_bigHeight_13 (by decide) (by omega) (by omega) (fun c13 => ?_) (fun c13 => ?_)
      · omega
      · refine ev_aload_n dX12_bigHeight_16 rfl ?_
        refine ev_getR fl_X12_29 rfl rfl dX12_bigHeight_17 ?_
        refine ev_iload_n dX12_bigHeight_20 rfl ?_
        refine ev_ialdv (hv) rfl dX12_bigHeight_21 (by omega) (by omega) ?_
        refine ev_callS (cl_bcM (by omega)) ok_X12_bitCount ml_X12_109 rfl rfl (Nat.le_of_ble_eq_true rfl) dX12_bigHeight_22 (kI ?_)
        refine ev_ist3 dX12_bigHeight_25 (by decide) rfl ?_
        refine ev_iload_n dX12_bigHeight_26 rfl ?_
        refine ev_iload_n dX12_bigHeight_27 rfl ?_
        refine ev_icmp_leN 35 dX12_bigHeight_28 (by decide) (by omega) (by omega) (fun c28 => ?_) (fun c28 => ?_)
        · refine ev_iload_n dX12_bigHeight_35 rfl ?_
          refine ev_ist1 dX12_bigHeight_36 (by decide) rfl ?_
          refine ev_inc2N dX12_bigHeight_37 (by decide) rfl ?_
          refine ev_goto 8 dX12_bigHeight_40 (by decide) ?_
          rw [Nat.max_eq_left (by omega)] at q; exact q _
        · refine ev_iload_n dX12_bigHeight_31 rfl ?_
          refine ev_goto 36 dX12_bigHeight_32 (by decide) ?_
          refine ev_ist1 dX12_bigHeight_36 (by decide) rfl ?_
          refine ev_inc2N dX12_bigHeight_37 (by decide) rfl ?_
          refine ev_goto 8 dX12_bigHeight_40 (by decide) ?_
          rw [Nat.max_eq_right (by omega)] at q; exact q _
  refine ev_start 3 (lv := [some (.ref 67), none, none, none]) rfl (by decide) (Nat.le_of_ble_eq_true rfl) ?_
  refine ev_aload_n dX12_bigHeight_0 rfl ?_
  refine ev_callV (cl_update g ok c) ok_X12_update ml_X12_144 rfl rfl rfl rfl (Nat.le_of_ble_eq_true rfl) dX12_bigHeight_1 ?_
  rintro rv h1 ⟨rfl, m1, t1⟩
  refine ev_iconst (nI 0) dX12_bigHeight_4 rfl ?_
  refine ev_ist1 dX12_bigHeight_5 (by decide) rfl ?_
  refine ev_iconst (nI 0) dX12_bigHeight_6 rfl ?_
  refine ev_ist2 dX12_bigHeight_7 (by decide) rfl ?_
  refine ev_mono ?_ (loop h1 t1.2.1 (cvL n N).length 0 (by omega) none)
  rintro rv h2 ⟨rfl, rfl⟩
  exact ⟨rfl, ms_mq m1, Or.inr t1⟩
theorem cl_isFlag {x : Int32} : Cl G d M_X11_isFlag [.int x] h (qI (nI (b01 (inR x 2))) h) := by
  by_cases hx : inR x 2
  · obtain ⟨j, hj, rfl⟩ := hx
    rw [b01_t ⟨j, hj, rfl⟩]
    refine ev_start 0 (lv := [some (.int (nI j))]) rfl (by decide) (Nat.le_of_ble_eq_true rfl) ?_
    refine ev_iload_n dX11_isFlag_0 rfl ?_
    refine ev_if_eqN 9 dX11_isFlag_1 (by decide) (by omega) (fun c1 => ?_) (fun c1 => ?_)
    · refine ev_iconst (nI 1) dX11_isFlag_9 rfl ?_
      refine ev_goto 14 dX11_isFlag_10 (by decide) ?_
      refine ev_zret dX11_isFlag_14 rfl rfl ?_
      exact ⟨by with_reducible rfl, rfl⟩
    · refine ev_iload_n dX11_isFlag_4 rfl ?_
      refine ev_iconst (nI 1) dX11_isFlag_5 rfl ?_
      refine ev_icmp_neN 13 dX11_isFlag_6 (by decide) (by omega) (by omega) (fun c6 => ?_) (fun c6 => ?_)
      · omega
      · refine ev_iconst (nI 1) dX11_isFlag_9 rfl ?_
        refine ev_goto 14 dX11_isFlag_10 (by decide) ?_
        refine ev_zret dX11_isFlag_14 rfl rfl ?_
        exact ⟨by with_reducible rfl, rfl⟩
  · rw [b01_f hx]
    refine ev_start 0 (lv := [some (.int x)]) rfl (by decide) (Nat.le_of_ble_eq_true rfl) ?_
    refine ev_iload_n dX11_isFlag_0 rfl ?_
    refine ev_if_eq 9 dX11_isFlag_1 (by decide) (fun c1 => ?_) (fun c1 => ?_)
    · exact absurd ⟨0, by decide, c1⟩ hx
    · refine ev_iload_n dX11_isFlag_4 rfl ?_
      refine ev_iconst (nI 1) dX11_isFlag_5 rfl ?_
      refine ev_icmp_ne 13 dX11_isFlag_6 (by decide) (fun c6 => ?_) (fun c6 => ?_)
      · refine ev_iconst (nI 0) dX11_isFlag_13 rfl ?_
        refine ev_zret dX11_isFlag_14 rfl rfl ?_
        exact ⟨by with_reducible rfl, rfl⟩
      · exact absurd ⟨1, by decide, c6⟩ hx
theorem cl_degreeC {n N : Nat} {x : Int32} (g : gC h n N) (ok : gOK n N) : Cl G (d + 2) M_X11_degree [.ref 0, .int x] h (qI (aIn x (4 ^ n) (fun m => nI (deg m))) h) := by
  have hn := ok.2.1
  have h4 := four_n hn
  by_cases hx : inR x (4 ^ n)
  · obtain ⟨j, hj, rfl⟩ := hx
    have q1 := b01_t (show inR (nI j) (4 ^ n) from ⟨j, hj, rfl⟩)
    rw [aIn_t hj (by omega)]
    refine ev_start 0 (lv := [some (.ref 0), some (.int (nI j))]) rfl (by decide) (Nat.le_of_ble_eq_true rfl) ?_
    refine ev_aload_n dX11_degree_0 rfl ?_
    refine ev_iload_n dX11_degree_1 rfl ?_
    refine ev_callV (cl_isCodeC g hn) ok_X11_isCode ml_X11_168 rfl rfl rfl rfl (Nat.le_of_ble_eq_true rfl) dX11_degree_2 (kI ?_)
    refine ev_if_eqN 15 dX11_degree_5 (by decide) (by omega) (fun c5 => ?_) (fun c5 => ?_)
    · omega
    · refine ev_iload_n dX11_degree_8 rfl ?_
      refine ev_callS (cl_degreeOf (by omega)) ok_X6_degreeOf ml_X11_171 rfl rfl (Nat.le_of_ble_eq_true rfl) dX11_degree_9 (kI ?_)
      refine ev_goto 16 dX11_degree_12 (by decide) ?_
      refine ev_iret dX11_degree_16 rfl ?_
      exact ⟨by with_reducible rfl, rfl⟩
  · have q1 := b01_f hx
    rw [aIn_f hx]
    refine ev_start 0 (lv := [some (.ref 0), some (.int x)]) rfl (by decide) (Nat.le_of_ble_eq_true rfl) ?_
    refine ev_aload_n dX11_degree_0 rfl ?_
    refine ev_iload_n dX11_degree_1 rfl ?_
    refine ev_callV (cl_isCodeC g hn) ok_X11_isCode ml_X11_168 rfl rfl rfl rfl (Nat.le_of_ble_eq_true rfl) dX11_degree_2 (kI ?_)
    refine ev_if_eqN 15 dX11_degree_5 (by decide) (by omega) (fun c5 => ?_) (fun c5 => ?_)
    · refine ev_iconst (-1) dX11_degree_15 rfl ?_
      refine ev_iret dX11_degree_16 rfl ?_
      exact ⟨by with_reducible rfl, rfl⟩
    · omega
theorem cl_degreeOfM {m : Nat} (hm : m < 16384) : Cl G (d + 1) M_X12_degreeOf [.int (nI m)] h (qI (nI (deg m)) h) := by
  have loop : ∀ (k v : Nat), v + k = 7 → Ev G (d + 1) M_X12_degreeOf 4 [some (.int (nI m)), some (.int (nI (sumTo v (ex m)))), some (.int (nI v))] [] h (qI (nI (deg m)) h) := by
    intro k
    induction k with
    | zero =>
      intro v hv
      obtain rfl : v = 7 := by omega
      have e : sumTo 7 (ex m) = deg m := by simp only [sumTo, deg]; omega
      rw [e]
      refine ev_iload_n dX12_degreeOf_4 rfl ?_
      refine ev_bipush (nI 7) dX12_degreeOf_5 rfl ?_
      refine ev_icmp_geN 24 dX12_degreeOf_7 (by decide) (by omega) (by omega) (fun c7 => ?_) (fun c7 => ?_)
      · refine ev_iload_n dX12_degreeOf_24 rfl ?_
        refine ev_iret dX12_degreeOf_25 rfl ?_
        exact ⟨by with_reducible rfl, rfl⟩
      · omega
    | succ k ih =>
      intro v hv
      refine ev_iload_n dX12_degreeOf_4 rfl ?_
      refine ev_bipush (nI 7) dX12_degreeOf_5 rfl ?_
      refine ev_icmp_geN 24 dX12_degreeOf_7 (by decide) (by omega) (by omega) (fun c7 => ?_) (fun c7 => ?_)
      · omega
      · refine ev_iload_n dX12_degreeOf_10 rfl ?_
        refine ev_iload_n dX12_degreeOf_11 rfl ?_
        refine ev_iload_n dX12_degreeOf_12 rfl ?_
        refine ev_callS (cl_exponentOfM (by omega) (by omega)) ok_X12_exponentOf ml_X12_128 rfl rfl (Nat.le_of_ble_eq_true rfl) dX12_degreeOf_13 (kI ?_)
        refine ev_iaddN dX12_degreeOf_16 ?_
        refine ev_ist1 dX12_degreeOf_17 (by decide) rfl ?_
        refine ev_inc2N dX12_degreeOf_18 (by decide) rfl ?_
        refine ev_goto 4 dX12_degreeOf_21 (by decide) ?_
        exact ih (v + 1) (by omega)
  refine ev_start 2 (lv := [some (.int (nI m)), none, none]) rfl (by decide) (Nat.le_of_ble_eq_true rfl) ?_
  refine ev_iconst (nI 0) dX12_degreeOf_0 rfl ?_
  refine ev_ist1 dX12_degreeOf_1 (by decide) rfl ?_
  refine ev_iconst (nI 0) dX12_degreeOf_2 rfl ?_
  refine ev_ist2 dX12_degreeOf_3 (by decide) rfl ?_
  exact loop 7 0 (by omega)
theorem cl_degreeM {n N : Nat} {x : Int32} (g : gM h n N) (ok : gOK n N) : Cl G (d + 2) M_X12_degree [.ref 67, .int x] h (qI (aIn x (4 ^ n) (fun m => nI (deg m))) h) := by
  have hn := ok.2.1
  have h4 := four_n hn
  by_cases hx : inR x (4 ^ n)
  · obtain ⟨j, hj, rfl⟩ := hx
    have q1 := b01_t (show inR (nI j) (4 ^ n) from ⟨j, hj, rfl⟩)
    rw [aIn_t hj (by omega)]
    refine ev_start 0 (lv := [some (.ref 67), some (.int (nI j))]) rfl (by decide) (Nat.le_of_ble_eq_true rfl) ?_
    refine ev_aload_n dX12_degree_0 rfl ?_
    refine ev_iload_n dX12_degree_1 rfl ?_
    refine ev_callV (cl_isCodeM g hn) ok_X12_isCode ml_X12_160 rfl rfl rfl rfl (Nat.le_of_ble_eq_true rfl) dX12_degree_2 (kI ?_)
    refine ev_if_eqN 15 dX12_degree_5 (by decide) (by omega) (fun c5 => ?_) (fun c5 => ?_)
    · omega
    · refine ev_iload_n dX12_degree_8 rfl ?_
      refine ev_callS (cl_degreeOfM (by omega)) ok_X12_degreeOf ml_X12_163 rfl rfl (Nat.le_of_ble_eq_true rfl) dX12_degree_9 (kI ?_)
      refine ev_goto 16 dX12_degree_12 (by decide) ?_
      refine ev_iret dX12_degree_16 rfl ?_
      exact ⟨by with_reducible rfl, rfl⟩
  · have q1 := b01_f hx
    rw [aIn_f hx]
    refine ev_start 0 (lv := [some (.ref 67), some (.int x)]) rfl (by decide) (Nat.le_of_ble_eq_true rfl) ?_
    refine ev_aload_n dX12_degree_0 rfl ?_
    refine ev_iload_n dX12_degree_1 rfl ?_
    refine ev_callV (cl_isCodeM g hn) ok_X12_isCode ml_X12_160 rfl rfl rfl rfl (Nat.le_of_ble_eq_true rfl) dX12_degree_2 (kI ?_)
    refine ev_if_eqN 15 dX12_degree_5 (by decide) (by omega) (fun c5 => ?_) (fun c5 => ?_)
    · refine ev_iconst (-1) dX12_degree_15 rfl ?_
      refine ev_iret dX12_degree_16 rfl ?_
      exact ⟨by with_reducible rfl, rfl⟩
    · omega
/-- exponent: code and variable in range -/
noncomputable def aEx (n : Nat) (x y : Int32) : Int32 := aIn x (4 ^ n) (fun m => aIn y n (fun v => nI (ex m v)))
theorem cl_exponentC {n N : Nat} {x y : Int32} (g : gC h n N) (ok : gOK n N) : Cl G (d + 2) M_X11_exponent [.ref 0, .int x, .int y] h (qI (aEx n x y) h) := by
  have hn := ok.2.1
  have h4 := four_n hn
  unfold aEx
  by_cases hx : inR x (4 ^ n)
  · obtain ⟨j, hj, rfl⟩ := hx
    have q1 := b01_t (show inR (nI j) (4 ^ n) from ⟨j, hj, rfl⟩)
    rw [aIn_t hj (by omega)]
    by_cases hy : inR y n
    · obtain ⟨v, hv, rfl⟩ := hy
      have q2 := b01_t (show inR (nI v) n from ⟨v, hv, rfl⟩)
      rw [aIn_t hv (by omega)]
      refine ev_start 0 (lv := [some (.ref 0), some (.int (nI j)), some (.int (nI v))]) rfl (by decide) (Nat.le_of_ble_eq_true rfl) ?_
      refine ev_aload_n dX11_exponent_0 rfl ?_
      refine ev_iload_n dX11_exponent_1 rfl ?_
      refine ev_callV (cl_isCodeC g hn) ok_X11_isCode ml_X11_168 rfl rfl rfl rfl (Nat.le_of_ble_eq_true rfl) dX11_exponent_2 (kI ?_)
      refine ev_if_eqN 24 dX11_exponent_5 (by decide) (by omega) (fun c5 => ?_) (fun c5 => ?_)
      · omega
      · refine ev_aload_n dX11_exponent_8 rfl ?_
        refine ev_iload_n dX11_exponent_9 rfl ?_
        refine ev_callV (cl_isVertexC g hn) ok_X11_isVertex ml_X11_89 rfl rfl rfl rfl (Nat.le_of_ble_eq_true rfl) dX11_exponent_10 (kI ?_)
        refine ev_if_eqN 24 dX11_exponent_13 (by decide) (by omega) (fun c13 => ?_) (fun c13 => ?_)
        · omega
        · refine ev_iload_n dX11_exponent_16 rfl ?_
          refine ev_iload_n dX11_exponent_17 rfl ?_
          refine ev_callS (cl_exponentOf (by omega) (by omega)) ok_X6_exponentOf ml_X11_174 rfl rfl (Nat.le_of_ble_eq_true rfl) dX11_exponent_18 (kI ?_)
          refine ev_goto 25 dX11_exponent_21 (by decide) ?_
          refine ev_iret dX11_exponent_25 rfl ?_
          exact ⟨by with_reducible rfl, rfl⟩
    · have q2 := b01_f hy
      rw [aIn_f hy]
      refine ev_start 0 (lv := [some (.ref 0), some (.int (nI j)), some (.int y)]) rfl (by decide) (Nat.le_of_ble_eq_true rfl) ?_
      refine ev_aload_n dX11_exponent_0 rfl ?_
      refine ev_iload_n dX11_exponent_1 rfl ?_
      refine ev_callV (cl_isCodeC g hn) ok_X11_isCode ml_X11_168 rfl rfl rfl rfl (Nat.le_of_ble_eq_true rfl) dX11_exponent_2 (kI ?_)
      refine ev_if_eqN 24 dX11_exponent_5 (by decide) (by omega) (fun c5 => ?_) (fun c5 => ?_)
      · omega
      · refine ev_aload_n dX11_exponent_8 rfl ?_
        refine ev_iload_n dX11_exponent_9 rfl ?_
        refine ev_callV (cl_isVertexC g hn) ok_X11_isVertex ml_X11_89 rfl rfl rfl rfl (Nat.le_of_ble_eq_true rfl) dX11_exponent_10 (kI ?_)
        refine ev_if_eqN 24 dX11_exponent_13 (by decide) (by omega) (fun c13 => ?_) (fun c13 => ?_)
        · refine ev_iconst (-1) dX11_exponent_24 rfl ?_
          refine ev_iret dX11_exponent_25 rfl ?_
          exact ⟨by with_reducible rfl, rfl⟩
        · omega
  · have q1 := b01_f hx
    rw [aIn_f hx]
    refine ev_start 0 (lv := [some (.ref 0), some (.int x), some (.int y)]) rfl (by decide) (Nat.le_of_ble_eq_true rfl) ?_
    refine ev_aload_n dX11_exponent_0 rfl ?_
    refine ev_iload_n dX11_exponent_1 rfl ?_
    refine ev_callV (cl_isCodeC g hn) ok_X11_isCode ml_X11_168 rfl rfl rfl rfl (Nat.le_of_ble_eq_true rfl) dX11_exponent_2 (kI ?_)
    refine ev_if_eqN 24 dX11_exponent_5 (by decide) (by omega) (fun c5 => ?_) (fun c5 => ?_)
    · refine ev_iconst (-1) dX11_exponent_24 rfl ?_
      refine ev_iret dX11_exponent_25 rfl ?_
      exact ⟨by with_reducible rfl, rfl⟩
    · omega
theorem cl_exponentM {n N : Nat} {x y : Int32} (g : gM h n N) (ok : gOK n N) : Cl G (d + 2) M_X12_exponent [.ref 67, .int x, .int y] h (qI (aEx n x y) h) := by
  have hn := ok.2.1
  have h4 := four_n hn
  unfold aEx
  by_cases hx : inR x (4 ^ n)
  · obtain ⟨j, hj, rfl⟩ := hx
    have q1 := b01_t (show inR (nI j) (4 ^ n) from ⟨j, hj, rfl⟩)
    rw [aIn_t hj (by omega)]
    by_cases hy : inR y n
    · obtain ⟨v, hv, rfl⟩ := hy
      have q2 := b01_t (show inR (nI v) n from ⟨v, hv, rfl⟩)
      rw [aIn_t hv (by omega)]
      refine ev_start 0 (lv := [some (.ref 67), some (.int (nI j)), some (.int (nI v))]) rfl (by decide) (Nat.le_of_ble_eq_true rfl) ?_
      refine ev_aload_n dX12_exponent_0 rfl ?_
      refine ev_iload_n dX12_exponent_1 rfl ?_
      refine ev_callV (cl_isCodeM g hn) ok_X12_isCode ml_X12_160 rfl rfl rfl rfl (Nat.le_of_ble_eq_true rfl) dX12_exponent_2 (kI ?_)
      refine ev_if_eqN 24 dX12_exponent_5 (by decide) (by omega) (fun c5 => ?_) (fun c5 => ?_)
      · omega
      · refine ev_aload_n dX12_exponent_8 rfl ?_
        refine ev_iload_n dX12_exponent_9 rfl ?_
        refine ev_callV (cl_isVertexM g ok.1 hn) ok_X12_isVertex ml_X12_88 rfl rfl rfl rfl (Nat.le_of_ble_eq_true rfl) dX12_exponent_10 (kI ?_)
        refine ev_if_eqN 24 dX12_exponent_13 (by decide) (by omega) (fun c13 => ?_) (fun c13 => ?_)
        · omega
        · refine ev_iload_n dX12_exponent_16 rfl ?_
          refine ev_iload_n dX12_exponent_17 rfl ?_
          refine ev_callS (cl_exponentOfM (by omega) (by omega)) ok_X12_exponentOf ml_X12_128 rfl rfl (Nat.le_of_ble_eq_true rfl) dX12_exponent_18 (kI ?_)
          refine ev_goto 25 dX12_exponent_21 (by decide) ?_
          refine ev_iret dX12_exponent_25 rfl ?_
          exact ⟨by with_reducible rfl, rfl⟩
    · have q2 := b01_f hy
      rw [aIn_f hy]
      refine ev_start 0 (lv := [some (.ref 67), some (.int (nI j)), some (.int y)]) rfl (by decide) (Nat.le_of_ble_eq_true rfl) ?_
      refine ev_aload_n dX12_exponent_0 rfl ?_
      refine ev_iload_n dX12_exponent_1 rfl ?_
      refine ev_callV (cl_isCodeM g hn) ok_X12_isCode ml_X12_160 rfl rfl rfl rfl (Nat.le_of_ble_eq_true rfl) dX12_exponent_2 (kI ?_)
      refine ev_if_eqN 24 dX12_exponent_5 (by decide) (by omega) (fun c5 => ?_) (fun c5 => ?_)
      · omega
      · refine ev_aload_n dX12_exponent_8 rfl ?_
        refine ev_iload_n dX12_exponent_9 rfl ?_
        refine ev_callV (cl_isVertexM g ok.1 hn) ok_X12_isVertex ml_X12_88 rfl rfl rfl rfl (Nat.le_of_ble_eq_true rfl) dX12_exponent_10 (kI ?_)
        refine ev_if_eqN 24 dX12_exponent_13 (by decide) (by omega) (fun c13 => ?_) (fun c13 => ?_)
        · refine ev_iconst (-1) dX12_exponent_24 rfl ?_
          refine ev_iret dX12_exponent_25 rfl ?_
          exact ⟨by with_reducible rfl, rfl⟩
        · omega
  · have q1 := b01_f hx
    rw [aIn_f hx]
    refine ev_start 0 (lv := [some (.ref 67), some (.int x), some (.int y)]) rfl (by decide) (Nat.le_of_ble_eq_true rfl) ?_
    refine ev_aload_n dX12_exponent_0 rfl ?_
    refine ev_iload_n dX12_exponent_1 rfl ?_
    refine ev_callV (cl_isCodeM g hn) ok_X12_isCode ml_X12_160 rfl rfl rfl rfl (Nat.le_of_ble_eq_true rfl) dX12_exponent_2 (kI ?_)
    refine ev_if_eqN 24 dX12_exponent_5 (by decide) (by omega) (fun c5 => ?_) (fun c5 => ?_)
    · refine ev_iconst (-1) dX12_exponent_24 rfl ?_
      refine ev_iret dX12_exponent_25 rfl ?_
      exact ⟨by with_reducible rfl, rfl⟩
    · omega
end Q1
