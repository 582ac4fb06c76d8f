section LIST1
variable {G : MG} {d : Nat} {h : MH}
def okL (L : List Nat) : Prop := L.length ≤ 24 ∧ ∀ i, i < L.length → L.getD i 0 < 16384
def lM (h : MH) (L : List Nat) : Prop := h.1 67 18 = nI L.length ∧ hold (h.1 78) L
def lm (h h' : MH) : Prop := mod (fun k => k ≠ 78 ∧ k ≠ 79) (fun j => j ≠ 18) h h'
def mkL (s : Nat) (g : Nat → Nat) : List Nat := (List.range s).map g
theorem mkL_len (s : Nat) (g : Nat → Nat) : (mkL s g).length = s := by unfold mkL; rw [List.length_map, List.length_range]
theorem mkL_get {s i : Nat} (g : Nat → Nat) (hi : i < s) : (mkL s g).getD i 0 = g i := by
  unfold mkL
  rw [List.getD_eq_getElem?_getD, List.getElem?_map, List.getElem?_range hi]; rfl
theorem mkL_hold {s : Nat} {g : Nat → Nat} {f : Nat → Int32} (h : ∀ i, i < s → f i = nI (g i)) : hold f (mkL s g) := fun i hi => by
  rw [mkL_len] at hi
  rw [mkL_get g hi]; exact h i hi
theorem getD_ext {A B : List Nat} (l : A.length = B.length) (h : ∀ i, i < A.length → A.getD i 0 = B.getD i 0) : A = B := by
  apply List.ext_getElem l
  intro i h1 h2
  have := h i h1
  rw [List.getD_eq_getElem?_getD, List.getD_eq_getElem?_getD, List.getElem?_eq_getElem h1, List.getElem?_eq_getElem h2] at this
  exact this
theorem getD_snoc_l {A : List Nat} {x i : Nat} (hi : i < A.length) : (A ++ [x]).getD i 0 = A.getD i 0 := by
  rw [List.getD_eq_getElem?_getD, List.getElem?_append_left hi, ← List.getD_eq_getElem?_getD]
theorem getD_snoc_e {A : List Nat} {x : Nat} : (A ++ [x]).getD A.length 0 = x := by
  rw [List.getD_eq_getElem?_getD, List.getElem?_append_right (Nat.le_refl _), Nat.sub_self]; rfl
theorem okL_nil : okL [] := ⟨by decide, fun i hi => absurd hi (Nat.not_lt_zero _)⟩
theorem okL_snoc {L : List Nat} {x : Nat} (o : okL L) (hl : L.length < 24) (hx : x < 16384) : okL (L ++ [x]) := by
  refine ⟨by rw [List.length_append]; simp; omega, fun i hi => ?_⟩
  rw [List.length_append] at hi
  by_cases e : i = L.length
  · subst e; rw [getD_snoc_e]; exact hx
  · have : i < L.length := by simp at hi; omega
    rw [getD_snoc_l this]; exact o.2 i this
theorem okL_mk {s : Nat} {g : Nat → Nat} (hs : s ≤ 24) (hg : ∀ i, i < s → g i < 16384) : okL (mkL s g) := ⟨by rw [mkL_len]; exact hs, fun i hi => by
  rw [mkL_len] at hi
  rw [mkL_get g hi]; exact hg i hi⟩
theorem lM_snoc {L : List Nat} {x : Nat} (l : lM h L) : lM (m_put (m_put h 78 L.length (nI x)) 67 18 (nI (L.length + 1))) (L ++ [x]) := by
  refine ⟨by rw [mp_eq, List.length_append]; rfl, ?_⟩
  rw [mp_k (by decide), show (m_put h 78 L.length (nI x)).1 78 = upd (h.1 78) L.length (nI x) from ma_eq _ _ _]
  exact hold_snoc l.2
theorem lm_snoc {L : List Nat} {x : Int32} {s : Nat} {y : Int32} : lm h (m_put (m_put h 78 s x) 67 18 y) := (mod_p (by simp) (by decide)).tr (mod_f (by simp))
/-! append -/
noncomputable def apA (n : Nat) (L : List Nat) (x : Int32) : Int32 := aIn x (4 ^ n) (fun _ => if L.length = 24 then -3 else nI (L.length + 1))
noncomputable def apL (n : Nat) (L : List Nat) (x : Int32) : List Nat := if b01 (inR x (4 ^ n)) = 0 then L else if L.length = 24 then L else L ++ [x.toNatClampNeg]
theorem apL_ok {n : Nat} {L : List Nat} {x : Int32} (hn : n ≤ 7) (o : okL L) : okL (apL n L x) := by
  have h4 := four_n hn
  unfold apL
  by_cases c : inR x (4 ^ n)
  · rw [b01_t c, if_neg (show ¬ 1 = 0 by decide)]
    by_cases e : L.length = 24
    · rw [if_pos e]; exact o
    · rw [if_neg e]
      obtain ⟨j, hj, rfl⟩ := c
      have := o.1
      rw [nI_clamp (by omega)]
      exact okL_snoc o (by omega) (by omega)
  · rw [b01_f c, if_pos (show 0 = 0 from rfl)]; exact o
theorem cl_appendC {n N : Nat} {L : List Nat} {x : Int32} (g : gC h n N) (hn : n ≤ 7) (r : rowIs h 40 L) (o : okL L) : Cl G (d + 2) M_X11_append [.ref 0, .int x] h (fun rv h' => rv = some (.int (apA n L x)) ∧ same (fun k => k < 40 ∨ 45 < k) h h' ∧ rowIs h' 40 (apL n L x)) := by
  have h4 := four_n hn
  have l24 := o.1
  unfold apA apL
  by_cases hx : inR x (4 ^ n)
  · have q1 := b01_t hx
    rw [q1, if_neg (show ¬ 1 = 0 by decide)]
    obtain ⟨j, hj, rfl⟩ := hx
    rw [aIn_t hj (by omega)]
    by_cases e : L.length = 24
    · rw [if_pos e, if_pos e]
      refine ev_start 0 (lv := [some (.ref 0), some (.int (nI j))]) rfl (by decide) (Nat.le_of_ble_eq_true rfl) ?_
      refine ev_aload_n dX11_append_0 rfl ?_
      refine ev_iload_n dX11_append_1 rfl ?_
      refine ev_callV (cl_isCodeC g hn) ok_X11_isCode ml_X11_168 rfl rfl rfl rfl (Nat.le_of_ble_eq_true rfl) dX11_append_2 (kI ?_)
      refine ev_if_neN 10 dX11_append_5 (by decide) (by omega) (fun c5 => ?_) (fun c5 => ?_)
      · refine ev_aload_n dX11_append_10 rfl ?_
        refine ev_getR fl_X11_53 rfl rfl dX11_append_11 ?_
        refine ev_getR fl_X11_253 rfl rfl dX11_append_14 ?_
        refine ev_iload_n dX11_append_17 rfl ?_
        refine ev_callV (cl_add_full row_40 r.1 (by omega) (by omega)) ok_X7_add ml_X11_256 rfl rfl rfl rfl (Nat.le_of_ble_eq_true rfl) dX11_append_18 (kI ?_)
        refine ev_if_eqN 37 dX11_append_21 (by decide) (by omega) (fun c21 => ?_) (fun c21 => ?_)
        · refine ev_bipush (-3) dX11_append_37 rfl ?_
          refine ev_iret dX11_append_39 rfl ?_
          exact ⟨rfl, same.rf, r⟩
        · exact absurd c21 (by decide)
      · omega
    · rw [if_neg e, if_neg e, nI_clamp (by omega)]
      refine ev_start 0 (lv := [some (.ref 0), some (.int (nI j))]) rfl (by decide) (Nat.le_of_ble_eq_true rfl) ?_
      refine ev_aload_n dX11_append_0 rfl ?_
      refine ev_iload_n dX11_append_1 rfl ?_
      refine ev_callV (cl_isCodeC g hn) ok_X11_isCode ml_X11_168 rfl rfl rfl rfl (Nat.le_of_ble_eq_true rfl) dX11_append_2 (kI ?_)
      refine ev_if_neN 10 dX11_append_5 (by decide) (by omega) (fun c5 => ?_) (fun c5 => ?_)
      · refine ev_aload_n dX11_append_10 rfl ?_
        refine ev_getR fl_X11_53 rfl rfl dX11_append_11 ?_
        refine ev_getR fl_X11_253 rfl rfl dX11_append_14 ?_
        refine ev_iload_n dX11_append_17 rfl ?_
        refine ev_callV (cl_add row_40 r.1 (by omega)) ok_X7_add ml_X11_256 rfl rfl rfl rfl (Nat.le_of_ble_eq_true rfl) dX11_append_18 (kI ?_)
        refine ev_if_eqN 37 dX11_append_21 (by decide) (by omega) (fun c21 => ?_) (fun c21 => ?_)
        · exact absurd c21 (by decide)
        · refine ev_aload_n dX11_append_24 rfl ?_
          refine ev_getR fl_X11_53 rfl rfl dX11_append_25 ?_
          refine ev_getR fl_X11_253 rfl rfl dX11_append_28 ?_
          refine ev_getIv (ra_cnt (h := h) (p := 40) (s := L.length) (x := nI j)) fl_X11_148 rfl rfl dX11_append_31 ?_
          refine ev_goto 39 dX11_append_34 (by decide) ?_
          refine ev_iret dX11_append_39 rfl ?_
          exact ⟨rfl, same_add (by decide) (by decide), rowIs_add r⟩
      · omega
  · have q1 := b01_f hx
    rw [q1, if_pos (show 0 = 0 from rfl), aIn_f hx]
    refine ev_start 0 (lv := [some (.ref 0), some (.int x)]) rfl (by decide) (Nat.le_of_ble_eq_true rfl) ?_
    refine ev_aload_n dX11_append_0 rfl ?_
    refine ev_iload_n dX11_append_1 rfl ?_
    refine ev_callV (cl_isCodeC g hn) ok_X11_isCode ml_X11_168 rfl rfl rfl rfl (Nat.le_of_ble_eq_true rfl) dX11_append_2 (kI ?_)
    refine ev_if_neN 10 dX11_append_5 (by decide) (by omega) (fun c5 => ?_) (fun c5 => ?_)
    · omega
    · refine ev_iconst (-1) dX11_append_8 rfl ?_
      refine ev_iret dX11_append_9 rfl ?_
      exact ⟨rfl, same.rf, r⟩
theorem cl_appendM {n N : Nat} {L : List Nat} {x : Int32} (g : gM h n N) (hn : n ≤ 7) (r : lM h L) (o : okL L) : Cl G (d + 2) M_X12_append [.ref 67, .int x] h (fun rv h' => rv = some (.int (apA n L x)) ∧ lm h h' ∧ lM h' (apL n L x)) := by
  have h4 := four_n hn
  have l24 := o.1
  unfold apA apL
  by_cases hx : inR x (4 ^ n)
  · have q1 := b01_t hx
    rw [q1, if_neg (show ¬ 1 = 0 by decide)]
    obtain ⟨j, hj, rfl⟩ := hx
    rw [aIn_t hj (by omega)]
    by_cases e : L.length = 24
    · rw [if_pos e, if_pos e]
      refine ev_start 0 (lv := [some (.ref 67), some (.int (nI j))]) rfl (by decide) (Nat.le_of_ble_eq_true rfl) ?_
      refine ev_aload_n dX12_append_0 rfl ?_
      refine ev_iload_n dX12_append_1 rfl ?_
      refine ev_callV (cl_isCodeM g hn) ok_X12_isCode ml_X12_160 rfl rfl rfl rfl (Nat.le_of_ble_eq_true rfl) dX12_append_2 (kI ?_)
      refine ev_if_neN 10 dX12_append_5 (by decide) (by omega) (fun c5 => ?_) (fun c5 => ?_)
      · refine ev_aload_n dX12_append_10 rfl ?_
        refine ev_getIv (r.1) fl_X12_251 rfl rfl dX12_append_11 ?_
        refine ev_bipush (nI 24) dX12_append_14 rfl ?_
        refine ev_icmp_neN 22 dX12_append_16 (by decide) (by omega) (by omega) (fun c16 => ?_) (fun c16 => ?_)
        · omega
        · refine ev_bipush (-3) dX12_append_19 rfl ?_
          refine ev_iret dX12_append_21 rfl ?_
          exact ⟨rfl, mod.rf, r⟩
      · omega
    · rw [if_neg e, if_neg e, nI_clamp (by omega)]
      refine ev_start 0 (lv := [some (.ref 67), some (.int (nI j))]) rfl (by decide) (Nat.le_of_ble_eq_true rfl) ?_
      refine ev_aload_n dX12_append_0 rfl ?_
      refine ev_iload_n dX12_append_1 rfl ?_
      refine ev_callV (cl_isCodeM g hn) ok_X12_isCode ml_X12_160 rfl rfl rfl rfl (Nat.le_of_ble_eq_true rfl) dX12_append_2 (kI ?_)
      refine ev_if_neN 10 dX12_append_5 (by decide) (by omega) (fun c5 => ?_) (fun c5 => ?_)
      · refine ev_aload_n dX12_append_10 rfl ?_
        refine ev_getIv (r.1) fl_X12_251 rfl rfl dX12_append_11 ?_
        refine ev_bipush (nI 24) dX12_append_14 rfl ?_
        refine ev_icmp_neN 22 dX12_append_16 (by decide) (by omega) (by omega) (fun c16 => ?_) (fun c16 => ?_)
        · refine ev_aload_n dX12_append_22 rfl ?_
          refine ev_getR fl_X12_50 rfl rfl dX12_append_23 ?_
          refine ev_aload_n dX12_append_26 rfl ?_
          refine ev_getIv (r.1) fl_X12_251 rfl rfl dX12_append_27 ?_
          refine ev_iload_n dX12_append_30 rfl ?_
          refine ev_iastN rfl dX12_append_31 (by omega) (by omega) ?_
          refine ev_aload_n dX12_append_32 rfl ?_
          refine ev_dup dX12_append_33 rfl ?_
          refine ev_getIv ((show _ = nI L.length by rw [mp_k (by decide)]; exact r.1)) fl_X12_251 rfl rfl dX12_append_34 ?_
          refine ev_iconst (nI 1) dX12_append_37 rfl ?_
          refine ev_iaddN dX12_append_38 ?_
          refine ev_putI fp_X12_251 rfl rfl rfl rfl dX12_append_39 ?_
          refine ev_aload_n dX12_append_42 rfl ?_
          refine ev_getIv ((show _ = nI (L.length + 1) from mp_eq _ _ _ _)) fl_X12_251 rfl rfl dX12_append_43 ?_
          refine ev_iret dX12_append_46 rfl ?_
          exact ⟨rfl, lm_snoc (L := L), lM_snoc r⟩
        · omega
      · omega
  · have q1 := b01_f hx
    rw [q1, if_pos (show 0 = 0 from rfl), aIn_f hx]
    refine ev_start 0 (lv := [some (.ref 67), some (.int x)]) rfl (by decide) (Nat.le_of_ble_eq_true rfl) ?_
    refine ev_aload_n dX12_append_0 rfl ?_
    refine ev_iload_n dX12_append_1 rfl ?_
    refine ev_callV (cl_isCodeM g hn) ok_X12_isCode ml_X12_160 rfl rfl rfl rfl (Nat.le_of_ble_eq_true rfl) dX12_append_2 (kI ?_)
    refine ev_if_neN 10 dX12_append_5 (by decide) (by omega) (fun c5 => ?_) (fun c5 => ?_)
    · omega
    · refine ev_iconst (-1) dX12_append_8 rfl ?_
      refine ev_iret dX12_append_9 rfl ?_
      exact ⟨rfl, mod.rf, r⟩
/-! size, element, clear -/
theorem cl_listSizeC {L : List Nat} (r : rowIs h 40 L) : Cl G d M_X11_listSize [.ref 0] h (qI (nI L.length) h) := by
  refine ev_start 0 (lv := [some (.ref 0)]) rfl (by decide) (Nat.le_of_ble_eq_true rfl) ?_
  refine ev_aload_n dX11_listSize_0 rfl ?_
  refine ev_getR fl_X11_53 rfl rfl dX11_listSize_1 ?_
  refine ev_getR fl_X11_253 rfl rfl dX11_listSize_4 ?_
  refine ev_getIv (r.1) fl_X11_148 rfl rfl dX11_listSize_7 ?_
  refine ev_iret dX11_listSize_10 rfl ?_
  exact ⟨by with_reducible rfl, rfl⟩
theorem cl_listSizeM {L : List Nat} (r : lM h L) : Cl G d M_X12_listSize [.ref 67] h (qI (nI L.length) h) := by
  refine ev_start 0 (lv := [some (.ref 67)]) rfl (by decide) (Nat.le_of_ble_eq_true rfl) ?_
  refine ev_aload_n dX12_listSize_0 rfl ?_
  refine ev_getIv (r.1) fl_X12_251 rfl rfl dX12_listSize_1 ?_
  refine ev_iret dX12_listSize_4 rfl ?_
  exact ⟨by with_reducible rfl, rfl⟩
theorem cl_elementC {L : List Nat} {x : Int32} (r : rowIs h 40 L) (o : okL L) : Cl G (d + 1) M_X11_element [.ref 0, .int x] h (qI (itL L x) h) := by
  have l24 := o.1
  rw [← itL_hold (show L.length < 2 ^ 31 by omega) r.2 x]
  refine ev_start 0 (lv := [some (.ref 0), some (.int x)]) rfl (by decide) (Nat.le_of_ble_eq_true rfl) ?_
  refine ev_aload_n dX11_element_0 rfl ?_
  refine ev_getR fl_X11_53 rfl rfl dX11_element_1 ?_
  refine ev_getR fl_X11_253 rfl rfl dX11_element_4 ?_
  refine ev_iload_n dX11_element_7 rfl ?_
  refine ev_callS (cl_itemOrError row_40 r.1 o.1) ok_X11_itemOrError ml_X11_151 rfl rfl (Nat.le_of_ble_eq_true rfl) dX11_element_8 (kI ?_)
  refine ev_iret dX11_element_11 rfl ?_
  exact ⟨by with_reducible rfl, rfl⟩
theorem cl_elementM {L : List Nat} {x : Int32} (r : lM h L) (o : okL L) : Cl G d M_X12_element [.ref 67, .int x] h (qI (itL L x) h) := by
  have l24 := o.1
  by_cases hx : inR x L.length
  · obtain ⟨i, hi, rfl⟩ := hx
    rw [show itL L (nI i) = nI (L.getD i 0) from itemE_in hi (by omega)]
    refine ev_start 0 (lv := [some (.ref 67), some (.int (nI i))]) rfl (by decide) (Nat.le_of_ble_eq_true rfl) ?_
    refine ev_iload_n dX12_element_0 rfl ?_
    refine ev_if_geN 8 dX12_element_1 (by decide) (by omega) (fun c1 => ?_) (fun c1 => ?_)
    · refine ev_iload_n dX12_element_8 rfl ?_
      refine ev_aload_n dX12_element_9 rfl ?_
      refine ev_getIv (r.1) fl_X12_251 rfl rfl dX12_element_10 ?_
      refine ev_icmp_geN 25 dX12_element_13 (by decide) (by omega) (by omega) (fun c13 => ?_) (fun c13 => ?_)
      · omega
      · refine ev_aload_n dX12_element_16 rfl ?_
        refine ev_getR fl_X12_50 rfl rfl dX12_element_17 ?_
        refine ev_iload_n dX12_element_20 rfl ?_
        refine ev_ialdv (r.2 i hi) rfl dX12_element_21 (by omega) (by omega) ?_
        refine ev_goto 27 dX12_element_22 (by decide) ?_
        refine ev_iret dX12_element_27 rfl ?_
        exact ⟨by with_reducible rfl, rfl⟩
    · exact c1.elim
  · skip
    refine ev_start 0 (lv := [some (.ref 67), some (.int x)]) rfl (by decide) (Nat.le_of_ble_eq_true rfl) ?_
    refine ev_iload_n dX12_element_0 rfl ?_
    refine ev_if_ge 8 dX12_element_1 (by decide) (fun c1 => ?_) (fun c1 => ?_)
    · refine ev_iload_n dX12_element_8 rfl ?_
      refine ev_aload_n dX12_element_9 rfl ?_
      refine ev_getIv (r.1) fl_X12_251 rfl rfl dX12_element_10 ?_
      refine ev_icmp_ge 25 dX12_element_13 (by decide) (fun c13 => ?_) (fun c13 => ?_)
      · refine ev_bipush (-2) dX12_element_25 rfl ?_
        refine ev_iret dX12_element_27 rfl ?_
        exact ⟨by rw [show itL L x = -2 from itemE_out (Int32.not_lt.mpr c1) (Int32.not_lt.mpr c13)], rfl⟩
      · exact absurd (inR_of (by omega) (Int32.not_lt.mpr c1) c13) hx
    · refine ev_iconst (-1) dX12_element_4 rfl ?_
      refine ev_goto 27 dX12_element_5 (by decide) ?_
      refine ev_iret dX12_element_27 rfl ?_
      exact ⟨by rw [show itL L x = -1 from itemE_neg (Int32.not_le.mp c1)], rfl⟩
theorem cl_clearListC {L : List Nat} (r : rowIs h 40 L) : Cl G d M_X11_clearList [.ref 0] h (fun rv h' => rv = some (.int (nI L.length)) ∧ same (fun k => k < 40 ∨ 45 < k) h h' ∧ rowIs h' 40 ([])) := by
  refine ev_start 1 (lv := [some (.ref 0), none]) rfl (by decide) (Nat.le_of_ble_eq_true rfl) ?_
  refine ev_aload_n dX11_clearList_0 rfl ?_
  refine ev_getR fl_X11_53 rfl rfl dX11_clearList_1 ?_
  refine ev_getR fl_X11_253 rfl rfl dX11_clearList_4 ?_
  refine ev_getIv (r.1) fl_X11_148 rfl rfl dX11_clearList_7 ?_
  refine ev_ist1 dX11_clearList_10 (by decide) rfl ?_
  refine ev_aload_n dX11_clearList_11 rfl ?_
  refine ev_getR fl_X11_53 rfl rfl dX11_clearList_12 ?_
  refine ev_getR fl_X11_253 rfl rfl dX11_clearList_15 ?_
  refine ev_iconst (nI 0) dX11_clearList_18 rfl ?_
  refine ev_putI fp_X11_148 rfl rfl rfl rfl dX11_clearList_19 ?_
  refine ev_iload_n dX11_clearList_22 rfl ?_
  refine ev_iret dX11_clearList_23 rfl ?_
  exact ⟨rfl, same_put (by decide), mp_eq _ _ _ _, hold_nil _⟩
theorem cl_clearListM {L : List Nat} (r : lM h L) : Cl G d M_X12_clearList [.ref 67] h (fun rv h' => rv = some (.int (nI L.length)) ∧ lm h h' ∧ lM h' ([])) := by
  refine ev_start 1 (lv := [some (.ref 67), none]) rfl (by decide) (Nat.le_of_ble_eq_true rfl) ?_
  refine ev_aload_n dX12_clearList_0 rfl ?_
  refine ev_getIv (r.1) fl_X12_251 rfl rfl dX12_clearList_1 ?_
  refine ev_ist1 dX12_clearList_4 (by decide) rfl ?_
  refine ev_aload_n dX12_clearList_5 rfl ?_
  refine ev_iconst (nI 0) dX12_clearList_6 rfl ?_
  refine ev_putI fp_X12_251 rfl rfl rfl rfl dX12_clearList_7 ?_
  refine ev_iload_n dX12_clearList_10 rfl ?_
  refine ev_iret dX12_clearList_11 rfl ?_
  exact ⟨rfl, mod_f (by simp), mp_eq _ _ _ _, hold_nil _⟩
end LIST1
