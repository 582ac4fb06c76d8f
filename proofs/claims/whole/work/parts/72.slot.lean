section SLOT
variable {G : MG} {d : Nat} {h : MH}
/-- a slot: its kind, what lies in it -/
abbrev Sl := Nat × List Int32
def slP (h : MH) (k : Nat) (s : Sl) : Prop := h.1 (52 + 3 * k) 0 = nI s.1 ∧ (s.1 ≠ 0 → h.1 (53 + 3 * k) 1 = nI s.2.length ∧ ∀ i, i < s.2.length → h.1 (53 + 3 * k + 1) i = s.2.getD i 0)
def slM (h : MH) (k : Nat) (s : Sl) : Prop := h.1 83 k = nI s.1 ∧ (s.1 ≠ 0 → h.1 84 k = nI s.2.length ∧ ∀ i, i < s.2.length → h.1 (86 + k) i = s.2.getD i 0)
def okS (s : Sl) : Prop := s.1 ≤ 2 ∧ s.2.length ≤ 30 ∧ (s.1 = 1 → ∃ K, okL K ∧ s.2 = K.map nI)
def SC (h : MH) (S : Nat → Sl) : Prop := ∀ k, k < 4 → slP h k (S k)
def SM (h : MH) (S : Nat → Sl) : Prop := ∀ k, k < 4 → slM h k (S k)
def okSS (S : Nat → Sl) : Prop := ∀ k, k < 4 → okS (S k)
def upS (S : Nat → Sl) (k : Nat) (s : Sl) : Nat → Sl := fun j => if j = k then s else S j
theorem upS_e {S : Nat → Sl} {k : Nat} {s : Sl} : upS S k s k = s := if_pos rfl
theorem upS_n {S : Nat → Sl} {k j : Nat} {s : Sl} (e : j ≠ k) : upS S k s j = S j := if_neg e
theorem okSS_up {S : Nat → Sl} {k : Nat} {s : Sl} (o : okSS S) (q : okS s) : okSS (upS S k s) := fun j hj => by
  by_cases e : j = k
  · subst e; rw [upS_e]; exact q
  · rw [upS_n e]; exact o j hj
abbrev mS (h h' : MH) : Prop := mod (fun j => j ≠ 83 ∧ j ≠ 84 ∧ (j < 86 ∨ 89 < j)) (fun _ => True) h h'
theorem SC_up {S : Nat → Sl} {h' : MH} {k : Nat} {s : Sl} (q : SC h S) (f : same (fun j => j ≠ 52 + 3 * k ∧ j ≠ 53 + 3 * k ∧ j ≠ 53 + 3 * k + 1) h h') (n : slP h' k s) : SC h' (upS S k s) := fun j hj => by
  by_cases e : j = k
  · subst e; rw [upS_e]; exact n
  · rw [upS_n e]
    unfold slP
    rw [(f (52 + 3 * j) (by omega)).1, (f (53 + 3 * j) (by omega)).1, (f (53 + 3 * j + 1) (by omega)).1]
    exact q j hj
theorem SM_up {S : Nat → Sl} {h' : MH} {k : Nat} {s : Sl} (q : SM h S) (f1 : ∀ j, j ≠ k → h'.1 83 j = h.1 83 j) (f2 : ∀ j, j ≠ k → h'.1 84 j = h.1 84 j) (f3 : ∀ j, j ≠ k → h'.1 (86 + j) = h.1 (86 + j)) (n : slM h' k s) : SM h' (upS S k s) := fun j hj => by
  by_cases e : j = k
  · subst e; rw [upS_e]; exact n
  · rw [upS_n e]
    unfold slM
    rw [f1 j e, f2 j e, f3 j e]
    exact q j hj
theorem sl_hs {k : Nat} (hk : k < 4) : m_lay[52 + 3 * k]? = some (.inr (7, [0, 53 + 3 * k + 2])) := by
  rcases (show k = 0 ∨ k = 1 ∨ k = 2 ∨ k = 3 by omega) with rfl | rfl | rfl | rfl <;> rfl
theorem sl_row {k : Nat} (hk : k < 4) : isRow (53 + 3 * k) 30 := by
  rcases (show k = 0 ∨ k = 1 ∨ k = 2 ∨ k = 3 by omega) with rfl | rfl | rfl | rfl
  · exact row_53
  · exact row_56
  · exact row_59
  · exact row_62
theorem sl_el {k : Nat} (hk : k < 4) : ([52, 55, 58, 61] : List Nat)[k]? = some (52 + 3 * k) := by
  rcases (show k = 0 ∨ k = 1 ∨ k = 2 ∨ k = 3 by omega) with rfl | rfl | rfl | rfl <;> rfl
theorem sl_ea {k : Nat} (hk : k < 4) : ([86, 87, 88, 89] : List Nat)[k]? = some (86 + k) := by
  rcases (show k = 0 ∨ k = 1 ∨ k = 2 ∨ k = 3 by omega) with rfl | rfl | rfl | rfl <;> rfl
theorem sl_ha {k : Nat} (hk : k < 4) : m_lay[86 + k]? = some (.inl (0, 30, [])) := by
  rcases (show k = 0 ∨ k = 1 ∨ k = 2 ∨ k = 3 by omega) with rfl | rfl | rfl | rfl <;> rfl
theorem map_get {K : List Nat} {i : Nat} (hi : i < K.length) : (K.map nI).getD i 0 = nI (K.getD i 0) := by
  rw [List.getD_eq_getElem?_getD, List.getElem?_map, List.getD_eq_getElem?_getD, List.getElem?_eq_getElem hi]; rfl
theorem rep_get {s i : Nat} (hi : i < s) : (List.replicate s (0 : Int32)).getD i 0 = nI 0 := by
  rw [List.getD_eq_getElem?_getD, List.getElem?_replicate, if_pos hi]; rfl
theorem set_get {V : List Int32} {i j : Nat} {x : Int32} (hj : j < V.length) : (V.set i x).getD j 0 = if j = i then x else V.getD j 0 := by
  rw [List.getD_eq_getElem?_getD, List.getElem?_set]
  by_cases e : i = j
  · subst e; rw [if_pos rfl, if_pos rfl, if_pos hj]; rfl
  · rw [if_neg e, if_neg (fun z => e z.symm), ← List.getD_eq_getElem?_getD]
theorem cl_isSlotC {x : Int32} : Cl G d M_X11_isSlot [.int x] h (qI (nI (b01 (inR x 4))) h) := by
  by_cases hx : inR x 4
  · rw [b01_t hx]
    obtain ⟨j, hj, rfl⟩ := hx
    refine ev_start 0 (lv := [some (.int (nI j))]) rfl (by decide) (Nat.le_of_ble_eq_true rfl) ?_
    refine ev_iload_n dX11_isSlot_0 rfl ?_
    refine ev_if_ltN 13 dX11_isSlot_1 (by decide) (by omega) (fun c1 => ?_) (fun c1 => ?_)
    · exact c1.elim
    · refine ev_iload_n dX11_isSlot_4 rfl ?_
      refine ev_iconst (nI 4) dX11_isSlot_5 rfl ?_
      refine ev_icmp_geN 13 dX11_isSlot_6 (by decide) (by omega) (by omega) (fun c6 => ?_) (fun c6 => ?_)
      · omega
      · refine ev_iconst (nI 1) dX11_isSlot_9 rfl ?_
        refine ev_goto 14 dX11_isSlot_10 (by decide) ?_
        refine ev_zret dX11_isSlot_14 rfl rfl ?_
        exact ⟨by with_reducible rfl, rfl⟩
  · rw [b01_f hx]
    refine ev_start 0 (lv := [some (.int x)]) rfl (by decide) (Nat.le_of_ble_eq_true rfl) ?_
    refine ev_iload_n dX11_isSlot_0 rfl ?_
    refine ev_if_lt 13 dX11_isSlot_1 (by decide) (fun c1 => ?_) (fun c1 => ?_)
    · refine ev_iconst (nI 0) dX11_isSlot_13 rfl ?_
      refine ev_zret dX11_isSlot_14 rfl rfl ?_
      exact ⟨by with_reducible rfl, rfl⟩
    · refine ev_iload_n dX11_isSlot_4 rfl ?_
      refine ev_iconst (nI 4) dX11_isSlot_5 rfl ?_
      refine ev_icmp_ge 13 dX11_isSlot_6 (by decide) (fun c6 => ?_) (fun c6 => ?_)
      · refine ev_iconst (nI 0) dX11_isSlot_13 rfl ?_
        refine ev_zret dX11_isSlot_14 rfl rfl ?_
        exact ⟨by with_reducible rfl, rfl⟩
      · exact absurd (inR_of (by decide) c1 (by exact c6)) hx
theorem cl_isSlotM {x : Int32} : Cl G (d + 1) M_X12_isSlot [.int x] h (qI (nI (b01 (inR x 4))) h) := by
  rw [b01_c (rg_inR (x := x) (show 0 < 4 by decide))]
  refine ev_start 0 (lv := [some (.int x)]) rfl (by decide) (Nat.le_of_ble_eq_true rfl) ?_
  refine ev_iload_n dX12_isSlot_0 rfl ?_
  refine ev_i2l dX12_isSlot_1 rfl ?_
  refine ev_lconst (lN 0) dX12_isSlot_2 rfl ?_
  refine ev_ldc2 (lN 3) dX12_isSlot_3 kl_X12_183 ?_
  refine ev_callS (cl_btw (a := 0) (b := 3) rfl rfl (by decide) (by decide)) ok_X12_isBetween ml_X12_79 rfl rfl (Nat.le_of_ble_eq_true rfl) dX12_isSlot_6 (kI ?_)
  refine ev_zret dX12_isSlot_9 rfl (b01_nar _) ?_
  exact ⟨by with_reducible rfl, rfl⟩
noncomputable def slE (S : Nat → Sl) (x : Int32) (q : Nat) (f : Nat → Int32) : Int32 := aIn x 4 (fun k => if (S k).1 = 0 then -11 else if (S k).1 = q then f k else -12)
theorem slE_f {S : Nat → Sl} {x : Int32} {q : Nat} {f : Nat → Int32} (hx : ¬ inR x 4) : slE S x q f = -1 := aIn_f hx
theorem slE_t {S : Nat → Sl} {k q : Nat} {f : Nat → Int32} (hk : k < 4) : slE S (nI k) q f = if (S k).1 = 0 then -11 else if (S k).1 = q then f k else -12 := aIn_t hk (by decide)
theorem cl_slotErrorC {S : Nat → Sl} {x : Int32} {q : Nat} (s : SC h S) (o : okSS S) (hq : q < 3) : Cl G (d + 1) M_X11_slotError [.ref 0, .int x, .int (nI q)] h (qI (slE S x q (fun _ => nI 0)) h) := by
  by_cases hx : inR x 4
  · have q1 := b01_t hx
    obtain ⟨k, hk, rfl⟩ := hx
    rw [slE_t hk]
    have hs := sl_hs hk
    have ok := (o k hk).1
    have s1 := (s k hk).1
    refine ev_start 0 (lv := [some (.ref 0), some (.int (nI k)), some (.int (nI q))]) rfl (by decide) (Nat.le_of_ble_eq_true rfl) ?_
    refine ev_iload_n dX11_slotError_0 rfl ?_
    refine ev_callS (cl_isSlotC) ok_X11_isSlot ml_X11_309 rfl rfl (Nat.le_of_ble_eq_true rfl) dX11_slotError_1 (kI ?_)
    refine ev_if_neN 9 dX11_slotError_4 (by decide) (by omega) (fun c4 => ?_) (fun c4 => ?_)
    · refine ev_aload_n dX11_slotError_9 rfl ?_
      refine ev_getR fl_X11_66 rfl rfl dX11_slotError_10 ?_
      refine ev_iload_n dX11_slotError_13 rfl ?_
      refine ev_aaldN (kd := 1) rfl dX11_slotError_14 (by decide) (by omega) (by omega) (sl_el hk) ?_
      refine ev_getIv (s1) fl_X11_312 hs rfl dX11_slotError_15 ?_
      refine ev_if_neN 24 dX11_slotError_18 (by decide) (by omega) (fun c18 => ?_) (fun c18 => ?_)
      · refine ev_aload_n dX11_slotError_24 rfl ?_
        refine ev_getR fl_X11_66 rfl rfl dX11_slotError_25 ?_
        refine ev_iload_n dX11_slotError_28 rfl ?_
        refine ev_aaldN (kd := 1) rfl dX11_slotError_29 (by decide) (by omega) (by omega) (sl_el hk) ?_
        refine ev_getIv (s1) fl_X11_312 hs rfl dX11_slotError_30 ?_
        refine ev_iload_n dX11_slotError_33 rfl ?_
        refine ev_icmp_neN 41 dX11_slotError_34 (by decide) (by omega) (by omega) (fun c34 => ?_) (fun c34 => ?_)
        · refine ev_bipush (-12) dX11_slotError_41 rfl ?_
          refine ev_iret dX11_slotError_43 rfl ?_
          exact ⟨by rw [if_neg (by omega), if_neg (by omega)], rfl⟩
        · refine ev_iconst (nI 0) dX11_slotError_37 rfl ?_
          refine ev_goto 43 dX11_slotError_38 (by decide) ?_
          refine ev_iret dX11_slotError_43 rfl ?_
          exact ⟨by rw [if_neg (by omega), if_pos (by omega)], rfl⟩
      · refine ev_bipush (-11) dX11_slotError_21 rfl ?_
        refine ev_iret dX11_slotError_23 rfl ?_
        exact ⟨by rw [if_pos (by omega)], rfl⟩
    · omega
  · have q1 := b01_f hx
    rw [slE_f hx]
    refine ev_start 0 (lv := [some (.ref 0), some (.int x), some (.int (nI q))]) rfl (by decide) (Nat.le_of_ble_eq_true rfl) ?_
    refine ev_iload_n dX11_slotError_0 rfl ?_
    refine ev_callS (cl_isSlotC) ok_X11_isSlot ml_X11_309 rfl rfl (Nat.le_of_ble_eq_true rfl) dX11_slotError_1 (kI ?_)
    refine ev_if_neN 9 dX11_slotError_4 (by decide) (by omega) (fun c4 => ?_) (fun c4 => ?_)
    · omega
    · refine ev_iconst (-1) dX11_slotError_7 rfl ?_
      refine ev_iret dX11_slotError_8 rfl ?_
      exact ⟨by with_reducible rfl, rfl⟩
theorem cl_slotErrorM {S : Nat → Sl} {x : Int32} {q : Nat} (s : SM h S) (o : okSS S) (hq : q < 3) : Cl G (d + 2) M_X12_slotError [.ref 67, .int x, .int (nI q)] h (qI (slE S x q (fun _ => nI 0)) h) := by
  by_cases hx : inR x 4
  · have q1 := b01_t hx
    obtain ⟨k, hk, rfl⟩ := hx
    rw [slE_t hk]
    have ok := (o k hk).1
    have s1 := (s k hk).1
    refine ev_start 0 (lv := [some (.ref 67), some (.int (nI k)), some (.int (nI q))]) rfl (by decide) (Nat.le_of_ble_eq_true rfl) ?_
    refine ev_iload_n dX12_slotError_0 rfl ?_
    refine ev_callS (cl_isSlotM) ok_X12_isSlot ml_X12_302 rfl rfl (Nat.le_of_ble_eq_true rfl) dX12_slotError_1 (kI ?_)
    refine ev_if_neN 11 dX12_slotError_4 (by decide) (by omega) (fun c4 => ?_) (fun c4 => ?_)
    · refine ev_aload_n dX12_slotError_11 rfl ?_
      refine ev_getR fl_X12_65 rfl rfl dX12_slotError_12 ?_
      refine ev_iload_n dX12_slotError_15 rfl ?_
      refine ev_ialdv (s1) rfl dX12_slotError_16 (by omega) (by omega) ?_
      refine ev_if_neN 25 dX12_slotError_17 (by decide) (by omega) (fun c17 => ?_) (fun c17 => ?_)
      · refine ev_aload_n dX12_slotError_25 rfl ?_
        refine ev_getR fl_X12_65 rfl rfl dX12_slotError_26 ?_
        refine ev_iload_n dX12_slotError_29 rfl ?_
        refine ev_ialdv (s1) rfl dX12_slotError_30 (by omega) (by omega) ?_
        refine ev_iload_n dX12_slotError_31 rfl ?_
        refine ev_icmp_eqN 40 dX12_slotError_32 (by decide) (by omega) (by omega) (fun c32 => ?_) (fun c32 => ?_)
        · refine ev_iconst (nI 0) dX12_slotError_40 rfl ?_
          refine ev_iret dX12_slotError_41 rfl ?_
          exact ⟨by rw [if_neg (by omega), if_pos (by omega)], rfl⟩
        · refine ev_bipush (-12) dX12_slotError_35 rfl ?_
          refine ev_goto 41 dX12_slotError_37 (by decide) ?_
          refine ev_iret dX12_slotError_41 rfl ?_
          exact ⟨by rw [if_neg (by omega), if_neg (by omega)], rfl⟩
      · refine ev_bipush (-11) dX12_slotError_20 rfl ?_
        refine ev_goto 41 dX12_slotError_22 (by decide) ?_
        refine ev_iret dX12_slotError_41 rfl ?_
        exact ⟨by rw [if_pos (by omega)], rfl⟩
    · omega
  · have q1 := b01_f hx
    rw [slE_f hx]
    refine ev_start 0 (lv := [some (.ref 67), some (.int x), some (.int (nI q))]) rfl (by decide) (Nat.le_of_ble_eq_true rfl) ?_
    refine ev_iload_n dX12_slotError_0 rfl ?_
    refine ev_callS (cl_isSlotM) ok_X12_isSlot ml_X12_302 rfl rfl (Nat.le_of_ble_eq_true rfl) dX12_slotError_1 (kI ?_)
    refine ev_if_neN 11 dX12_slotError_4 (by decide) (by omega) (fun c4 => ?_) (fun c4 => ?_)
    · omega
    · refine ev_iconst (-1) dX12_slotError_7 rfl ?_
      refine ev_goto 41 dX12_slotError_8 (by decide) ?_
      refine ev_iret dX12_slotError_41 rfl ?_
      exact ⟨rfl, rfl⟩
/-! save -/
noncomputable def saA (L : List Nat) (x : Int32) : Int32 := aIn x 4 (fun _ => nI L.length)
noncomputable def saS (S : Nat → Sl) (L : List Nat) (x : Int32) : Nat → Sl := if b01 (inR x 4) = 0 then S else upS S x.toNatClampNeg (1, L.map nI)
theorem saS_ok {S : Nat → Sl} {L : List Nat} {x : Int32} (o : okSS S) (l : okL L) : okSS (saS S L x) := by
  unfold saS
  by_cases c : b01 (inR x 4) = 0
  · rw [if_pos c]; exact o
  · rw [if_neg c]
    have := l.1
    exact okSS_up o ⟨by simp, by show (L.map nI).length ≤ 30; rw [List.length_map]; omega, fun _ => ⟨L, l, rfl⟩⟩
theorem cl_saveListC {S : Nat → Sl} {L : List Nat} {x : Int32} (s : SC h S) (r : rowIs h 40 L) (l : okL L) : Cl G (d + 2) M_X11_saveList [.ref 0, .int x] h (fun rv h' => rv = some (.int (saA L x)) ∧ same (fun j => j < 51 ∨ 63 < j) h h' ∧ SC h' (saS S L x)) := by
  have l24 := l.1
  unfold saA saS
  by_cases hx : inR x 4
  · have q1 := b01_t hx
    rw [q1, if_neg (show ¬ 1 = 0 by decide)]
    obtain ⟨k, hk, rfl⟩ := hx
    rw [aIn_t hk (by decide), nI_clamp (by omega)]
    have hs := sl_hs hk
    have hrow := sl_row hk
    obtain ⟨hr, ha, -⟩ := sl_row hk
    have r2 : rowIs (m_put h (52 + 3 * k) 0 (nI 1)) 40 L := ⟨by rw [mp_k (by omega)]; exact r.1, by rw [mp_k (by omega)]; exact r.2⟩
    have rc := rowIs_copy (p := 53 + 3 * k) r2
    have e3 : (rowCopy (m_put h (52 + 3 * k) 0 (nI 1)) (53 + 3 * k) 40 L.length).1 40 1 = nI L.length := by
      have := (same_copy (P := fun j => j < 51) (h := m_put h (52 + 3 * k) 0 (nI 1)) (p := 53 + 3 * k) (q := 40) (s := L.length) (by omega) (by omega) 40 (by decide)).1
      rw [this]; exact r2.1
    refine ev_start 0 (lv := [some (.ref 0), some (.int (nI k))]) rfl (by decide) (Nat.le_of_ble_eq_true rfl) ?_
    refine ev_iload_n dX11_saveList_0 rfl ?_
    refine ev_callS (cl_isSlotC) ok_X11_isSlot ml_X11_309 rfl rfl (Nat.le_of_ble_eq_true rfl) dX11_saveList_1 (kI ?_)
    refine ev_if_neN 9 dX11_saveList_4 (by decide) (by omega) (fun c4 => ?_) (fun c4 => ?_)
    · refine ev_aload_n dX11_saveList_9 rfl ?_
      refine ev_getR fl_X11_66 rfl rfl dX11_saveList_10 ?_
      refine ev_iload_n dX11_saveList_13 rfl ?_
      refine ev_aaldN (kd := 1) rfl dX11_saveList_14 (by decide) (by omega) (by omega) (sl_el hk) ?_
      refine ev_iconst (nI 1) dX11_saveList_15 rfl ?_
      refine ev_putI fp_X11_312 hs rfl rfl rfl dX11_saveList_16 ?_
      refine ev_aload_n dX11_saveList_19 rfl ?_
      refine ev_getR fl_X11_66 rfl rfl dX11_saveList_20 ?_
      refine ev_iload_n dX11_saveList_23 rfl ?_
      refine ev_aaldN (kd := 1) rfl dX11_saveList_24 (by decide) (by omega) (by omega) (sl_el hk) ?_
      refine ev_getR fl_X11_315 hs rfl dX11_saveList_25 ?_
      refine ev_aload_n dX11_saveList_28 rfl ?_
      refine ev_getR fl_X11_53 rfl rfl dX11_saveList_29 ?_
      refine ev_getR fl_X11_253 rfl rfl dX11_saveList_32 ?_
      refine ev_callV (cl_copyFrom hrow row_40 (by omega) (by omega) r2.1 (by omega) (by omega)) ok_X7_copyFrom ml_X11_293 hr rfl rfl rfl (Nat.le_of_ble_eq_true rfl) dX11_saveList_35 (kV ?_)
      refine ev_aload_n dX11_saveList_38 rfl ?_
      refine ev_getR fl_X11_53 rfl rfl dX11_saveList_39 ?_
      refine ev_getR fl_X11_253 rfl rfl dX11_saveList_42 ?_
      refine ev_getIv (e3) fl_X11_148 rfl rfl dX11_saveList_45 ?_
      refine ev_iret dX11_saveList_48 rfl ?_
      refine ⟨rfl, (same_put (by omega)).tr (same_copy (by omega) (by omega)), SC_up s ((same_put (by omega)).tr (same_copy (by omega) (by omega))) ⟨?_, fun _ => ⟨by rw [List.length_map]; exact rc.1, fun i hi => ?_⟩⟩⟩
      · rw [(same_copy (P := fun j => j = 52 + 3 * k) (by omega) (by omega) (52 + 3 * k) rfl).1]; exact mp_eq _ _ _ _
      · rw [List.length_map] at hi
        rw [map_get hi]; exact rc.2 i hi
    · omega
  · have q1 := b01_f hx
    rw [q1, if_pos (show 0 = 0 from rfl), aIn_f hx]
    refine ev_start 0 (lv := [some (.ref 0), some (.int x)]) rfl (by decide) (Nat.le_of_ble_eq_true rfl) ?_
    refine ev_iload_n dX11_saveList_0 rfl ?_
    refine ev_callS (cl_isSlotC) ok_X11_isSlot ml_X11_309 rfl rfl (Nat.le_of_ble_eq_true rfl) dX11_saveList_1 (kI ?_)
    refine ev_if_neN 9 dX11_saveList_4 (by decide) (by omega) (fun c4 => ?_) (fun c4 => ?_)
    · omega
    · refine ev_iconst (-1) dX11_saveList_7 rfl ?_
      refine ev_iret dX11_saveList_8 rfl ?_
      exact ⟨rfl, same.rf, s⟩
theorem cl_saveListM {S : Nat → Sl} {L : List Nat} {x : Int32} (s : SM h S) (r : lM h L) (l : okL L) : Cl G (d + 2) M_X12_saveList [.ref 67, .int x] h (fun rv h' => rv = some (.int (saA L x)) ∧ mS h h' ∧ SM h' (saS S L x)) := by
  have l24 := l.1
  unfold saA saS
  by_cases hx : inR x 4
  · have q1 := b01_t hx
    rw [q1, if_neg (show ¬ 1 = 0 by decide)]
    obtain ⟨k, hk, rfl⟩ := hx
    rw [aIn_t hk (by decide), nI_clamp (by omega)]
    have ha := sl_ha hk
    have loop : ∀ h0 : MH, h0.1 67 18 = nI L.length → hold (h0.1 78) L → mS h h0 → (∀ j, j ≠ k → h0.1 83 j = h.1 83 j) → (∀ j, j ≠ k → h0.1 84 j = h.1 84 j) → (∀ j, 86 ≤ j → h0.1 j = h.1 j) → h0.1 83 k = nI 1 → h0.1 84 k = nI L.length → ∀ (n i : Nat) (f : Nat → Int32), i + n = L.length → (∀ j, j < i → f j = nI (L.getD j 0)) → Ev G (d + 2) M_X12_saveList 28 [some (.ref 67), some (.int (nI k)), some (.int (nI i))] [] (m_putA h0 (86 + k) f) (fun rv h' => rv = some (.int (nI L.length)) ∧ mS h h' ∧ SM h' (upS S k (1, L.map nI))) := by
      intro h0 e0 hL m0 f1 f2 f3 k1 k2 n
      have e1 : ∀ f, (m_putA h0 (86 + k) f).1 67 18 = nI L.length := fun f => by rw [ma_k (by omega)]; exact e0
      induction n with
      | zero =>
        intro i f hi hf
        obtain rfl : i = L.length := by omega
        refine ev_iload_n dX12_saveList_28 rfl ?_
        refine ev_aload_n dX12_saveList_29 rfl ?_
        refine ev_getIv (e1 f) fl_X12_251 rfl rfl dX12_saveList_30 ?_
        refine ev_icmp_geN 56 dX12_saveList_33 (by decide) (by omega) (by omega) (fun c33 => ?_) (fun c33 => ?_)
        · refine ev_aload_n dX12_saveList_56 rfl ?_
          refine ev_getIv (e1 f) fl_X12_251 rfl rfl dX12_saveList_57 ?_
          refine ev_iret dX12_saveList_60 rfl ?_
          refine ⟨rfl, m0.tr (mod_a (by omega) (by omega)), SM_up s (fun j hj => by rw [ma_k (by omega)]; exact f1 j hj) (fun j hj => by rw [ma_k (by omega)]; exact f2 j hj) (fun j hj => by rw [ma_k (by omega)]; exact f3 _ (by omega)) ⟨by rw [ma_k (by omega)]; exact k1, fun _ => ⟨by rw [ma_k (by omega), List.length_map]; exact k2, fun i hi => ?_⟩⟩⟩
          rw [List.length_map] at hi
          rw [map_get hi, ma_eq]; exact hf i hi
        · omega
      | succ n ih =>
        intro i f hi hf
        refine ev_iload_n dX12_saveList_28 rfl ?_
        refine ev_aload_n dX12_saveList_29 rfl ?_
        refine ev_getIv (e1 f) fl_X12_251 rfl rfl dX12_saveList_30 ?_
        refine ev_icmp_geN 56 dX12_saveList_33 (by decide) (by omega) (by omega) (fun c33 => ?_) (fun c33 => ?_)
        · omega
        · refine ev_aload_n dX12_saveList_36 rfl ?_
          refine ev_getR fl_X12_73 rfl rfl dX12_saveList_37 ?_
          refine ev_iload_n dX12_saveList_40 rfl ?_
          refine ev_aaldN (kd := 2) rfl dX12_saveList_41 (by decide) (by omega) (by omega) (sl_ea hk) ?_
          refine ev_iload_n dX12_saveList_42 rfl ?_
          refine ev_aload_n dX12_saveList_43 rfl ?_
          refine ev_getR fl_X12_50 rfl rfl dX12_saveList_44 ?_
          refine ev_iload_n dX12_saveList_47 rfl ?_
          refine ev_ialdv ((show (m_putA h0 (86 + k) f).1 78 i = nI (L.getD i 0) by rw [ma_k (by omega)]; exact hL i (by omega))) rfl dX12_saveList_48 (by omega) (by omega) ?_
          refine ev_iastN ha dX12_saveList_49 (by omega) (by omega) ?_
          rw [ma_set]
          refine ev_inc2N dX12_saveList_50 (by decide) rfl ?_
          refine ev_goto 28 dX12_saveList_53 (by decide) ?_
          exact ih (i + 1) _ (by omega) (fun j hj => by
          by_cases e : j = i
          · subst e; rw [pk_us]
          · rw [pk_un e]; exact hf j (by omega))
    refine ev_start 1 (lv := [some (.ref 67), some (.int (nI k)), none]) rfl (by decide) (Nat.le_of_ble_eq_true rfl) ?_
    refine ev_iload_n dX12_saveList_0 rfl ?_
    refine ev_callS (cl_isSlotM) ok_X12_isSlot ml_X12_302 rfl rfl (Nat.le_of_ble_eq_true rfl) dX12_saveList_1 (kI ?_)
    refine ev_if_neN 9 dX12_saveList_4 (by decide) (by omega) (fun c4 => ?_) (fun c4 => ?_)
    · refine ev_aload_n dX12_saveList_9 rfl ?_
      refine ev_getR fl_X12_65 rfl rfl dX12_saveList_10 ?_
      refine ev_iload_n dX12_saveList_13 rfl ?_
      refine ev_iconst (nI 1) dX12_saveList_14 rfl ?_
      refine ev_iastN rfl dX12_saveList_15 (by omega) (by omega) ?_
      refine ev_aload_n dX12_saveList_16 rfl ?_
      refine ev_getR fl_X12_68 rfl rfl dX12_saveList_17 ?_
      refine ev_iload_n dX12_saveList_20 rfl ?_
      refine ev_aload_n dX12_saveList_21 rfl ?_
      refine ev_getIv ((show (m_put h 83 k (nI 1)).1 67 18 = nI L.length by rw [mp_k (by decide)]; exact r.1)) fl_X12_251 rfl rfl dX12_saveList_22 ?_
      refine ev_iastN rfl dX12_saveList_25 (by omega) (by omega) ?_
      refine ev_iconst (nI 0) dX12_saveList_26 rfl ?_
      refine ev_ist2 dX12_saveList_27 (by decide) rfl ?_
      have q := loop (m_put (m_put h 83 k (nI 1)) 84 k (nI L.length)) (by rw [mp_k (by decide), mp_k (by decide)]; exact r.1) (by rw [mp_k (by decide), mp_k (by decide)]; exact r.2) ((mod_p (by simp) (by decide)).tr (mod_p (by simp) (by decide))) (fun j hj => by rw [mp_k (by decide), mp_j hj]) (fun j hj => by rw [mp_j hj, mp_k (by decide)]) (fun j hj => by rw [mp_k (by omega), mp_k (by omega)]) (by rw [mp_k (by decide)]; exact mp_eq _ _ _ _) (mp_eq _ _ _ _) L.length 0 ((m_put (m_put h 83 k (nI 1)) 84 k (nI L.length)).1 (86 + k)) (by omega) (fun j hj => absurd hj (Nat.not_lt_zero _))
      rw [ma_self] at q
      exact q
    · omega
  · have q1 := b01_f hx
    rw [q1, if_pos (show 0 = 0 from rfl), aIn_f hx]
    refine ev_start 1 (lv := [some (.ref 67), some (.int x), none]) rfl (by decide) (Nat.le_of_ble_eq_true rfl) ?_
    refine ev_iload_n dX12_saveList_0 rfl ?_
    refine ev_callS (cl_isSlotM) ok_X12_isSlot ml_X12_302 rfl rfl (Nat.le_of_ble_eq_true rfl) dX12_saveList_1 (kI ?_)
    refine ev_if_neN 9 dX12_saveList_4 (by decide) (by omega) (fun c4 => ?_) (fun c4 => ?_)
    · omega
    · refine ev_iconst (-1) dX12_saveList_7 rfl ?_
      refine ev_iret dX12_saveList_8 rfl ?_
      exact ⟨rfl, mod.rf, s⟩
end SLOT
