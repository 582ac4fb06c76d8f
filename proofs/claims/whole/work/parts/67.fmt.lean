section FMT
variable {G : MG} {d : Nat} {h : MH}
def fmV (m : Nat) : Nat → List Nat
  | 0 => if m = 0 then [49] else []
  | v + 1 => fmV m v ++ ((if 0 < ex m v then [97 + v] else []) ++ (if 1 < ex m v then [48 + ex m v] else []))
def fmF (L : List Nat) : Nat → List Nat
  | 0 => []
  | i + 1 => (fmF L i ++ (if 0 < i then [44] else [])) ++ fmV (L.getD i 0) 7
def fm (L : List Nat) : List Nat := fmF L L.length
theorem fmV_0 (v : Nat) : fmV 0 v = [49] := by
  induction v with
  | zero => rfl
  | succ v ih =>
    have e : ex 0 v = 0 := by unfold ex; rw [Nat.zero_div]
    rw [fmV, ih, e]; rfl
theorem fmV_len (m v : Nat) (hv : v ≤ 7) : (fmV m v).length ≤ 14 ∧ (m ≠ 0 → (fmV m v).length ≤ 2 * v) := by
  by_cases c : m = 0
  · subst c; rw [fmV_0]; exact ⟨by decide, fun z => absurd rfl z⟩
  · have key : (fmV m v).length ≤ 2 * v := by
      induction v with
      | zero => rw [fmV, if_neg c]; exact Nat.le_refl _
      | succ v ih =>
        have := ih (by omega)
        rw [fmV, List.length_append, List.length_append]
        have a : (if 0 < ex m v then [97 + v] else []).length ≤ 1 := by split <;> simp
        have b : (if 1 < ex m v then [48 + ex m v] else []).length ≤ 1 := by split <;> simp
        omega
    exact ⟨by omega, fun _ => key⟩
theorem fmF_len (L : List Nat) (i : Nat) : (fmF L i).length = 0 ∧ i = 0 ∨ (fmF L i).length + 1 ≤ 15 * i := by
  induction i with
  | zero => exact Or.inl ⟨rfl, rfl⟩
  | succ i ih =>
    refine Or.inr ?_
    have f := (fmV_len (L.getD i 0) 7 (by decide)).1
    rw [fmF, List.length_append, List.length_append]
    by_cases c : 0 < i
    · rw [if_pos c]; simp only [List.length_singleton]; omega
    · rw [if_neg c]; simp only [List.length_nil]; omega
theorem fmx1 {K : List Nat} {m v : Nat} (c : ¬ 0 < ex m v) : K ++ fmV m (v + 1) = K ++ fmV m v := by
  rw [fmV, if_neg c, if_neg (by omega)]; simp
theorem fmx2 {K : List Nat} {m v : Nat} (c : 0 < ex m v) (c2 : ¬ 1 < ex m v) : K ++ fmV m (v + 1) = (K ++ fmV m v) ++ [97 + v] := by
  rw [fmV, if_pos c, if_neg c2]; simp
theorem fmx3 {K : List Nat} {m v : Nat} (c2 : 1 < ex m v) : K ++ fmV m (v + 1) = ((K ++ fmV m v) ++ [97 + v]) ++ [48 + ex m v] := by
  rw [fmV, if_pos (by omega), if_pos c2]; simp
theorem cl_addR {p cap x : Nat} {K : List Nat} (hr : isRow p cap) (r : rowIs h p K) (hk : K.length < cap) : Cl G d M_X7_add [.ref p, .int (nI x)] h (fun rv h' => rv = some (.int (nI 1)) ∧ same (fun k => k ≠ p ∧ k ≠ p + 1) h h' ∧ rowIs h' p (K ++ [x])) :=
  cl_mono (fun rv h1 q => by obtain ⟨q1, rfl⟩ := q; exact ⟨q1, same_add (by simp) (by simp), rowIs_add r⟩) (cl_add hr r.1 hk)
abbrev sT (h h' : MH) : Prop := same (fun k => k ≠ 44 ∧ k ≠ 45) h h'
theorem cl_formatMonomial {K : List Nat} {m : Nat} (r : rowIs h 44 K) (hm : m < 16384) (hk : K.length + 14 ≤ 359) : Cl G (d + 1) M_X5_formatMonomial [.ref 39, .int (nI m)] h (fun rv h' => rv = none ∧ sT h h' ∧ rowIs h' 44 (K ++ fmV m 7)) := by
  have loop : ∀ (k v : Nat) (h1 : MH) (x3 : Option Value), v + k = 7 → sT h h1 → rowIs h1 44 (K ++ fmV m v) → Ev G (d + 1) M_X5_formatMonomial 16 [some (.ref 39), some (.int (nI m)), some (.int (nI v)), x3] [] h1 (fun rv h' => rv = none ∧ sT h h' ∧ rowIs h' 44 (K ++ fmV m 7)) := by
    intro k
    induction k with
    | zero =>
      intro v h1 x3 hv s1 r1
      obtain rfl : v = 7 := by omega
      refine ev_iload_n dX5_formatMonomial_16 rfl ?_
      refine ev_bipush (nI 7) dX5_formatMonomial_17 rfl ?_
      refine ev_icmp_geN 67 dX5_formatMonomial_19 (by decide) (by omega) (by omega) (fun c19 => ?_) (fun c19 => ?_)
      · refine ev_ret dX5_formatMonomial_67 rfl ?_
        exact ⟨rfl, s1, r1⟩
      · omega
    | succ k ih =>
      intro v h1 x3 hv s1 r1
      have xl := ex_lt m v
      have l0 : (K ++ fmV m v).length = K.length + (fmV m v).length := List.length_append
      have l1 := (fmV_len m (v + 1) (by omega)).1
      have l2 : (fmV m (v + 1)).length = (fmV m v).length + ((if 0 < ex m v then [97 + v] else []).length + (if 1 < ex m v then [48 + ex m v] else []).length) := by rw [fmV, List.length_append, List.length_append]
      have l3 : 0 < ex m v → (if 0 < ex m v then [97 + v] else []).length = 1 := fun z => by rw [if_pos z]; rfl
      have l4 : 1 < ex m v → (if 1 < ex m v then [48 + ex m v] else []).length = 1 := fun z => by rw [if_pos z]; rfl
      have l5 : ((K ++ fmV m v) ++ [97 + v]).length = K.length + (fmV m v).length + 1 := by rw [List.length_append, l0]; rfl
      refine ev_iload_n dX5_formatMonomial_16 rfl ?_
      refine ev_bipush (nI 7) dX5_formatMonomial_17 rfl ?_
      refine ev_icmp_geN 67 dX5_formatMonomial_19 (by decide) (by omega) (by omega) (fun c19 => ?_) (fun c19 => ?_)
      · omega
      · refine ev_iload_n dX5_formatMonomial_22 rfl ?_
        refine ev_iload_n dX5_formatMonomial_23 rfl ?_
        refine ev_callS (cl_exponentOf (by omega) (by omega)) ok_X6_exponentOf ml_X5_51 rfl rfl (Nat.le_of_ble_eq_true rfl) dX5_formatMonomial_24 (kI ?_)
        refine ev_ist3 dX5_formatMonomial_27 (by decide) rfl ?_
        refine ev_iload_n dX5_formatMonomial_28 rfl ?_
        refine ev_if_leN 44 dX5_formatMonomial_29 (by decide) (by omega) (fun c29 => ?_) (fun c29 => ?_)
        · refine ev_iload_n dX5_formatMonomial_44 rfl ?_
          refine ev_iconst (nI 1) dX5_formatMonomial_45 rfl ?_
          refine ev_icmp_leN 61 dX5_formatMonomial_46 (by decide) (by omega) (by omega) (fun c46 => ?_) (fun c46 => ?_)
          · refine ev_inc2N dX5_formatMonomial_61 (by decide) rfl ?_
            refine ev_goto 16 dX5_formatMonomial_64 (by decide) ?_
            exact ih (v + 1) h1 _ (by omega) s1 (by rw [fmx1 (by omega)]; exact r1)
          · omega
        · refine ev_aload_n dX5_formatMonomial_32 rfl ?_
          refine ev_getR fl_X5_23 rfl rfl dX5_formatMonomial_33 ?_
          refine ev_bipush (nI 97) dX5_formatMonomial_36 rfl ?_
          refine ev_iload_n dX5_formatMonomial_38 rfl ?_
          refine ev_iaddN dX5_formatMonomial_39 ?_
          refine ev_callV (cl_addR row_44 r1 (by have := l3 (by omega); omega)) ok_X7_add ml_X5_38 rfl rfl rfl rfl (Nat.le_of_ble_eq_true rfl) dX5_formatMonomial_40 ?_
          rintro rv h2 ⟨rfl, s2, r2⟩
          refine ev_pop dX5_formatMonomial_43 rfl ?_
          refine ev_iload_n dX5_formatMonomial_44 rfl ?_
          refine ev_iconst (nI 1) dX5_formatMonomial_45 rfl ?_
          refine ev_icmp_leN 61 dX5_formatMonomial_46 (by decide) (by omega) (by omega) (fun c46 => ?_) (fun c46 => ?_)
          · refine ev_inc2N dX5_formatMonomial_61 (by decide) rfl ?_
            refine ev_goto 16 dX5_formatMonomial_64 (by decide) ?_
            exact ih (v + 1) h2 _ (by omega) (s1.tr s2) (by rw [fmx2 (by omega) (by omega)]; exact r2)
          · refine ev_aload_n dX5_formatMonomial_49 rfl ?_
            refine ev_getR fl_X5_23 rfl rfl dX5_formatMonomial_50 ?_
            refine ev_bipush (nI 48) dX5_formatMonomial_53 rfl ?_
            refine ev_iload_n dX5_formatMonomial_55 rfl ?_
            refine ev_iaddN dX5_formatMonomial_56 ?_
            refine ev_callV (cl_addR row_44 r2 (by have := l3 (by omega); have := l4 (by omega); omega)) ok_X7_add ml_X5_38 rfl rfl rfl rfl (Nat.le_of_ble_eq_true rfl) dX5_formatMonomial_57 ?_
            rintro rv h3 ⟨rfl, s3, r3⟩
            refine ev_pop dX5_formatMonomial_60 rfl ?_
            refine ev_inc2N dX5_formatMonomial_61 (by decide) rfl ?_
            refine ev_goto 16 dX5_formatMonomial_64 (by decide) ?_
            exact ih (v + 1) h3 _ (by omega) ((s1.tr s2).tr s3) (by rw [fmx3 (by omega)]; exact r3)
  by_cases c : m = 0
  · subst c
    refine ev_start 2 (lv := [some (.ref 39), some (.int (nI 0)), none, none]) rfl (by decide) (Nat.le_of_ble_eq_true rfl) ?_
    refine ev_iload_n dX5_formatMonomial_0 rfl ?_
    refine ev_if_neN 14 dX5_formatMonomial_1 (by decide) (by omega) (fun c1 => ?_) (fun c1 => ?_)
    · omega
    · refine ev_aload_n dX5_formatMonomial_4 rfl ?_
      refine ev_getR fl_X5_23 rfl rfl dX5_formatMonomial_5 ?_
      refine ev_bipush (nI 49) dX5_formatMonomial_8 rfl ?_
      refine ev_callV (cl_addR row_44 r (by omega)) ok_X7_add ml_X5_38 rfl rfl rfl rfl (Nat.le_of_ble_eq_true rfl) dX5_formatMonomial_10 ?_
      rintro rv h1 ⟨rfl, s1, r1⟩
      refine ev_pop dX5_formatMonomial_13 rfl ?_
      refine ev_iconst (nI 0) dX5_formatMonomial_14 rfl ?_
      refine ev_ist2 dX5_formatMonomial_15 (by decide) rfl ?_
      exact loop 7 0 h1 _ (by omega) s1 r1
  · have e0 : fmV m 0 = [] := by rw [fmV, if_neg c]
    refine ev_start 2 (lv := [some (.ref 39), some (.int (nI m)), none, none]) rfl (by decide) (Nat.le_of_ble_eq_true rfl) ?_
    refine ev_iload_n dX5_formatMonomial_0 rfl ?_
    refine ev_if_neN 14 dX5_formatMonomial_1 (by decide) (by omega) (fun c1 => ?_) (fun c1 => ?_)
    · refine ev_iconst (nI 0) dX5_formatMonomial_14 rfl ?_
      refine ev_ist2 dX5_formatMonomial_15 (by decide) rfl ?_
      exact loop 7 0 h _ (by omega) same.rf (by rw [e0, List.append_nil]; exact r)
    · omega
theorem cl_formatted {L : List Nat} (r : rowIs h 40 L) (o : okL L) : Cl G (d + 2) M_X5_formatted [.ref 39] h (fun rv h' => rv = some (.ref 44) ∧ sT h h' ∧ rowIs h' 44 (fm L)) := by
  have l24 := o.1
  have loop : ∀ (k i : Nat) (h1 : MH), i + k = L.length → sT h h1 → rowIs h1 44 (fmF L i) → Ev G (d + 2) M_X5_formatted 10 [some (.ref 39), some (.int (nI i))] [] h1 (fun rv h' => rv = some (.ref 44) ∧ sT h h' ∧ rowIs h' 44 (fm L)) := by
    intro k
    induction k with
    | zero =>
      intro i h1 hi s1 r1
      obtain rfl : i = L.length := by omega
      have r40 := rowIs_same r s1 (by decide) (by decide)
      refine ev_iload_n dX5_formatted_10 rfl ?_
      refine ev_aload_n dX5_formatted_11 rfl ?_
      refine ev_getR fl_X5_14 rfl rfl dX5_formatted_12 ?_
      refine ev_getIv (r40.1) fl_X5_26 rfl rfl dX5_formatted_15 ?_
      refine ev_icmp_geN 54 dX5_formatted_18 (by decide) (by omega) (by omega) (fun c18 => ?_) (fun c18 => ?_)
      · refine ev_aload_n dX5_formatted_54 rfl ?_
        refine ev_getR fl_X5_23 rfl rfl dX5_formatted_55 ?_
        refine ev_aret dX5_formatted_58 rfl ?_
        exact ⟨rfl, s1, r1⟩
      · omega
    | succ k ih =>
      intro i h1 hi s1 r1
      have r40 := rowIs_same r s1 (by decide) (by decide)
      have fl := fmF_len L i
      have oi := o.2 i (by omega)
      have lc : (fmF L i ++ [44]).length = (fmF L i).length + 1 := by rw [List.length_append]; rfl
      refine ev_iload_n dX5_formatted_10 rfl ?_
      refine ev_aload_n dX5_formatted_11 rfl ?_
      refine ev_getR fl_X5_14 rfl rfl dX5_formatted_12 ?_
      refine ev_getIv (r40.1) fl_X5_26 rfl rfl dX5_formatted_15 ?_
      refine ev_icmp_geN 54 dX5_formatted_18 (by decide) (by omega) (by omega) (fun c18 => ?_) (fun c18 => ?_)
      · omega
      · refine ev_iload_n dX5_formatted_21 rfl ?_
        refine ev_if_leN 35 dX5_formatted_22 (by decide) (by omega) (fun c22 => ?_) (fun c22 => ?_)
        · refine ev_aload_n dX5_formatted_35 rfl ?_
          refine ev_aload_n dX5_formatted_36 rfl ?_
          refine ev_getR fl_X5_14 rfl rfl dX5_formatted_37 ?_
          refine ev_getR fl_X5_34 rfl rfl dX5_formatted_40 ?_
          refine ev_iload_n dX5_formatted_43 rfl ?_
          refine ev_ialdv (r40.2 i (by omega)) rfl dX5_formatted_44 (by omega) (by omega) ?_
          refine ev_callV (cl_formatMonomial r1 oi (by omega)) ok_X5_formatMonomial ml_X5_82 rfl rfl rfl rfl (Nat.le_of_ble_eq_true rfl) dX5_formatted_45 ?_
          rintro rv h2 ⟨rfl, s2, r2⟩
          refine ev_inc1N dX5_formatted_48 (by decide) rfl ?_
          refine ev_goto 10 dX5_formatted_51 (by decide) ?_
          exact ih (i + 1) h2 (by omega) (s1.tr s2) (by rw [fmF, if_neg (by omega), List.append_nil]; exact r2)
        · refine ev_aload_n dX5_formatted_25 rfl ?_
          refine ev_getR fl_X5_23 rfl rfl dX5_formatted_26 ?_
          refine ev_bipush (nI 44) dX5_formatted_29 rfl ?_
          refine ev_callV (cl_addR row_44 r1 (by omega)) ok_X7_add ml_X5_38 rfl rfl rfl rfl (Nat.le_of_ble_eq_true rfl) dX5_formatted_31 ?_
          rintro rv h2 ⟨rfl, s2, r2⟩
          have r42 := rowIs_same r40 s2 (by decide) (by decide)
          refine ev_pop dX5_formatted_34 rfl ?_
          refine ev_aload_n dX5_formatted_35 rfl ?_
          refine ev_aload_n dX5_formatted_36 rfl ?_
          refine ev_getR fl_X5_14 rfl rfl dX5_formatted_37 ?_
          refine ev_getR fl_X5_34 rfl rfl dX5_formatted_40 ?_
          refine ev_iload_n dX5_formatted_43 rfl ?_
          refine ev_ialdv (r42.2 i (by omega)) rfl dX5_formatted_44 (by omega) (by omega) ?_
          refine ev_callV (cl_formatMonomial r2 oi (by omega)) ok_X5_formatMonomial ml_X5_82 rfl rfl rfl rfl (Nat.le_of_ble_eq_true rfl) dX5_formatted_45 ?_
          rintro rv h3 ⟨rfl, s3, r3⟩
          refine ev_inc1N dX5_formatted_48 (by decide) rfl ?_
          refine ev_goto 10 dX5_formatted_51 (by decide) ?_
          exact ih (i + 1) h3 (by omega) ((s1.tr s2).tr s3) (by rw [fmF, if_pos (by omega)]; exact r3)
  refine ev_start 1 (lv := [some (.ref 39), none]) rfl (by decide) (Nat.le_of_ble_eq_true rfl) ?_
  refine ev_aload_n dX5_formatted_0 rfl ?_
  refine ev_getR fl_X5_23 rfl rfl dX5_formatted_1 ?_
  refine ev_iconst (nI 0) dX5_formatted_4 rfl ?_
  refine ev_putI fp_X5_26 rfl rfl rfl rfl dX5_formatted_5 ?_
  refine ev_iconst (nI 0) dX5_formatted_8 rfl ?_
  refine ev_ist1 dX5_formatted_9 (by decide) rfl ?_
  exact loop L.length 0 _ (by omega) (same_put (by decide)) ⟨mp_eq _ _ _ _, hold_nil _⟩
theorem fm_len {L : List Nat} (o : okL L) : (fm L).length ≤ 359 := by
  have := fmF_len L L.length
  have := o.1
  unfold fm
  omega
theorem cl_formattedLengthC {L : List Nat} (r : rowIs h 40 L) (o : okL L) : Cl G (d + 3) M_X11_formattedLength [.ref 0] h (fun rv h' => rv = some (.int (nI (fm L).length)) ∧ sT h h') := by
  refine ev_start 0 (lv := [some (.ref 0)]) rfl (by decide) (Nat.le_of_ble_eq_true rfl) ?_
  refine ev_aload_n dX11_formattedLength_0 rfl ?_
  refine ev_getR fl_X11_53 rfl rfl dX11_formattedLength_1 ?_
  refine ev_callV (cl_formatted r o) ok_X5_formatted ml_X11_306 rfl rfl rfl rfl (Nat.le_of_ble_eq_true rfl) dX11_formattedLength_4 ?_
  rintro rv h1 ⟨rfl, s1, r1⟩
  refine ev_getIv (r1.1) fl_X11_148 rfl rfl dX11_formattedLength_7 ?_
  refine ev_iret dX11_formattedLength_10 rfl ?_
  exact ⟨rfl, s1⟩
theorem cl_formattedByteC {L : List Nat} {x : Int32} (r : rowIs h 40 L) (o : okL L) : Cl G (d + 3) M_X11_formattedByte [.ref 0, .int x] h (fun rv h' => rv = some (.int (itL (fm L) x)) ∧ sT h h') := by
  have fl := fm_len o
  refine ev_start 0 (lv := [some (.ref 0), some (.int x)]) rfl (by decide) (Nat.le_of_ble_eq_true rfl) ?_
  refine ev_aload_n dX11_formattedByte_0 rfl ?_
  refine ev_getR fl_X11_53 rfl rfl dX11_formattedByte_1 ?_
  refine ev_callV (cl_formatted r o) ok_X5_formatted ml_X11_306 rfl rfl rfl rfl (Nat.le_of_ble_eq_true rfl) dX11_formattedByte_4 ?_
  rintro rv h1 ⟨rfl, s1, r1⟩
  refine ev_iload_n dX11_formattedByte_7 rfl ?_
  refine ev_callS (cl_itemOrError row_44 r1.1 fl) ok_X11_itemOrError ml_X11_151 rfl rfl (Nat.le_of_ble_eq_true rfl) dX11_formattedByte_8 (kI ?_)
  refine ev_iret dX11_formattedByte_11 rfl ?_
  exact ⟨by rw [itL_hold (show (fm L).length < 2 ^ 31 by omega) r1.2 x], s1⟩
/-! the reference's text -/
def fR (h : MH) (K : List Nat) : Prop := h.1 67 25 = nI K.length ∧ hold (h.1 82) K
abbrev mT (h h' : MH) : Prop := mod (fun k => k ≠ 82) (fun j => j ≠ 25) h h'
theorem cl_write {K : List Nat} {x : Nat} (r : fR h K) (hk : K.length < 400) : Cl G d M_X12_write [.ref 67, .int (nI x)] h (fun rv h' => rv = none ∧ mT h h' ∧ fR h' (K ++ [x])) := by
  refine ev_start 0 (lv := [some (.ref 67), some (.int (nI x))]) rfl (by decide) (Nat.le_of_ble_eq_true rfl) ?_
  refine ev_aload_n dX12_write_0 rfl ?_
  refine ev_getR fl_X12_62 rfl rfl dX12_write_1 ?_
  refine ev_aload_n dX12_write_4 rfl ?_
  refine ev_getIv (r.1) fl_X12_293 rfl rfl dX12_write_5 ?_
  refine ev_iload_n dX12_write_8 rfl ?_
  refine ev_iastN rfl dX12_write_9 (by omega) (by omega) ?_
  refine ev_aload_n dX12_write_10 rfl ?_
  refine ev_dup dX12_write_11 rfl ?_
  refine ev_getIv ((show _ = nI K.length by rw [mp_k (by decide)]; exact r.1)) fl_X12_293 rfl rfl dX12_write_12 ?_
  refine ev_iconst (nI 1) dX12_write_15 rfl ?_
  refine ev_iaddN dX12_write_16 ?_
  refine ev_putI fp_X12_293 rfl rfl rfl rfl dX12_write_17 ?_
  refine ev_ret dX12_write_20 rfl ?_
  refine ⟨rfl, (mod_p (by simp) (by decide)).tr (mod_f (by simp)), by rw [mp_eq, List.length_append]; rfl, ?_⟩
  rw [mp_k (by decide), show (m_put h 82 K.length (nI x)).1 82 = upd (h.1 82) K.length (nI x) from ma_eq _ _ _]
  exact hold_snoc r.2
theorem lM_mT {h' : MH} {L : List Nat} (l : lM h L) (m : mT h h') : lM h' L := ⟨by rw [m.2 18 (by decide)]; exact l.1, by rw [(m.1 78 (by decide) (by decide)).1]; exact l.2⟩
theorem cl_format {L : List Nat} (r : lM h L) (o : okL L) : Cl G (d + 1) M_X12_format [.ref 67] h (fun rv h' => rv = none ∧ mT h h' ∧ fR h' (fm L)) := by
  have l24 := o.1
  have loop : ∀ (k i : Nat) (h1 : MH) (x2 x3 : Option Value), i + k = L.length → mT h h1 → fR h1 (fmF L i) → Ev G (d + 1) M_X12_format 7 [some (.ref 67), some (.int (nI i)), x2, x3] [] h1 (fun rv h' => rv = none ∧ mT h h' ∧ fR h' (fm L)) := by
    intro k
    induction k with
    | zero =>
      intro i h1 x2 x3 hi s1 r1
      obtain rfl : i = L.length := by omega
      have lr := lM_mT r s1
      refine ev_iload_n dX12_format_7 rfl ?_
      refine ev_aload_n dX12_format_8 rfl ?_
      refine ev_getIv (lr.1) fl_X12_251 rfl rfl dX12_format_9 ?_
      refine ev_icmp_geN 96 dX12_format_12 (by decide) (by omega) (by omega) (fun c12 => ?_) (fun c12 => ?_)
      · refine ev_ret dX12_format_96 rfl ?_
        exact ⟨rfl, s1, r1⟩
      · omega
    | succ k ih =>
      intro i h1 x2 x3 hi s1 r1
      have fl := fmF_len L i
      have oi := o.2 i (by omega)
      have lc : (fmF L i ++ [44]).length = (fmF L i).length + 1 := by rw [List.length_append]; rfl
      have hE : ∀ h1, mT h h1 → h1.1 78 i = nI (L.getD i 0) := fun h1 s1 => (lM_mT r s1).2 i (by omega)
      have fin : ∀ h1, mT h h1 → fR h1 (fmF L (i + 1)) → ∀ x2 x3, Ev G (d + 1) M_X12_format 7 [some (.ref 67), some (.int (nI (i + 1))), x2, x3] [] h1 (fun rv h' => rv = none ∧ mT h h' ∧ fR h' (fm L)) := fun h1 s1 r1 x2 x3 => ih (i + 1) h1 x2 x3 (by omega) s1 r1
      rw [fmF] at fin
      generalize hm : L.getD i 0 = m at *
      have inner : ∀ K : List Nat, K.length + 14 ≤ 359 → K = (fmF L i ++ if 0 < i then [44] else []) → ∀ (j v : Nat) (h1 : MH) (x3 : Option Value), v + j = 7 → mT h h1 → fR h1 (K ++ fmV m v) → Ev G (d + 1) M_X12_format 42 [some (.ref 67), some (.int (nI i)), some (.int (nI v)), x3] [] h1 (fun rv h' => rv = none ∧ mT h h' ∧ fR h' (fm L)) := by
        intro K hk hK j
        induction j with
        | zero =>
          intro v h1 x3 hv s1 r1
          obtain rfl : v = 7 := by omega
          refine ev_iload_n dX12_format_42 rfl ?_
          refine ev_bipush (nI 7) dX12_format_43 rfl ?_
          refine ev_icmp_geN 90 dX12_format_45 (by decide) (by omega) (by omega) (fun c45 => ?_) (fun c45 => ?_)
          · refine ev_inc1N dX12_format_90 (by decide) rfl ?_
            refine ev_goto 7 dX12_format_93 (by decide) ?_
            exact fin h1 s1 (by rw [← hK]; exact r1) _ _
          · omega
        | succ j jh =>
          intro v h1 x3 hv s1 r1
          have xl := ex_lt m v
          have l0 : (K ++ fmV m v).length = K.length + (fmV m v).length := List.length_append
          have l1 := (fmV_len m (v + 1) (by omega)).1
          have l2 : (fmV m (v + 1)).length = (fmV m v).length + ((if 0 < ex m v then [97 + v] else []).length + (if 1 < ex m v then [48 + ex m v] else []).length) := by rw [fmV, List.length_append, List.length_append]
          have l3 : 0 < ex m v → (if 0 < ex m v then [97 + v] else []).length = 1 := fun z => by rw [if_pos z]; rfl
          have l4 : 1 < ex m v → (if 1 < ex m v then [48 + ex m v] else []).length = 1 := fun z => by rw [if_pos z]; rfl
          have l5 : ((K ++ fmV m v) ++ [97 + v]).length = K.length + (fmV m v).length + 1 := by rw [List.length_append, l0]; rfl
          refine ev_iload_n dX12_format_42 rfl ?_
          refine ev_bipush (nI 7) dX12_format_43 rfl ?_
          refine ev_icmp_geN 90 dX12_format_45 (by decide) (by omega) (by omega) (fun c45 => ?_) (fun c45 => ?_)
          · omega
          · refine ev_aload_n dX12_format_48 rfl ?_
            refine ev_getR fl_X12_50 rfl rfl dX12_format_49 ?_
            refine ev_iload_n dX12_format_52 rfl ?_
            refine ev_ialdv (hE h1 s1) rfl dX12_format_53 (by omega) (by omega) ?_
            refine ev_iload_n dX12_format_54 rfl ?_
            refine ev_callS (cl_exponentOfM (by omega) (by omega)) ok_X12_exponentOf ml_X12_128 rfl rfl (Nat.le_of_ble_eq_true rfl) dX12_format_55 (kI ?_)
            refine ev_ist3 dX12_format_58 (by decide) rfl ?_
            refine ev_iload_n dX12_format_59 rfl ?_
            refine ev_if_leN 71 dX12_format_60 (by decide) (by omega) (fun c60 => ?_) (fun c60 => ?_)
            · refine ev_iload_n dX12_format_71 rfl ?_
              refine ev_iconst (nI 1) dX12_format_72 rfl ?_
              refine ev_icmp_leN 84 dX12_format_73 (by decide) (by omega) (by omega) (fun c73 => ?_) (fun c73 => ?_)
              · refine ev_inc2N dX12_format_84 (by decide) rfl ?_
                refine ev_goto 42 dX12_format_87 (by decide) ?_
                exact jh (v + 1) h1 _ (by omega) s1 (by rw [fmx1 (by omega)]; exact r1)
              · omega
            · refine ev_aload_n dX12_format_63 rfl ?_
              refine ev_bipush (nI 97) dX12_format_64 rfl ?_
              refine ev_iload_n dX12_format_66 rfl ?_
              refine ev_iaddN dX12_format_67 ?_
              refine ev_callV (cl_write r1 (by have := l3 (by omega); omega)) ok_X12_write ml_X12_296 rfl rfl rfl rfl (Nat.le_of_ble_eq_true rfl) dX12_format_68 ?_
              rintro rv h2 ⟨rfl, s2, r2⟩
              refine ev_iload_n dX12_format_71 rfl ?_
              refine ev_iconst (nI 1) dX12_format_72 rfl ?_
              refine ev_icmp_leN 84 dX12_format_73 (by decide) (by omega) (by omega) (fun c73 => ?_) (fun c73 => ?_)
              · refine ev_inc2N dX12_format_84 (by decide) rfl ?_
                refine ev_goto 42 dX12_format_87 (by decide) ?_
                exact jh (v + 1) h2 _ (by omega) (s1.tr s2) (by rw [fmx2 (by omega) (by omega)]; exact r2)
              · refine ev_aload_n dX12_format_76 rfl ?_
                refine ev_bipush (nI 48) dX12_format_77 rfl ?_
                refine ev_iload_n dX12_format_79 rfl ?_
                refine ev_iaddN dX12_format_80 ?_
                refine ev_callV (cl_write r2 (by have := l3 (by omega); have := l4 (by omega); omega)) ok_X12_write ml_X12_296 rfl rfl rfl rfl (Nat.le_of_ble_eq_true rfl) dX12_format_81 ?_
                rintro rv h3 ⟨rfl, s3, r3⟩
                refine ev_inc2N dX12_format_84 (by decide) rfl ?_
                refine ev_goto 42 dX12_format_87 (by decide) ?_
                exact jh (v + 1) h3 _ (by omega) ((s1.tr s2).tr s3) (by rw [fmx3 (by omega)]; exact r3)
      have mid : ∀ K : List Nat, K.length + 14 ≤ 359 → K = (fmF L i ++ if 0 < i then [44] else []) → ∀ (h1 : MH) (x2 x3 : Option Value), mT h h1 → fR h1 K → Ev G (d + 1) M_X12_format 25 [some (.ref 67), some (.int (nI i)), x2, x3] [] h1 (fun rv h' => rv = none ∧ mT h h' ∧ fR h' (fm L)) := by
        intro K hk hK h1 x2 x3 s1 r1
        by_cases c : m = 0
        · have ev : h1.1 78 i = nI 0 := by rw [hE h1 s1, c]
          refine ev_aload_n dX12_format_25 rfl ?_
          refine ev_getR fl_X12_50 rfl rfl dX12_format_26 ?_
          refine ev_iload_n dX12_format_29 rfl ?_
          refine ev_ialdv (ev) rfl dX12_format_30 (by omega) (by omega) ?_
          refine ev_if_neN 40 dX12_format_31 (by decide) (by omega) (fun c31 => ?_) (fun c31 => ?_)
          · omega
          · refine ev_aload_n dX12_format_34 rfl ?_
            refine ev_bipush (nI 49) dX12_format_35 rfl ?_
            refine ev_callV (cl_write r1 (by omega)) ok_X12_write ml_X12_296 rfl rfl rfl rfl (Nat.le_of_ble_eq_true rfl) dX12_format_37 ?_
            rintro rv h2 ⟨rfl, s2, r2⟩
            refine ev_iconst (nI 0) dX12_format_40 rfl ?_
            refine ev_ist2 dX12_format_41 (by decide) rfl ?_
            exact inner K hk hK 7 0 h2 _ (by omega) (s1.tr s2) (by rw [fmV, if_pos c]; exact r2)
        · skip
          refine ev_aload_n dX12_format_25 rfl ?_
          refine ev_getR fl_X12_50 rfl rfl dX12_format_26 ?_
          refine ev_iload_n dX12_format_29 rfl ?_
          refine ev_ialdv (hE h1 s1) rfl dX12_format_30 (by omega) (by omega) ?_
          refine ev_if_neN 40 dX12_format_31 (by decide) (by omega) (fun c31 => ?_) (fun c31 => ?_)
          · refine ev_iconst (nI 0) dX12_format_40 rfl ?_
            refine ev_ist2 dX12_format_41 (by decide) rfl ?_
            exact inner K hk hK 7 0 h1 _ (by omega) s1 (by rw [fmV, if_neg c, List.append_nil]; exact r1)
          · omega
      have lr := lM_mT r s1
      refine ev_iload_n dX12_format_7 rfl ?_
      refine ev_aload_n dX12_format_8 rfl ?_
      refine ev_getIv (lr.1) fl_X12_251 rfl rfl dX12_format_9 ?_
      refine ev_icmp_geN 96 dX12_format_12 (by decide) (by omega) (by omega) (fun c12 => ?_) (fun c12 => ?_)
      · omega
      · refine ev_iload_n dX12_format_15 rfl ?_
        refine ev_if_leN 25 dX12_format_16 (by decide) (by omega) (fun c16 => ?_) (fun c16 => ?_)
        · exact mid (fmF L i) (by omega) (by rw [if_neg (by omega), List.append_nil]) h1 _ _ s1 r1
        · refine ev_aload_n dX12_format_19 rfl ?_
          refine ev_bipush (nI 44) dX12_format_20 rfl ?_
          refine ev_callV (cl_write r1 (by omega)) ok_X12_write ml_X12_296 rfl rfl rfl rfl (Nat.le_of_ble_eq_true rfl) dX12_format_22 ?_
          rintro rv h2 ⟨rfl, s2, r2⟩
          exact mid (fmF L i ++ [44]) (by omega) (by rw [if_pos (by omega)]) h2 _ _ (s1.tr s2) r2
  refine ev_start 3 (lv := [some (.ref 67), none, none, none]) rfl (by decide) (Nat.le_of_ble_eq_true rfl) ?_
  refine ev_aload_n dX12_format_0 rfl ?_
  refine ev_iconst (nI 0) dX12_format_1 rfl ?_
  refine ev_putI fp_X12_293 rfl rfl rfl rfl dX12_format_2 ?_
  refine ev_iconst (nI 0) dX12_format_5 rfl ?_
  refine ev_ist1 dX12_format_6 (by decide) rfl ?_
  exact loop L.length 0 _ _ _ (by omega) (mod_f (by simp)) ⟨mp_eq _ _ _ _, hold_nil _⟩
theorem cl_formattedLengthM {L : List Nat} (r : lM h L) (o : okL L) : Cl G (d + 2) M_X12_formattedLength [.ref 67] h (fun rv h' => rv = some (.int (nI (fm L).length)) ∧ mT h h') := by
  refine ev_start 0 (lv := [some (.ref 67)]) rfl (by decide) (Nat.le_of_ble_eq_true rfl) ?_
  refine ev_aload_n dX12_formattedLength_0 rfl ?_
  refine ev_callV (cl_format r o) ok_X12_format ml_X12_299 rfl rfl rfl rfl (Nat.le_of_ble_eq_true rfl) dX12_formattedLength_1 ?_
  rintro rv h1 ⟨rfl, s1, r1⟩
  refine ev_aload_n dX12_formattedLength_4 rfl ?_
  refine ev_getIv (r1.1) fl_X12_293 rfl rfl dX12_formattedLength_5 ?_
  refine ev_iret dX12_formattedLength_8 rfl ?_
  exact ⟨rfl, s1⟩
theorem cl_formattedByteM {L : List Nat} {x : Int32} (r : lM h L) (o : okL L) : Cl G (d + 2) M_X12_formattedByte [.ref 67, .int x] h (fun rv h' => rv = some (.int (itL (fm L) x)) ∧ mT h h') := by
  have fl := fm_len o
  by_cases hx : inR x (fm L).length
  · obtain ⟨i, hi, rfl⟩ := hx
    rw [show itL (fm L) (nI i) = nI ((fm L).getD i 0) from itemE_in hi (by omega)]
    refine ev_start 0 (lv := [some (.ref 67), some (.int (nI i))]) rfl (by decide) (Nat.le_of_ble_eq_true rfl) ?_
    refine ev_iload_n dX12_formattedByte_0 rfl ?_
    refine ev_if_geN 6 dX12_formattedByte_1 (by decide) (by omega) (fun c1 => ?_) (fun c1 => ?_)
    · refine ev_aload_n dX12_formattedByte_6 rfl ?_
      refine ev_callV (cl_format r o) ok_X12_format ml_X12_299 rfl rfl rfl rfl (Nat.le_of_ble_eq_true rfl) dX12_formattedByte_7 ?_
      rintro rv h1 ⟨rfl, s1, r1⟩
      refine ev_iload_n dX12_formattedByte_10 rfl ?_
      refine ev_aload_n dX12_formattedByte_11 rfl ?_
      refine ev_getIv (r1.1) fl_X12_293 rfl rfl dX12_formattedByte_12 ?_
      refine ev_icmp_geN 27 dX12_formattedByte_15 (by decide) (by omega) (by omega) (fun c15 => ?_) (fun c15 => ?_)
      · omega
      · refine ev_aload_n dX12_formattedByte_18 rfl ?_
        refine ev_getR fl_X12_62 rfl rfl dX12_formattedByte_19 ?_
        refine ev_iload_n dX12_formattedByte_22 rfl ?_
        refine ev_ialdv (r1.2 i hi) rfl dX12_formattedByte_23 (by omega) (by omega) ?_
        refine ev_goto 29 dX12_formattedByte_24 (by decide) ?_
        refine ev_iret dX12_formattedByte_29 rfl ?_
        exact ⟨rfl, s1⟩
    · exact c1.elim
  · skip
    refine ev_start 0 (lv := [some (.ref 67), some (.int x)]) rfl (by decide) (Nat.le_of_ble_eq_true rfl) ?_
    refine ev_iload_n dX12_formattedByte_0 rfl ?_
    refine ev_if_ge 6 dX12_formattedByte_1 (by decide) (fun c1 => ?_) (fun c1 => ?_)
    · refine ev_aload_n dX12_formattedByte_6 rfl ?_
      refine ev_callV (cl_format r o) ok_X12_format ml_X12_299 rfl rfl rfl rfl (Nat.le_of_ble_eq_true rfl) dX12_formattedByte_7 ?_
      rintro rv h1 ⟨rfl, s1, r1⟩
      refine ev_iload_n dX12_formattedByte_10 rfl ?_
      refine ev_aload_n dX12_formattedByte_11 rfl ?_
      refine ev_getIv (r1.1) fl_X12_293 rfl rfl dX12_formattedByte_12 ?_
      refine ev_icmp_ge 27 dX12_formattedByte_15 (by decide) (fun c15 => ?_) (fun c15 => ?_)
      · refine ev_bipush (-2) dX12_formattedByte_27 rfl ?_
        refine ev_iret dX12_formattedByte_29 rfl ?_
        exact ⟨by rw [show itL (fm L) x = -2 from itemE_out (Int32.not_lt.mpr c1) (Int32.not_lt.mpr c15)], s1⟩
      · exact absurd (inR_of (by omega) (Int32.not_lt.mpr c1) c15) hx
    · refine ev_iconst (-1) dX12_formattedByte_4 rfl ?_
      refine ev_iret dX12_formattedByte_5 rfl ?_
      exact ⟨by rw [show itL (fm L) x = -1 from itemE_neg (Int32.not_le.mp c1)], mod.rf⟩
end FMT
