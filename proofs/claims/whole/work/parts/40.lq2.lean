section LQ2
variable {G : MG} {d : Nat} {h : MH}
theorem rowIs_add {h : MH} {p x : Nat} {K : List Nat} (r : rowIs h p K) : rowIs (rowAdd h p K.length (nI x)) p (K ++ [x]) := by
  refine ⟨?_, ?_⟩
  · rw [ra_cnt, List.length_append]; rfl
  · rw [ra_arr]; exact hold_snoc r.2
theorem rowIs_same {P : Nat → Prop} {h h' : MH} {p : Nat} {K : List Nat} (r : rowIs h p K) (s : same P h h') (h1 : P p) (h2 : P (p + 1)) : rowIs h' p K := ⟨by rw [(s p h1).1]; exact r.1, by rw [(s (p + 1) h2).1]; exact r.2⟩
theorem rowIs_copy {h : MH} {p q : Nat} {K : List Nat} (r : rowIs h q K) : rowIs (rowCopy h p q K.length) p K := by
  unfold rowCopy
  refine ⟨by rw [ma_k (by omega), mp_eq], ?_⟩
  rw [ma_eq]
  intro i hi
  rw [show va_cpy (h.1 (q + 1)) (h.1 (p + 1)) 0 0 K.length i = h.1 (q + 1) (0 + (i - 0)) from if_pos (by omega), Nat.zero_add, Nat.sub_zero]
  exact r.2 i hi
theorem same_copy {P : Nat → Prop} {h : MH} {p q s : Nat} (h1 : ¬ P p) (h2 : ¬ P (p + 1)) : same P h (rowCopy h p q s) := (same_put h1).tr (same_putA h2)
theorem same_add {P : Nat → Prop} {h : MH} {p s : Nat} {x : Int32} (h1 : ¬ P p) (h2 : ¬ P (p + 1)) : same P h (rowAdd h p s x) := fun k hk => ⟨ra_k (fun e => h1 (e ▸ hk)) (fun e => h2 (e ▸ hk)), rfl⟩
/-- those of L with exponent e - 1, e - 2 .. 0 at v, one after another -/
def flt (v : Nat) (L : List Nat) : Nat → List Nat
  | 0 => []
  | e + 1 => L.filter (fun x => ex x v == e) ++ flt v L e
def rdx (v : Nat) (L : List Nat) : List Nat := flt v L 4
def srt (L : List Nat) : List Nat → List Nat
  | [] => L
  | v :: S => rdx v (srt L S)
theorem flt_mem {v x : Nat} {L : List Nat} : ∀ e, x ∈ flt v L e ↔ x ∈ L ∧ ex x v < e
  | 0 => by simp [flt]
  | e + 1 => by
    simp only [flt, List.mem_append, List.mem_filter, beq_iff_eq, flt_mem e]
    constructor
    · rintro (⟨a, b⟩ | ⟨a, b⟩)
      · exact ⟨a, by omega⟩
      · exact ⟨a, by omega⟩
    · rintro ⟨a, b⟩
      by_cases c : ex x v = e
      · exact Or.inl ⟨a, c⟩
      · exact Or.inr ⟨a, by omega⟩
theorem flt_len (v x : Nat) (L : List Nat) : ∀ e, (flt v (x :: L) e).length = (flt v L e).length + if ex x v < e then 1 else 0
  | 0 => by simp [flt]
  | e + 1 => by
    simp only [flt, List.length_append, flt_len v x L e, List.filter_cons]
    by_cases c : ex x v = e
    · rw [if_pos (by simp [c]), if_neg (by omega), if_pos (by omega), List.length_cons]; omega
    · rw [if_neg (by simp [c])]
      by_cases c2 : ex x v < e
      · rw [if_pos c2, if_pos (by omega)]; omega
      · rw [if_neg c2, if_neg (by omega)]; omega
theorem flt_nil (v : Nat) : ∀ e, flt v [] e = []
  | 0 => rfl
  | e + 1 => by simp [flt, flt_nil v e]
theorem rdx_mem {v x : Nat} {L : List Nat} : x ∈ rdx v L ↔ x ∈ L := by
  unfold rdx; rw [flt_mem]
  exact ⟨fun z => z.1, fun z => ⟨z, ex_lt x v⟩⟩
theorem rdx_len (v : Nat) : ∀ L, (rdx v L).length = L.length
  | [] => by unfold rdx; rw [flt_nil]
  | x :: L => by
    have := rdx_len v L
    unfold rdx at *
    rw [flt_len, this, if_pos (ex_lt x v), List.length_cons]
theorem srt_mem {L : List Nat} {x : Nat} : ∀ S, x ∈ srt L S ↔ x ∈ L
  | [] => Iff.rfl
  | v :: S => by unfold srt; rw [rdx_mem, srt_mem S]
theorem srt_len {L : List Nat} : ∀ S, (srt L S).length = L.length
  | [] => rfl
  | v :: S => by unfold srt; rw [rdx_len, srt_len S]
theorem flt_le (v : Nat) (L : List Nat) (e : Nat) (he : e < 4) : (L.filter (fun x => ex x v == e)).length + (flt v L e).length ≤ L.length := by
  have h1 : (flt v L (e + 1)).length ≤ (flt v L 4).length := by
    have : ∀ j k, (flt v L j).length ≤ (flt v L (j + k)).length := by
      intro j k
      induction k with
      | zero => exact Nat.le_refl _
      | succ k ih =>
        rw [show j + (k + 1) = (j + k) + 1 by omega]
        show _ ≤ (L.filter _ ++ flt v L (j + k)).length
        rw [List.length_append]; omega
    have := this (e + 1) (3 - e)
    rwa [show e + 1 + (3 - e) = 4 by omega] at this
  have h2 := rdx_len v L
  unfold rdx at h2
  rw [h2] at h1
  simp only [flt, List.length_append] at h1
  exact h1
theorem cl_moveToSpare {L K : List Nat} {v e : Nat} (hr : rowIs h 28 L) (hk : rowIs h 30 K) (hv : v < 7) (he : e < 4) (l1 : L.length ≤ 728) (l2 : K.length + (L.filter (fun x => ex x v == e)).length ≤ 728) (hL : ∀ x, x ∈ L → x < 16384) : Cl G (d + 1) M_X4_moveToSpare [.ref 26, .int (nI v), .int (nI e)] h (fun rv h' => rv = none ∧ same (fun k => k ≠ 30 ∧ k ≠ 31) h h' ∧ rowIs h' 30 (K ++ L.filter (fun x => ex x v == e))) := by
  have loop : ∀ (k i : Nat) (h1 : MH), i + k = L.length → same (fun k => k ≠ 30 ∧ k ≠ 31) h h1 → rowIs h1 30 (K ++ (L.take i).filter (fun x => ex x v == e)) → Ev G (d + 1) M_X4_moveToSpare 2 [some (.ref 26), some (.int (nI v)), some (.int (nI e)), some (.int (nI i))] [] h1 (fun rv h' => rv = none ∧ same (fun k => k ≠ 30 ∧ k ≠ 31) h h' ∧ rowIs h' 30 (K ++ L.filter (fun x => ex x v == e))) := by
    intro k
    induction k with
    | zero =>
      intro i h1 hi s1 r1
      rw [List.take_of_length_le (by omega)] at r1
      have r28 := rowIs_same hr s1 (by decide) (by decide)
      refine ev_iload_n dX4_moveToSpare_2 rfl ?_
      refine ev_aload_n dX4_moveToSpare_3 rfl ?_
      refine ev_getR fl_X4_30 rfl rfl dX4_moveToSpare_4 ?_
      refine ev_getIv (r28.1) fl_X4_64 rfl rfl dX4_moveToSpare_7 ?_
      refine ev_icmp_geN 53 dX4_moveToSpare_10 (by decide) (by omega) (by omega) (fun c10 => ?_) (fun c10 => ?_)
      · refine ev_ret dX4_moveToSpare_53 rfl ?_
        exact ⟨rfl, s1, r1⟩
      · omega
    | succ k ih =>
      intro i h1 hi s1 r1
      have r28 := rowIs_same hr s1 (by decide) (by decide)
      have hx := hL _ (getD_mem (L := L) (i := i) (by omega))
      have x1 := ex_lt (L.getD i 0) v
      have hle : ((L.take (i + 1)).filter (fun x => ex x v == e)).length ≤ (L.filter (fun x => ex x v == e)).length := ((List.take_sublist (i + 1) L).filter _).length_le
      have ts : (L.take (i + 1)).filter (fun x => ex x v == e) = (L.take i).filter (fun x => ex x v == e) ++ if ex (L.getD i 0) v = e then [L.getD i 0] else [] := by
        rw [take_snoc (by omega), List.filter_append]
        congr 1
        rw [List.filter_cons]
        by_cases c : ex (L.getD i 0) v = e
        · rw [if_pos c, if_pos (beq_iff_eq.mpr c)]; rfl
        · rw [if_neg c, if_neg (fun z => c (beq_iff_eq.mp z))]; rfl
      refine ev_iload_n dX4_moveToSpare_2 rfl ?_
      refine ev_aload_n dX4_moveToSpare_3 rfl ?_
      refine ev_getR fl_X4_30 rfl rfl dX4_moveToSpare_4 ?_
      refine ev_getIv (r28.1) fl_X4_64 rfl rfl dX4_moveToSpare_7 ?_
      refine ev_icmp_geN 53 dX4_moveToSpare_10 (by decide) (by omega) (by omega) (fun c10 => ?_) (fun c10 => ?_)
      · omega
      · refine ev_aload_n dX4_moveToSpare_13 rfl ?_
        refine ev_getR fl_X4_30 rfl rfl dX4_moveToSpare_14 ?_
        refine ev_getR fl_X4_71 rfl rfl dX4_moveToSpare_17 ?_
        refine ev_iload_n dX4_moveToSpare_20 rfl ?_
        refine ev_ialdv (r28.2 i (by omega)) rfl dX4_moveToSpare_21 (by omega) (by omega) ?_
        refine ev_iload_n dX4_moveToSpare_22 rfl ?_
        refine ev_callS (cl_exponentOf (by omega) (by omega)) ok_X6_exponentOf ml_X4_74 rfl rfl (Nat.le_of_ble_eq_true rfl) dX4_moveToSpare_23 (kI ?_)
        refine ev_iload_n dX4_moveToSpare_26 rfl ?_
        refine ev_icmp_neN 47 dX4_moveToSpare_27 (by decide) (by omega) (by omega) (fun c27 => ?_) (fun c27 => ?_)
        · refine ev_inc3N dX4_moveToSpare_47 (by decide) rfl ?_
          refine ev_goto 2 dX4_moveToSpare_50 (by decide) ?_
          refine ih (i + 1) h1 (by omega) s1 ?_
          rw [ts, if_neg c27, List.append_nil]; exact r1
        · have c27' : ex (L.getD i 0) v = e := by omega
          rw [if_pos c27'] at ts
          have hlen : (K ++ (L.take i).filter (fun x => ex x v == e)).length < 728 := by
            rw [ts, List.length_append] at hle
            rw [List.length_append]
            simp at hle ⊢; omega
          refine ev_aload_n dX4_moveToSpare_30 rfl ?_
          refine ev_getR fl_X4_34 rfl rfl dX4_moveToSpare_31 ?_
          refine ev_aload_n dX4_moveToSpare_34 rfl ?_
          refine ev_getR fl_X4_30 rfl rfl dX4_moveToSpare_35 ?_
          refine ev_getR fl_X4_71 rfl rfl dX4_moveToSpare_38 ?_
          refine ev_iload_n dX4_moveToSpare_41 rfl ?_
          refine ev_ialdv (r28.2 i (by omega)) rfl dX4_moveToSpare_42 (by omega) (by omega) ?_
          refine ev_callV (cl_add row_30 r1.1 hlen) ok_X7_add ml_X4_80 rfl rfl rfl rfl (Nat.le_of_ble_eq_true rfl) dX4_moveToSpare_43 (kI ?_)
          refine ev_pop dX4_moveToSpare_46 rfl ?_
          refine ev_inc3N dX4_moveToSpare_47 (by decide) rfl ?_
          refine ev_goto 2 dX4_moveToSpare_50 (by decide) ?_
          refine ih (i + 1) _ (by omega) (s1.tr (same_add (by decide) (by decide))) ?_
          rw [ts, ← List.append_assoc]
          exact rowIs_add r1
  refine ev_start 1 (lv := [some (.ref 26), some (.int (nI v)), some (.int (nI e)), none]) rfl (by decide) (Nat.le_of_ble_eq_true rfl) ?_
  refine ev_iconst (nI 0) dX4_moveToSpare_0 rfl ?_
  refine ev_ist3 dX4_moveToSpare_1 (by decide) rfl ?_
  exact loop L.length 0 h (by omega) same.rf (by simpa using hk)
theorem cl_sortBySequence {n N : Nat} {L S : List Nat} (g : gC h n N) (hn : n ≤ 7) (h1n : 1 ≤ n) (hS : hold (h.1 27) S) (lS : S.length = n) (bS : ∀ v, v ∈ S → v < n) (hr : rowIs h 28 L) (l1 : L.length ≤ 728) (hL : ∀ x, x ∈ L → x < 16384) : Cl G (d + 2) M_X4_sortBySequence [.ref 26] h (fun rv h' => rv = none ∧ same (fun k => k < 28 ∨ 31 < k) h h' ∧ rowIs h' 28 (srt L S)) := by
  have inner : ∀ (K0 : List Nat) (v p : Nat) (h0 : MH), v < 7 → p < n → h0.1 27 p = nI v → rowIs h0 28 K0 → K0.length ≤ 728 → (∀ x, x ∈ K0 → x < 16384) → same (fun k => k < 28 ∨ 31 < k) h h0 → ∀ (k2 : ∀ h2 x2, same (fun k => k ≠ 30 ∧ k ≠ 31) h0 h2 → rowIs h2 30 (rdx v K0) → Ev G (d + 2) M_X4_sortBySequence 45 [some (.ref 26), some (.int (nI p)), x2] [] h2 (fun rv h' => rv = none ∧ same (fun k => k < 28 ∨ 31 < k) h h' ∧ rowIs h' 28 (srt L S))) (e : Nat) (K : List Nat) (h1 : MH), e ≤ 4 → same (fun k => k ≠ 30 ∧ k ≠ 31) h0 h1 → rowIs h1 30 K → K ++ flt v K0 e = rdx v K0 → Ev G (d + 2) M_X4_sortBySequence 24 [some (.ref 26), some (.int (nI p)), some (.int (dnI e))] [] h1 (fun rv h' => rv = none ∧ same (fun k => k < 28 ∨ 31 < k) h h' ∧ rowIs h' 28 (srt L S)) := by
    intro K0 v p h0 hv hp hsq hr0 lk0 hk0 s0 k2 e
    induction e with
    | zero =>
      intro K h1 he s1 r1 eK
      rw [show K = rdx v K0 by rw [← eK]; simp [flt]] at r1
      refine ev_iload_n dX4_sortBySequence_24 rfl ?_
      refine ev_if_lt 45 dX4_sortBySequence_25 (by decide) (fun c25 => ?_) (fun c25 => ?_)
      · exact k2 _ _ s1 r1
      · exact absurd dnI_0 c25
    | succ e ih =>
      intro K h1 he s1 r1 eK
      rw [dnI_s]
      have r28 := rowIs_same hr0 s1 (by decide) (by decide)
      have lK := rdx_len v K0
      rw [← eK] at lK
      simp only [flt, List.length_append] at lK
      refine ev_iload_n dX4_sortBySequence_24 rfl ?_
      refine ev_if_ltN 45 dX4_sortBySequence_25 (by decide) (by omega) (fun c25 => ?_) (fun c25 => ?_)
      · exact c25.elim
      · refine ev_aload_n dX4_sortBySequence_28 rfl ?_
        refine ev_aload_n dX4_sortBySequence_29 rfl ?_
        refine ev_getR fl_X4_19 rfl rfl dX4_sortBySequence_30 ?_
        refine ev_iload_n dX4_sortBySequence_33 rfl ?_
        refine ev_ialdv ((show h1.1 27 p = nI v by rw [(s1 27 (by decide)).1]; exact hsq)) rfl dX4_sortBySequence_34 (by omega) (by omega) ?_
        refine ev_iload_n dX4_sortBySequence_35 rfl ?_
        refine ev_callV (cl_moveToSpare r28 r1 hv (by omega) lk0 (by omega) hk0) ok_X4_moveToSpare ml_X4_67 rfl rfl rfl rfl (Nat.le_of_ble_eq_true rfl) dX4_sortBySequence_36 ?_
        rintro rv h2 ⟨rfl, s2, r2⟩
        refine ev_inc2 dX4_sortBySequence_39 rfl (by decide) rfl ?_
        refine ev_goto 24 dX4_sortBySequence_42 (by decide) ?_
        exact ih _ h2 (by omega) (s1.tr s2) r2 (by rw [← eK, List.append_assoc]; rfl)
  have outer : ∀ (k : Nat) (h1 : MH) (x2 : Option Value), k ≤ n → same (fun k => k < 28 ∨ 31 < k) h h1 → rowIs h1 28 (srt L (S.drop k)) → Ev G (d + 2) M_X4_sortBySequence 10 [some (.ref 26), some (.int (dnI k)), x2] [] h1 (fun rv h' => rv = none ∧ same (fun k => k < 28 ∨ 31 < k) h h' ∧ rowIs h' 28 (srt L S)) := by
    intro k
    induction k with
    | zero =>
      intro h1 x2 hk s1 r1
      refine ev_iload_n dX4_sortBySequence_10 rfl ?_
      refine ev_if_lt 62 dX4_sortBySequence_11 (by decide) (fun c11 => ?_) (fun c11 => ?_)
      · refine ev_ret dX4_sortBySequence_62 rfl ?_
        exact ⟨rfl, s1, r1⟩
      · exact absurd dnI_0 c11
    | succ k ih =>
      intro h1 x2 hk s1 r1
      rw [dnI_s]
      have hkS : k < S.length := by omega
      have hv := bS _ (getD_mem hkS)
      have hsq : h1.1 27 k = nI (S.getD k 0) := by rw [(s1 27 (by decide)).1]; exact hS k hkS
      have ed : S.drop k = S.getD k 0 :: S.drop (k + 1) := by
        rw [List.drop_eq_getElem_cons hkS, List.getD_eq_getElem?_getD, List.getElem?_eq_getElem hkS]; rfl
      have lr : (srt L (S.drop (k + 1))).length ≤ 728 := by rw [srt_len]; exact l1
      have s0 : same (fun k => k ≠ 30 ∧ k ≠ 31) h1 (m_put h1 30 1 (nI 0)) := same_put (by decide)
      have s0' : same (fun k => k < 28 ∨ 31 < k) h1 (m_put h1 30 1 (nI 0)) := same_put (by decide)
      have q := inner (srt L (S.drop (k + 1))) (S.getD k 0) k (m_put h1 30 1 (nI 0)) (by omega) (by omega) (by rw [(s0 27 (by decide)).1]; exact hsq) (rowIs_same r1 s0 (by decide) (by decide)) lr (fun x hx => hL x ((srt_mem _).mp hx)) (s1.tr s0')
      have fin : ∀ h2 x2, same (fun k => k ≠ 30 ∧ k ≠ 31) (m_put h1 30 1 (nI 0)) h2 → rowIs h2 30 (rdx (S.getD k 0) (srt L (S.drop (k + 1)))) → Ev G (d + 2) M_X4_sortBySequence 45 [some (.ref 26), some (.int (nI k)), x2] [] h2 (fun rv h' => rv = none ∧ same (fun k => k < 28 ∨ 31 < k) h h' ∧ rowIs h' 28 (srt L S)) := by
        intro h2 x2 s2 r2
        have l2 := rdx_len (S.getD k 0) (srt L (S.drop (k + 1)))
        refine ev_aload_n dX4_sortBySequence_45 rfl ?_
        refine ev_getR fl_X4_30 rfl rfl dX4_sortBySequence_46 ?_
        refine ev_aload_n dX4_sortBySequence_49 rfl ?_
        refine ev_getR fl_X4_34 rfl rfl dX4_sortBySequence_50 ?_
        refine ev_callV (cl_copyFrom row_28 row_30 (by decide) (by decide) r2.1 (by omega) (by omega)) ok_X7_copyFrom ml_X4_52 rfl rfl rfl rfl (Nat.le_of_ble_eq_true rfl) dX4_sortBySequence_53 (kV ?_)
        refine ev_inc1 dX4_sortBySequence_56 rfl (by decide) rfl ?_
        refine ev_goto 10 dX4_sortBySequence_59 (by decide) ?_
        refine ih _ _ (by omega) (((s1.tr s0').tr (s2.mono (fun k hk => by omega))).tr (same_copy (by decide) (by decide))) ?_
        rw [ed]
        exact rowIs_copy r2
      refine ev_iload_n dX4_sortBySequence_10 rfl ?_
      refine ev_if_ltN 62 dX4_sortBySequence_11 (by decide) (by omega) (fun c11 => ?_) (fun c11 => ?_)
      · exact c11.elim
      · refine ev_aload_n dX4_sortBySequence_14 rfl ?_
        refine ev_getR fl_X4_34 rfl rfl dX4_sortBySequence_15 ?_
        refine ev_iconst (nI 0) dX4_sortBySequence_18 rfl ?_
        refine ev_putI fp_X4_64 rfl rfl rfl rfl dX4_sortBySequence_19 ?_
        refine ev_iconst (nI 3) dX4_sortBySequence_22 rfl ?_
        refine ev_ist2 dX4_sortBySequence_23 (by decide) rfl ?_
        exact q fin 4 [] _ (by decide) same.rf ⟨mp_eq _ _ _ _, hold_nil _⟩ rfl
  obtain ⟨t, ht⟩ : ∃ t, n = t + 1 := ⟨n - 1, by omega⟩
  have e1 : nI (n - 1) = dnI n := by rw [ht, dnI_s]; rfl
  refine ev_start 2 (lv := [some (.ref 26), none, none]) rfl (by decide) (Nat.le_of_ble_eq_true rfl) ?_
  refine ev_aload_n dX4_sortBySequence_0 rfl ?_
  refine ev_getR fl_X4_9 rfl rfl dX4_sortBySequence_1 ?_
  refine ev_getIv (g.1) fl_X4_59 rfl rfl dX4_sortBySequence_4 ?_
  refine ev_iconst (nI 1) dX4_sortBySequence_7 rfl ?_
  refine ev_isubN dX4_sortBySequence_8 (by omega) ?_
  refine ev_ist1 dX4_sortBySequence_9 (by decide) rfl ?_
  rw [e1]
  exact outer n h none (Nat.le_refl _) same.rf (by rw [List.drop_of_length_le (by omega)]; exact hr)
end LQ2
