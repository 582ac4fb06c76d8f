section ROW
variable {G : MG} {d : Nat} {h : MH}
/-- a Row at the place p, its array at p + 1 -/
def isRow (p cap : Nat) : Prop := m_lay[p]? = some (.inr (6, [p + 1 + 2, 0])) ∧ m_lay[p + 1]? = some (.inl (0, cap, [])) ∧ cap < 10000
theorem row_2 : isRow 2 7 := ⟨rfl, rfl, by decide⟩
theorem row_6 : isRow 6 35 := ⟨rfl, rfl, by decide⟩
theorem row_8 : isRow 8 35 := ⟨rfl, rfl, by decide⟩
theorem row_14 : isRow 14 728 := ⟨rfl, rfl, by decide⟩
theorem row_16 : isRow 16 728 := ⟨rfl, rfl, by decide⟩
theorem row_18 : isRow 18 728 := ⟨rfl, rfl, by decide⟩
theorem row_20 : isRow 20 2128 := ⟨rfl, rfl, by decide⟩
theorem row_22 : isRow 22 2128 := ⟨rfl, rfl, by decide⟩
theorem row_24 : isRow 24 2128 := ⟨rfl, rfl, by decide⟩
theorem row_28 : isRow 28 728 := ⟨rfl, rfl, by decide⟩
theorem row_30 : isRow 30 728 := ⟨rfl, rfl, by decide⟩
theorem row_40 : isRow 40 24 := ⟨rfl, rfl, by decide⟩
theorem row_42 : isRow 42 24 := ⟨rfl, rfl, by decide⟩
theorem row_44 : isRow 44 359 := ⟨rfl, rfl, by decide⟩
theorem row_47 : isRow 47 60 := ⟨rfl, rfl, by decide⟩
theorem row_49 : isRow 49 24 := ⟨rfl, rfl, by decide⟩
theorem row_53 : isRow 53 30 := ⟨rfl, rfl, by decide⟩
theorem row_56 : isRow 56 30 := ⟨rfl, rfl, by decide⟩
theorem row_59 : isRow 59 30 := ⟨rfl, rfl, by decide⟩
theorem row_62 : isRow 62 30 := ⟨rfl, rfl, by decide⟩
theorem row_65 : isRow 65 24 := ⟨rfl, rfl, by decide⟩
theorem cl_add_full {p cap s : Nat} {x : Int32} (hr : isRow p cap) (hs : h.1 p 1 = nI s) (hc : cap ≤ s) (hb : s < 10000) : Cl G d M_X7_add [.ref p, .int x] h (qI (nI 0) h) := by
  obtain ⟨hp, ha, hcap⟩ := hr
  refine ev_start 0 (lv := [some (.ref p), some (.int x)]) rfl (by decide) (Nat.le_of_ble_eq_true rfl) ?_
  refine ev_aload_n dX7_add_0 rfl ?_
  refine ev_getIv (hs) fl_X7_21 hp rfl dX7_add_1 ?_
  refine ev_aload_n dX7_add_4 rfl ?_
  refine ev_getR fl_X7_15 hp rfl dX7_add_5 ?_
  refine ev_alen ha (by decide) dX7_add_8 ?_
  refine ev_icmp_ltN 14 dX7_add_9 (by decide) (by omega) (by omega) (fun c9 => ?_) (fun c9 => ?_)
  · omega
  · refine ev_iconst (nI 0) dX7_add_12 rfl ?_
    refine ev_zret dX7_add_13 rfl rfl ?_
    exact ⟨by with_reducible rfl, rfl⟩
def rowAdd (h : MH) (p s : Nat) (x : Int32) : MH := m_put (m_put h (p + 1) s x) p 1 (nI (s + 1))
theorem cl_add {p cap s : Nat} {x : Int32} (hr : isRow p cap) (hs : h.1 p 1 = nI s) (hc : s < cap) : Cl G d M_X7_add [.ref p, .int x] h (qI (nI 1) (rowAdd h p s x)) := by
  obtain ⟨hp, ha, hcap⟩ := hr
  have hs2 : (m_put h (p + 1) s x).1 p 1 = nI s := by rw [mp_k (by omega), hs]
  refine ev_start 0 (lv := [some (.ref p), some (.int x)]) rfl (by decide) (Nat.le_of_ble_eq_true rfl) ?_
  refine ev_aload_n dX7_add_0 rfl ?_
  refine ev_getIv (hs) fl_X7_21 hp rfl dX7_add_1 ?_
  refine ev_aload_n dX7_add_4 rfl ?_
  refine ev_getR fl_X7_15 hp rfl dX7_add_5 ?_
  refine ev_alen ha (by decide) dX7_add_8 ?_
  refine ev_icmp_ltN 14 dX7_add_9 (by decide) (by omega) (by omega) (fun c9 => ?_) (fun c9 => ?_)
  · refine ev_aload_n dX7_add_14 rfl ?_
    refine ev_getR fl_X7_15 hp rfl dX7_add_15 ?_
    refine ev_aload_n dX7_add_18 rfl ?_
    refine ev_getIv (hs) fl_X7_21 hp rfl dX7_add_19 ?_
    refine ev_iload_n dX7_add_22 rfl ?_
    refine ev_iastN ha dX7_add_23 (by omega) (by omega) ?_
    refine ev_aload_n dX7_add_24 rfl ?_
    refine ev_dup dX7_add_25 rfl ?_
    refine ev_getIv (hs2) fl_X7_21 hp rfl dX7_add_26 ?_
    refine ev_iconst (nI 1) dX7_add_29 rfl ?_
    refine ev_iaddN dX7_add_30 ?_
    refine ev_putI fp_X7_21 hp rfl rfl rfl dX7_add_31 ?_
    refine ev_iconst (nI 1) dX7_add_34 rfl ?_
    refine ev_zret dX7_add_35 rfl rfl ?_
    exact ⟨by with_reducible rfl, rfl⟩
  · omega
theorem cl_has {p cap s : Nat} {x : Int32} (hr : isRow p cap) (hs : h.1 p 1 = nI s) (hb : s < 2 ^ 31) : Cl G d M_X7_has [.ref p, .int x] h (qI (nI (b01 (inR x s))) h) := by
  obtain ⟨hp, ha, hcap⟩ := hr
  refine ev_start 0 (lv := [some (.ref p), some (.int x)]) rfl (by decide) (Nat.le_of_ble_eq_true rfl) ?_
  refine ev_iload_n dX7_has_0 rfl ?_
  refine ev_if_lt 16 dX7_has_1 (by decide) (fun c1 => ?_) (fun c1 => ?_)
  · refine ev_iconst (nI 0) dX7_has_16 rfl ?_
    refine ev_zret dX7_has_17 rfl rfl ?_
    rw [b01_f (inR_neg hb c1)]; exact ⟨by with_reducible rfl, rfl⟩
  · refine ev_iload_n dX7_has_4 rfl ?_
    refine ev_aload_n dX7_has_5 rfl ?_
    refine ev_getIv (hs) fl_X7_21 hp rfl dX7_has_6 ?_
    refine ev_icmp_ge 16 dX7_has_9 (by decide) (fun c9 => ?_) (fun c9 => ?_)
    · refine ev_iconst (nI 0) dX7_has_16 rfl ?_
      refine ev_zret dX7_has_17 rfl rfl ?_
      rw [b01_f (inR_ge hb c9)]; exact ⟨by with_reducible rfl, rfl⟩
    · refine ev_iconst (nI 1) dX7_has_12 rfl ?_
      refine ev_goto 17 dX7_has_13 (by decide) ?_
      refine ev_zret dX7_has_17 rfl rfl ?_
      rw [b01_t (inR_of hb c1 c9)]; exact ⟨by with_reducible rfl, rfl⟩
def rowCopy (h : MH) (p q s : Nat) : MH := m_putA (m_put h p 1 (nI s)) (p + 1) (va_cpy (h.1 (q + 1)) (h.1 (p + 1)) 0 0 s)
theorem cl_copyFrom {p q cp cq s : Nat} (hr : isRow p cp) (hq : isRow q cq) (hpq : p ≠ q) (hpq1 : p ≠ q + 1) (hs : h.1 q 1 = nI s) (h1 : s ≤ cp) (h2 : s ≤ cq) : Cl G (d + 1) M_X7_copyFrom [.ref p, .ref q] h (qV (rowCopy h p q s)) := by
  obtain ⟨hp, ha, hcap⟩ := hr
  obtain ⟨hq, hb, hcaq⟩ := hq
  have hs2 : (m_put h p 1 (nI s)).1 p 1 = nI s := mp_eq _ _ _ _
  have e1 : min s cp = s := Nat.min_eq_left h1
  refine ev_start 0 (lv := [some (.ref p), some (.ref q)]) rfl (by decide) (Nat.le_of_ble_eq_true rfl) ?_
  refine ev_aload_n dX7_copyFrom_0 rfl ?_
  refine ev_aload_n dX7_copyFrom_1 rfl ?_
  refine ev_getIv (hs) fl_X7_21 hq rfl dX7_copyFrom_2 ?_
  refine ev_aload_n dX7_copyFrom_5 rfl ?_
  refine ev_getR fl_X7_15 hp rfl dX7_copyFrom_6 ?_
  refine ev_alen ha (by decide) dX7_copyFrom_9 ?_
  refine ev_minN ml_X7_25 (Nat.le_of_ble_eq_true rfl) dX7_copyFrom_10 (by omega) (by omega) ?_
  rw [e1]
  refine ev_putI fp_X7_21 hp rfl rfl rfl dX7_copyFrom_13 ?_
  refine ev_aload_n dX7_copyFrom_16 rfl ?_
  refine ev_getR fl_X7_15 hq rfl dX7_copyFrom_17 ?_
  refine ev_iconst (nI 0) dX7_copyFrom_20 rfl ?_
  refine ev_aload_n dX7_copyFrom_21 rfl ?_
  refine ev_getR fl_X7_15 hp rfl dX7_copyFrom_22 ?_
  refine ev_iconst (nI 0) dX7_copyFrom_25 rfl ?_
  refine ev_aload_n dX7_copyFrom_26 rfl ?_
  refine ev_getIv (hs2) fl_X7_21 hp rfl dX7_copyFrom_27 ?_
  refine ev_acopy ml_X7_28 (Nat.le_of_ble_eq_true rfl) hb ha dX7_copyFrom_30 (by omega) (by omega) (by omega) (by omega) ?_
  refine ev_ret dX7_copyFrom_33 rfl ?_
  refine ⟨rfl, ?_⟩
  unfold rowCopy
  rw [mp_k (h := h) (k := p) (k' := q + 1) (by omega), mp_k (h := h) (k := p) (k' := p + 1) (by omega)]
theorem cl_fillWithZeros {p cap s : Nat} (hr : isRow p cap) (hs : s ≤ cap) : Cl G (d + 1) M_X7_fillWithZeros [.ref p, .int (nI s)] h (fun rv h' => rv = none ∧ ∃ f : Nat → Int32, h' = m_putA (m_put h p 1 (nI s)) (p + 1) f ∧ (∀ i, i < s → f i = nI 0)) := by
  obtain ⟨hp, ha, hcap⟩ := hr
  have e1 : min s cap = s := Nat.min_eq_left hs
  have e2 : max 0 s = s := Nat.max_eq_right (Nat.zero_le _)
  have loop : ∀ (n i : Nat) (f : Nat → Int32), i + n = s → (∀ j, j < i → f j = nI 0) → Ev G (d + 1) M_X7_fillWithZeros 19 [some (.ref p), some (.int (nI s)), some (.int (nI i))] [] (m_putA (m_put h p 1 (nI s)) (p + 1) f) (fun rv h' => rv = none ∧ ∃ f : Nat → Int32, h' = m_putA (m_put h p 1 (nI s)) (p + 1) f ∧ (∀ i, i < s → f i = nI 0)) := by
    intro n
    induction n with
    | zero =>
      intro i f hi hf
      have hs2 : (m_putA (m_put h p 1 (nI s)) (p + 1) f).1 p 1 = nI s := by rw [ma_k (by omega)]; exact mp_eq _ _ _ _
      refine ev_iload_n dX7_fillWithZeros_19 rfl ?_
      refine ev_aload_n dX7_fillWithZeros_20 rfl ?_
      refine ev_getIv (hs2) fl_X7_21 hp rfl dX7_fillWithZeros_21 ?_
      refine ev_icmp_geN 40 dX7_fillWithZeros_24 (by decide) (by omega) (by omega) (fun c24 => ?_) (fun c24 => ?_)
      · refine ev_ret dX7_fillWithZeros_40 rfl ?_
        exact ⟨rfl, f, rfl, fun i h => hf i (by omega)⟩
      · omega
    | succ n ih =>
      intro i f hi hf
      have hs2 : (m_putA (m_put h p 1 (nI s)) (p + 1) f).1 p 1 = nI s := by rw [ma_k (by omega)]; exact mp_eq _ _ _ _
      have e3 : m_put (m_putA (m_put h p 1 (nI s)) (p + 1) f) (p + 1) i (nI 0) = m_putA (m_put h p 1 (nI s)) (p + 1) (upd f i (nI 0)) := by
        unfold m_put
        rw [ma_eq]
        simp only [m_putA]
        congr 1
        funext k'
        by_cases e : k' = p + 1 <;> simp [e]
      refine ev_iload_n dX7_fillWithZeros_19 rfl ?_
      refine ev_aload_n dX7_fillWithZeros_20 rfl ?_
      refine ev_getIv (hs2) fl_X7_21 hp rfl dX7_fillWithZeros_21 ?_
      refine ev_icmp_geN 40 dX7_fillWithZeros_24 (by decide) (by omega) (by omega) (fun c24 => ?_) (fun c24 => ?_)
      · omega
      · refine ev_aload_n dX7_fillWithZeros_27 rfl ?_
        refine ev_getR fl_X7_15 hp rfl dX7_fillWithZeros_28 ?_
        refine ev_iload_n dX7_fillWithZeros_31 rfl ?_
        refine ev_iconst (nI 0) dX7_fillWithZeros_32 rfl ?_
        refine ev_iastN ha dX7_fillWithZeros_33 (by omega) (by omega) ?_
        refine ev_inc2N dX7_fillWithZeros_34 (by decide) rfl ?_
        refine ev_goto 19 dX7_fillWithZeros_37 (by decide) ?_
        rw [e3]
        exact ih (i + 1) _ (by omega) (fun j hj => by
          by_cases e : j = i
          · subst e; exact pk_us
          · rw [pk_un e]; exact hf j (by omega))
  refine ev_start 1 (lv := [some (.ref p), some (.int (nI s)), none]) rfl (by decide) (Nat.le_of_ble_eq_true rfl) ?_
  refine ev_aload_n dX7_fillWithZeros_0 rfl ?_
  refine ev_iconst (nI 0) dX7_fillWithZeros_1 rfl ?_
  refine ev_iload_n dX7_fillWithZeros_2 rfl ?_
  refine ev_aload_n dX7_fillWithZeros_3 rfl ?_
  refine ev_getR fl_X7_15 hp rfl dX7_fillWithZeros_4 ?_
  refine ev_alen ha (by decide) dX7_fillWithZeros_7 ?_
  refine ev_minN ml_X7_25 (Nat.le_of_ble_eq_true rfl) dX7_fillWithZeros_8 (by omega) (by omega) ?_
  rw [e1]
  refine ev_maxN ml_X7_9 (Nat.le_of_ble_eq_true rfl) dX7_fillWithZeros_11 (by omega) (by omega) ?_
  rw [e2]
  refine ev_putI fp_X7_21 hp rfl rfl rfl dX7_fillWithZeros_14 ?_
  refine ev_iconst (nI 0) dX7_fillWithZeros_17 rfl ?_
  refine ev_ist2 dX7_fillWithZeros_18 (by decide) rfl ?_
  have e4 : m_put h p 1 (nI s) = m_putA (m_put h p 1 (nI s)) (p + 1) (h.1 (p + 1)) := by
    simp only [m_put, m_putA]
    congr 1
    funext k'
    by_cases e : k' = p + 1
    · subst e; simp
    · simp [e]
  refine ev_heap e4 ?_
  exact loop s 0 _ (by omega) (fun j hj => absurd hj (by omega))
/-- the place of the first difference of two rows, as mismatch says it -/
noncomputable def mism (f g : Nat → Int32) (s t : Nat) : Nat → Nat → Int32
  | 0, _ => if s = t then -2 else nI (min s t)
  | n + 1, i => if f i = g i then mism f g s t n (i + 1) else nI i
theorem cl_mismatch {p q cp cq s t : Nat} (hr : isRow p cp) (hq : isRow q cq) (hs : h.1 p 1 = nI s) (ht : h.1 q 1 = nI t) (h1 : s ≤ cp) (h2 : t ≤ cq) : Cl G (d + 1) M_X7_mismatch [.ref p, .ref q] h (qI (mism (h.1 (p + 1)) (h.1 (q + 1)) s t (min s t) 0) h) := by
  obtain ⟨hp, ha, hcap⟩ := hr
  obtain ⟨hq, hb, hcaq⟩ := hq
  have m1 : min s t ≤ s := Nat.min_le_left _ _
  have m2 : min s t ≤ t := Nat.min_le_right _ _
  have loop : ∀ (n i : Nat), i + n = min s t → Ev G (d + 1) M_X7_mismatch 14 [some (.ref p), some (.ref q), some (.int (nI (min s t))), some (.int (nI i))] [] h (qI (mism (h.1 (p + 1)) (h.1 (q + 1)) s t n i) h) := by
    intro n
    induction n with
    | zero =>
      intro i hi
      refine ev_iload_n dX7_mismatch_14 rfl ?_
      refine ev_iload_n dX7_mismatch_15 rfl ?_
      refine ev_icmp_geN 42 dX7_mismatch_16 (by decide) (by omega) (by omega) (fun c16 => ?_) (fun c16 => ?_)
      · refine ev_aload_n dX7_mismatch_42 rfl ?_
        refine ev_getIv (hs) fl_X7_21 hp rfl dX7_mismatch_43 ?_
        refine ev_aload_n dX7_mismatch_46 rfl ?_
        refine ev_getIv (ht) fl_X7_21 hq rfl dX7_mismatch_47 ?_
        refine ev_icmp_neN 58 dX7_mismatch_50 (by decide) (by omega) (by omega) (fun c50 => ?_) (fun c50 => ?_)
        · refine ev_iload_n dX7_mismatch_58 rfl ?_
          refine ev_iret dX7_mismatch_59 rfl ?_
          exact ⟨by unfold mism; rw [if_neg c50], rfl⟩
        · refine ev_bipush (-2) dX7_mismatch_53 rfl ?_
          refine ev_goto 59 dX7_mismatch_55 (by decide) ?_
          refine ev_iret dX7_mismatch_59 rfl ?_
          exact ⟨by unfold mism; rw [if_pos c50], rfl⟩
      · omega
    | succ n ih =>
      intro i hi
      refine ev_iload_n dX7_mismatch_14 rfl ?_
      refine ev_iload_n dX7_mismatch_15 rfl ?_
      refine ev_icmp_geN 42 dX7_mismatch_16 (by decide) (by omega) (by omega) (fun c16 => ?_) (fun c16 => ?_)
      · omega
      · refine ev_aload_n dX7_mismatch_19 rfl ?_
        refine ev_getR fl_X7_15 hp rfl dX7_mismatch_20 ?_
        refine ev_iload_n dX7_mismatch_23 rfl ?_
        refine ev_ialdN ha dX7_mismatch_24 (by omega) (by omega) ?_
        refine ev_aload_n dX7_mismatch_25 rfl ?_
        refine ev_getR fl_X7_15 hq rfl dX7_mismatch_26 ?_
        refine ev_iload_n dX7_mismatch_29 rfl ?_
        refine ev_ialdN hb dX7_mismatch_30 (by omega) (by omega) ?_
        refine ev_icmp_eq 36 dX7_mismatch_31 (by decide) (fun c31 => ?_) (fun c31 => ?_)
        · refine ev_inc3N dX7_mismatch_36 (by decide) rfl ?_
          refine ev_goto 14 dX7_mismatch_39 (by decide) ?_
          unfold mism
          rw [if_pos c31]
          exact ih (i + 1) (by omega)
        · refine ev_iload_n dX7_mismatch_34 rfl ?_
          refine ev_iret dX7_mismatch_35 rfl ?_
          exact ⟨by unfold mism; rw [if_neg c31], rfl⟩
  refine ev_start 2 (lv := [some (.ref p), some (.ref q), none, none]) rfl (by decide) (Nat.le_of_ble_eq_true rfl) ?_
  refine ev_aload_n dX7_mismatch_0 rfl ?_
  refine ev_getIv (hs) fl_X7_21 hp rfl dX7_mismatch_1 ?_
  refine ev_aload_n dX7_mismatch_4 rfl ?_
  refine ev_getIv (ht) fl_X7_21 hq rfl dX7_mismatch_5 ?_
  refine ev_minN ml_X7_25 (Nat.le_of_ble_eq_true rfl) dX7_mismatch_8 (by omega) (by omega) ?_
  refine ev_ist2 dX7_mismatch_11 (by decide) rfl ?_
  refine ev_iconst (nI 0) dX7_mismatch_12 rfl ?_
  refine ev_ist3 dX7_mismatch_13 (by decide) rfl ?_
  exact loop (min s t) 0 (by omega)
/-- an element by its number, or the error -/
def itemE (f : Nat → Int32) (s : Nat) (x : Int32) : Int32 := if x < 0 then -1 else if x < nI s then f x.toNatClampNeg else -2
theorem itemE_neg {f : Nat → Int32} {s : Nat} {x : Int32} (hx : x < 0) : itemE f s x = -1 := if_pos hx
theorem itemE_in {f : Nat → Int32} {s j : Nat} (hj : j < s) (hs : s < 2 ^ 31) : itemE f s (nI j) = f j := by
  unfold itemE
  rw [if_neg (nI_pos (by omega)), if_pos (nI_lt hj hs), nI_clamp (by omega)]
theorem itemE_out {f : Nat → Int32} {s : Nat} {x : Int32} (h0 : ¬ x < 0) (hx : ¬ x < nI s) : itemE f s x = -2 := by
  unfold itemE
  rw [if_neg h0, if_neg hx]
theorem cl_itemOrError {p cap s : Nat} {x : Int32} (hr : isRow p cap) (hs : h.1 p 1 = nI s) (hb : s ≤ cap) : Cl G d M_X11_itemOrError [.ref p, .int x] h (qI (itemE (h.1 (p + 1)) s x) h) := by
  obtain ⟨hp, ha, hcap⟩ := hr
  by_cases hx : inR x s
  · obtain ⟨j, hj, rfl⟩ := hx
    rw [itemE_in hj (by omega)]
    refine ev_start 0 (lv := [some (.ref p), some (.int (nI j))]) rfl (by decide) (Nat.le_of_ble_eq_true rfl) ?_
    refine ev_iload_n dX11_itemOrError_0 rfl ?_
    refine ev_if_geN 6 dX11_itemOrError_1 (by decide) (by omega) (fun c1 => ?_) (fun c1 => ?_)
    · refine ev_iload_n dX11_itemOrError_6 rfl ?_
      refine ev_aload_n dX11_itemOrError_7 rfl ?_
      refine ev_getIv (hs) fl_X11_148 hp rfl dX11_itemOrError_8 ?_
      refine ev_icmp_geN 23 dX11_itemOrError_11 (by decide) (by omega) (by omega) (fun c11 => ?_) (fun c11 => ?_)
      · omega
      · refine ev_aload_n dX11_itemOrError_14 rfl ?_
        refine ev_getR fl_X11_215 hp rfl dX11_itemOrError_15 ?_
        refine ev_iload_n dX11_itemOrError_18 rfl ?_
        refine ev_ialdN ha dX11_itemOrError_19 (by omega) (by omega) ?_
        refine ev_goto 25 dX11_itemOrError_20 (by decide) ?_
        refine ev_iret dX11_itemOrError_25 rfl ?_
        exact ⟨by with_reducible rfl, rfl⟩
    · exact c1.elim
  · skip
    refine ev_start 0 (lv := [some (.ref p), some (.int x)]) rfl (by decide) (Nat.le_of_ble_eq_true rfl) ?_
    refine ev_iload_n dX11_itemOrError_0 rfl ?_
    refine ev_if_ge 6 dX11_itemOrError_1 (by decide) (fun c1 => ?_) (fun c1 => ?_)
    · refine ev_iload_n dX11_itemOrError_6 rfl ?_
      refine ev_aload_n dX11_itemOrError_7 rfl ?_
      refine ev_getIv (hs) fl_X11_148 hp rfl dX11_itemOrError_8 ?_
      refine ev_icmp_ge 23 dX11_itemOrError_11 (by decide) (fun c11 => ?_) (fun c11 => ?_)
      · refine ev_bipush (-2) dX11_itemOrError_23 rfl ?_
        refine ev_iret dX11_itemOrError_25 rfl ?_
        exact ⟨by rw [itemE_out (Int32.not_lt.mpr c1) (Int32.not_lt.mpr c11)], rfl⟩
      · exact absurd (inR_of (by omega) (Int32.not_lt.mpr c1) c11) hx
    · refine ev_iconst (-1) dX11_itemOrError_4 rfl ?_
      refine ev_iret dX11_itemOrError_5 rfl ?_
      exact ⟨by rw [itemE_neg (Int32.not_le.mp c1)], rfl⟩
end ROW
