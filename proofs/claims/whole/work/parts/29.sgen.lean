section SGEN
variable {G : MG} {d : Nat} {h : MH}
theorem deg_dn {m c v : Nat} (hv : v < 7) (hc : c < 128) (ev : 0 < ex m v) : deg (m - 4 ^ v &&& mk c) + (if c.testBit v = true then 1 else 0) = deg (m &&& mk c) := by
  have key : ∀ w, w < 7 → ex (m - 4 ^ v &&& mk c) w + (if w = v then (if c.testBit v = true then 1 else 0) else 0) = ex (m &&& mk c) w := by
    intro w hw
    rw [ex_mk hc hw, ex_mk hc hw, ex_sub ev]
    by_cases e : w = v
    · subst e
      simp only [if_true]
      split
      · omega
      · rfl
    · simp [e]
  generalize (m - 4 ^ v &&& mk c) = A at key ⊢
  generalize (if c.testBit v = true then 1 else 0) = t at key ⊢
  have k0 := key 0 (by decide)
  have k1 := key 1 (by decide)
  have k2 := key 2 (by decide)
  have k3 := key 3 (by decide)
  have k4 := key 4 (by decide)
  have k5 := key 5 (by decide)
  have k6 := key 6 (by decide)
  unfold deg
  rcases (show v = 0 ∨ v = 1 ∨ v = 2 ∨ v = 3 ∨ v = 4 ∨ v = 5 ∨ v = 6 by omega) with rfl | rfl | rfl | rfl | rfl | rfl | rfl <;> simp at k0 k1 k2 k3 k4 k5 k6 <;> omega
theorem deg_sub {m v : Nat} (hv : v < 7) (ev : 0 < ex m v) : deg (m - 4 ^ v) + 1 = deg m := by
  have key : ∀ w, ex (m - 4 ^ v) w = if w = v then ex m v - 1 else ex m w := fun w => ex_sub ev w
  unfold deg
  rw [key 0, key 1, key 2, key 3, key 4, key 5, key 6]
  rcases (show v = 0 ∨ v = 1 ∨ v = 2 ∨ v = 3 ∨ v = 4 ∨ v = 5 ∨ v = 6 by omega) with rfl | rfl | rfl | rfl | rfl | rfl | rfl <;> simp <;> omega
theorem mk_bit : ∀ c, c < 128 → ∀ i, i < 14 → (mk c).testBit i = c.testBit (i / 2) := by decide +kernel
theorem ex_bits {m v : Nat} : 0 < ex m v ↔ m.testBit (2 * v) = true ∨ m.testBit (2 * v + 1) = true := by
  unfold ex
  rw [← pow4, Nat.testBit_eq_decide_div_mod_eq, Nat.testBit_eq_decide_div_mod_eq, Nat.pow_succ, ← Nat.div_div_eq_div_mul]
  simp only [decide_eq_true_eq]
  omega
/-- the masks of the covers that a monomial meets just s times -/
def ndF (s m : Nat) : List Nat → Nat
  | [] => 0
  | c :: l => (if deg (m &&& mk c) = s then mk c else 0) ||| ndF s m l
theorem ndF_bit {s m i : Nat} : ∀ l, (ndF s m l).testBit i = true ↔ ∃ c, c ∈ l ∧ deg (m &&& mk c) = s ∧ (mk c).testBit i = true
  | [] => by simp [ndF]
  | c :: l => by
    unfold ndF
    rw [Nat.testBit_or, Bool.or_eq_true, ndF_bit l]
    constructor
    · rintro (q | ⟨x, h1, h2⟩)
      · by_cases e : deg (m &&& mk c) = s
        · rw [if_pos e] at q; exact ⟨c, List.mem_cons_self, e, q⟩
        · rw [if_neg e] at q; simp at q
      · exact ⟨x, List.mem_cons_of_mem _ h1, h2⟩
    · rintro ⟨x, h1, h2, h3⟩
      rcases List.mem_cons.mp h1 with rfl | h
      · left; rw [if_pos h2]; exact h3
      · exact Or.inr ⟨x, h, h2, h3⟩
theorem ndF_app {s m c : Nat} : ∀ l, ndF s m (l ++ [c]) = ndF s m l ||| (if deg (m &&& mk c) = s then mk c else 0)
  | [] => by simp [ndF]
  | x :: l => by simp only [List.cons_append, ndF, ndF_app l, Nat.or_assoc]
theorem ndF_lt {s m : Nat} : ∀ l, (∀ c, c ∈ l → c < 128) → ndF s m l < 16384
  | [], _ => by show (0 : Nat) < 16384; decide
  | c :: l, h => by
    unfold ndF
    refine or_lt14 ?_ (ndF_lt l (fun x hx => h x (List.mem_cons_of_mem _ hx)))
    split
    · exact (mk_ok c (h c List.mem_cons_self)).1
    · decide
theorem SG_iff {n N s m : Nat} (ok : gOK n N) (hs : s ≤ 21) (hm : m < 4 ^ n) : SG n N s m ↔ (∀ c, c ∈ cvL n N → s ≤ deg (m &&& mk c)) ∧ andn m (ndF s m (cvL n N)) = 0 := by
  have hn := ok.2.1
  have h4 := four_n hn
  have hso : ∀ m', s ≤ so n N m' ↔ ∀ c, c ∈ cvL n N → s ≤ deg (m' &&& mk c) := fun m' => by
    unfold so; rw [mnf_le]; exact ⟨fun q => q.2, fun q => ⟨hs, q⟩⟩
  unfold SG
  rw [hso]
  refine and_congr_right (fun hall => ?_)
  have hz : andn m (ndF s m (cvL n N)) = 0 ↔ ∀ v, v < n → 0 < ex m v → ∃ c, c ∈ cvL n N ∧ deg (m &&& mk c) = s ∧ c.testBit v = true := by
    rw [set_eq0 (k := 14) (andn_lt (show m < 2 ^ 14 by omega))]
    constructor
    · intro q v hv ev
      rcases ex_bits.mp ev with b | b
      · have := q (2 * v) (by omega)
        rw [andn_bit, b] at this
        simp at this
        obtain ⟨c, c1, c2, c3⟩ := (ndF_bit _).mp this
        rw [mk_bit c (cvL_lt ok c1) _ (by omega), show 2 * v / 2 = v by omega] at c3
        exact ⟨c, c1, c2, c3⟩
      · have := q (2 * v + 1) (by omega)
        rw [andn_bit, b] at this
        simp at this
        obtain ⟨c, c1, c2, c3⟩ := (ndF_bit _).mp this
        rw [mk_bit c (cvL_lt ok c1) _ (by omega), show (2 * v + 1) / 2 = v by omega] at c3
        exact ⟨c, c1, c2, c3⟩
    · intro q i hi
      rw [andn_bit]
      cases b : m.testBit i with
      | false => rfl
      | true =>
        have ev : 0 < ex m (i / 2) := by
          rw [ex_bits]
          rcases (show i = 2 * (i / 2) ∨ i = 2 * (i / 2) + 1 by omega) with e | e
          · left; rw [← e]; exact b
          · right; rw [← e]; exact b
        have hv : i / 2 < n := Nat.lt_of_not_le (fun z => by rw [ex_big hm z] at ev; omega)
        obtain ⟨c, c1, c2, c3⟩ := q (i / 2) hv ev
        have : (ndF s m (cvL n N)).testBit i = true := (ndF_bit _).mpr ⟨c, c1, c2, by rw [mk_bit c (cvL_lt ok c1) i hi]; exact c3⟩
        rw [this]; rfl
  rw [hz]
  constructor
  · intro q v hv ev
    have h1 := q v hv ev
    rw [hso] at h1
    have : ∃ c, c ∈ cvL n N ∧ ¬ s ≤ deg (m - 4 ^ v &&& mk c) := by
      apply Classical.byContradiction
      intro z
      exact h1 (fun c hc => Classical.byContradiction (fun w => z ⟨c, hc, w⟩))
    obtain ⟨c, hc, hd⟩ := this
    have d1 := deg_dn (show v < 7 by omega) (cvL_lt ok hc) ev
    have d2 := hall c hc
    refine ⟨c, hc, ?_, ?_⟩
    · split at d1 <;> omega
    · cases b : c.testBit v with
      | true => rfl
      | false => rw [b] at d1; simp at d1; omega
  · intro q v hv ev
    obtain ⟨c, hc, c2, c3⟩ := q v hv ev
    rw [hso]
    intro z
    have d1 := deg_dn (show v < 7 by omega) (cvL_lt ok hc) ev
    rw [if_pos c3] at d1
    have := z c hc
    omega
theorem cl_isSymbolicGenerator {n N s m : Nat} (ok : gOK n N) (kc : kC h n N) (hm : m < 4 ^ n) (h3 : s ≤ 3) : Cl G (d + 2) M_X2_isSymbolicGenerator [.ref 4, .int (nI m), .int (nI s)] h (qI (nI (b01 (SG n N s m))) h) := by
  have hn := ok.2.1
  have h4 := four_n hn
  have l35 := cvL_len ok
  obtain ⟨k1, k2, k3, k4, k5⟩ := kc
  rw [b01_c (SG_iff ok (show s ≤ 21 by omega) hm)]
  have nl : ∀ i, ndF s m ((cvL n N).take i) < 16384 := fun i => ndF_lt _ (fun c hc => cvL_lt ok (List.mem_of_mem_take hc))
  have loop : ∀ (k i : Nat), i + k = (cvL n N).length → (∀ c, c ∈ (cvL n N).take i → s ≤ deg (m &&& mk c)) → ∀ x5 : Option Value, Ev G (d + 2) M_X2_isSymbolicGenerator 5 [some (.ref 4), some (.int (nI m)), some (.int (nI s)), some (.int (nI (ndF s m ((cvL n N).take i)))), some (.int (nI i)), x5] [] h (qI (nI (b01 ((∀ c, c ∈ cvL n N → s ≤ deg (m &&& mk c)) ∧ andn m (ndF s m (cvL n N)) = 0))) h) := by
    intro k
    induction k with
    | zero =>
      intro i hi hw x5
      have n0 := nl i
      rw [List.take_of_length_le (by omega)] at hw n0 ⊢
      have a1 : andn m (ndF s m (cvL n N)) < 16384 := andn_lt (by omega)
      refine ev_iload dX2_isSymbolicGenerator_5 rfl ?_
      refine ev_aload_n dX2_isSymbolicGenerator_7 rfl ?_
      refine ev_getR fl_X2_30 rfl rfl dX2_isSymbolicGenerator_8 ?_
      refine ev_getIv (k4) fl_X2_89 rfl rfl dX2_isSymbolicGenerator_11 ?_
      refine ev_icmp_geN 67 dX2_isSymbolicGenerator_14 (by decide) (by omega) (by omega) (fun c14 => ?_) (fun c14 => ?_)
      · refine ev_iload_n dX2_isSymbolicGenerator_67 rfl ?_
        refine ev_iload_n dX2_isSymbolicGenerator_68 rfl ?_
        refine ev_iconst (-1) dX2_isSymbolicGenerator_69 rfl ?_
        refine ev_ixor dX2_isSymbolicGenerator_70 ?_
        refine ev_iandC dX2_isSymbolicGenerator_71 ?_
        refine ev_if_neN 79 dX2_isSymbolicGenerator_72 (by decide) (by omega) (fun c72 => ?_) (fun c72 => ?_)
        · refine ev_iconst (nI 0) dX2_isSymbolicGenerator_79 rfl ?_
          refine ev_zret dX2_isSymbolicGenerator_80 rfl rfl ?_
          rw [b01_f (fun q => c72 q.2)]; exact ⟨by with_reducible rfl, rfl⟩
        · refine ev_iconst (nI 1) dX2_isSymbolicGenerator_75 rfl ?_
          refine ev_goto 80 dX2_isSymbolicGenerator_76 (by decide) ?_
          refine ev_zret dX2_isSymbolicGenerator_80 rfl rfl ?_
          rw [b01_t ⟨hw, c72⟩]; exact ⟨by with_reducible rfl, rfl⟩
      · omega
    | succ k ih =>
      intro i hi hw x5
      have hv : h.1 9 i = nI (mk ((cvL n N).getD i 0)) := by rw [k5 i (by rw [List.length_map]; omega), getD_map (by omega)]
      have hmem := getD_mem (L := cvL n N) (i := i) (by omega)
      have hc := cvL_lt ok hmem
      have a1 : m &&& mk ((cvL n N).getD i 0) < 16384 := and_lt (by omega)
      have dl := deg_le (m := m &&& mk ((cvL n N).getD i 0))
      have nxt : s ≤ deg (m &&& mk ((cvL n N).getD i 0)) → ∀ c, c ∈ (cvL n N).take (i + 1) → s ≤ deg (m &&& mk c) := by
        intro q c hc
        rw [take_snoc (by omega)] at hc
        rcases List.mem_append.mp hc with z | z
        · exact hw c z
        · rw [List.mem_singleton.mp z]; exact q
      refine ev_iload dX2_isSymbolicGenerator_5 rfl ?_
      refine ev_aload_n dX2_isSymbolicGenerator_7 rfl ?_
      refine ev_getR fl_X2_30 rfl rfl dX2_isSymbolicGenerator_8 ?_
      refine ev_getIv (k4) fl_X2_89 rfl rfl dX2_isSymbolicGenerator_11 ?_
      refine ev_icmp_geN 67 dX2_isSymbolicGenerator_14 (by decide) (by omega) (by omega) (fun c14 => ?_) (fun c14 => ?_)
      · omega
      · refine ev_iload_n dX2_isSymbolicGenerator_17 rfl ?_
        refine ev_aload_n dX2_isSymbolicGenerator_18 rfl ?_
        refine ev_getR fl_X2_30 rfl rfl dX2_isSymbolicGenerator_19 ?_
        refine ev_getR fl_X2_110 rfl rfl dX2_isSymbolicGenerator_22 ?_
        refine ev_iload dX2_isSymbolicGenerator_25 rfl ?_
        refine ev_ialdv (hv) rfl dX2_isSymbolicGenerator_27 (by omega) (by omega) ?_
        refine ev_iandN dX2_isSymbolicGenerator_28 ?_
        refine ev_callS (cl_degreeOf a1) ok_X6_degreeOf ml_X2_119 rfl rfl (Nat.le_of_ble_eq_true rfl) dX2_isSymbolicGenerator_29 (kI ?_)
        refine ev_ist5 dX2_isSymbolicGenerator_32 (by decide) rfl ?_
        refine ev_iload dX2_isSymbolicGenerator_34 rfl ?_
        refine ev_iload_n dX2_isSymbolicGenerator_36 rfl ?_
        refine ev_icmp_geN 42 dX2_isSymbolicGenerator_37 (by decide) (by omega) (by omega) (fun c37 => ?_) (fun c37 => ?_)
        · refine ev_iload dX2_isSymbolicGenerator_42 rfl ?_
          refine ev_iload_n dX2_isSymbolicGenerator_44 rfl ?_
          refine ev_icmp_neN 61 dX2_isSymbolicGenerator_45 (by decide) (by omega) (by omega) (fun c45 => ?_) (fun c45 => ?_)
          · refine ev_inc4N dX2_isSymbolicGenerator_61 (by decide) rfl ?_
            refine ev_goto 5 dX2_isSymbolicGenerator_64 (by decide) ?_
            have q := ih (i + 1) (by omega) (nxt (by omega)) (some (.int (nI (deg (m &&& mk ((cvL n N).getD i 0))))))
            rw [take_snoc (by omega), ndF_app, if_neg c45, Nat.or_zero] at q
            exact q
          · refine ev_iload_n dX2_isSymbolicGenerator_48 rfl ?_
            refine ev_aload_n dX2_isSymbolicGenerator_49 rfl ?_
            refine ev_getR fl_X2_30 rfl rfl dX2_isSymbolicGenerator_50 ?_
            refine ev_getR fl_X2_110 rfl rfl dX2_isSymbolicGenerator_53 ?_
            refine ev_iload dX2_isSymbolicGenerator_56 rfl ?_
            refine ev_ialdv (hv) rfl dX2_isSymbolicGenerator_58 (by omega) (by omega) ?_
            refine ev_iorN dX2_isSymbolicGenerator_59 ?_
            refine ev_ist3 dX2_isSymbolicGenerator_60 (by decide) rfl ?_
            refine ev_inc4N dX2_isSymbolicGenerator_61 (by decide) rfl ?_
            refine ev_goto 5 dX2_isSymbolicGenerator_64 (by decide) ?_
            have q := ih (i + 1) (by omega) (nxt (by omega)) (some (.int (nI (deg (m &&& mk ((cvL n N).getD i 0))))))
            rw [take_snoc (by omega), ndF_app, if_pos (by omega)] at q
            exact q
        · refine ev_iconst (nI 0) dX2_isSymbolicGenerator_40 rfl ?_
          refine ev_zret dX2_isSymbolicGenerator_41 rfl rfl ?_
          rw [b01_f (fun q => absurd (q.1 _ hmem) (by omega))]; exact ⟨by with_reducible rfl, rfl⟩
  refine ev_start 3 (lv := [some (.ref 4), some (.int (nI m)), some (.int (nI s)), none, none, none]) rfl (by decide) (Nat.le_of_ble_eq_true rfl) ?_
  refine ev_iconst (nI 0) dX2_isSymbolicGenerator_0 rfl ?_
  refine ev_ist3 dX2_isSymbolicGenerator_1 (by decide) rfl ?_
  refine ev_iconst (nI 0) dX2_isSymbolicGenerator_2 rfl ?_
  refine ev_ist4 dX2_isSymbolicGenerator_3 (by decide) rfl ?_
  exact loop (cvL n N).length 0 (by omega) (fun c hc => absurd hc (by simp)) _
theorem sgL_mem {n N s m : Nat} : m ∈ sgL n N s ↔ m < 4 ^ n ∧ SG n N s m := selD_mem _
theorem dvd_so {n N a b : Nat} (ok : gOK n N) (hd : dvd a b) : so n N a ≤ so n N b := by
  unfold so
  rw [mnf_le]
  have h1 := (mnf_le (fun c => deg (a &&& mk c)) (cvL n N) 21 _).mp (Nat.le_refl _)
  refine ⟨h1.1, fun c hc => Nat.le_trans (h1.2 c hc) ?_⟩
  have hl := cvL_lt ok hc
  have key : ∀ w, w < 7 → ex (a &&& mk c) w ≤ ex (b &&& mk c) w := by
    intro w hw
    rw [ex_mk hl hw, ex_mk hl hw]
    split
    · exact hd w hw
    · exact Nat.le_refl _
  have k0 := key 0 (by decide)
  have k1 := key 1 (by decide)
  have k2 := key 2 (by decide)
  have k3 := key 3 (by decide)
  have k4 := key 4 (by decide)
  have k5 := key 5 (by decide)
  have k6 := key 6 (by decide)
  unfold deg; omega
theorem ex_ext {a b : Nat} (ha : a < 16384) (hb : b < 16384) (h : ∀ w, w < 7 → ex a w = ex b w) : a = b := by
  have h0 := h 0 (by decide)
  have h1 := h 1 (by decide)
  have h2 := h 2 (by decide)
  have h3 := h 3 (by decide)
  have h4 := h 4 (by decide)
  have h5 := h 5 (by decide)
  have h6 := h 6 (by decide)
  simp only [ex, Nat.pow_zero, Nat.div_one, Nat.reducePow] at h0 h1 h2 h3 h4 h5 h6
  omega
theorem sgL_len {n N s : Nat} (ok : gOK n N) : (sgL n N s).length ≤ 2128 := by
  have hn := ok.2.1
  have h4 := four_n hn
  refine anti2128 (selD_nd _) (fun x hx => by have := (sgL_mem.mp hx).1; omega) (fun x y hx hy hd => ?_)
  obtain ⟨x1, x2⟩ := sgL_mem.mp hx
  obtain ⟨y1, y2⟩ := sgL_mem.mp hy
  apply Classical.byContradiction
  intro hne
  have : ∃ v, v < 7 ∧ ex x v < ex y v := by
    apply Classical.byContradiction
    intro z
    apply hne
    refine ex_ext (by omega) (by omega) (fun w hw => ?_)
    have := hd w hw
    apply Classical.byContradiction
    intro q
    exact z ⟨w, hw, by omega⟩
  obtain ⟨v, hv, hlt⟩ := this
  have ev : 0 < ex y v := by omega
  have hvn : v < n := Nat.lt_of_not_le (fun z => by rw [ex_big y1 z] at ev; omega)
  refine y2.2 v hvn ev (Nat.le_trans x2.1 (dvd_so ok (fun w hw => ?_)))
  rw [ex_sub ev]
  split
  · next e => subst e; omega
  · exact hd w hw
theorem cl_symbolicGenerators {n N k : Nat} (g : gC h n N) (ok : gOK n N) (c : cI h n N) (hk : k < 3) : Cl G (d + 3) M_X2_symbolicGenerators [.ref 4, .int (nI (k + 1))] h (fun rv h' => rv = some (.ref (20 + 2 * k)) ∧ iq n N h h' ∧ cI h' n N ∧ rowIs h' (20 + 2 * k) (sgL n N (k + 1)) ∧ h'.1 11 = h.1 11) := by
  have hn := ok.2.1
  have h4 := four_n hn
  have h41 := four_pos n
  have e1 : k + 1 - 1 = k := by omega
  obtain ⟨hp, ha, hcap⟩ := rowS hk
  have hlen := sgL_len (s := k + 1) ok
  obtain ⟨-, -, c3⟩ := id c
  rcases c3 k hk with hf | ⟨hf, hrow⟩
  · have loop : ∀ (q : Nat) (L : List Nat) (h1 : MH), q ≤ 4 ^ n → iq n N h h1 → h1.1 11 = h.1 11 → cI h1 n N → kC h1 n N → h1.1 13 k = nI 0 → rowIs h1 (20 + 2 * k) L → L ++ selD (SG n N (k + 1)) q = sgL n N (k + 1) → Ev G (d + 3) M_X2_symbolicGenerators 38 [some (.ref 4), some (.int (nI (k + 1))), some (.ref (20 + 2 * k)), some (.int (dnI q))] [] h1 (fun rv h' => rv = some (.ref (20 + 2 * k)) ∧ iq n N h h' ∧ cI h' n N ∧ rowIs h' (20 + 2 * k) (sgL n N (k + 1)) ∧ h'.1 11 = h.1 11) := by
      intro q
      induction q with
      | zero =>
        intro L h1 hq hi hz c1 kc hf1 hr hL
        have hL' : L = sgL n N (k + 1) := by rw [← hL]; simp [selD]
        subst hL'
        have kk : ∀ i, i ≠ 13 → (m_put h1 13 k (nI 1)).1 i = h1.1 i := fun i hi => mp_k hi
        refine ev_iload_n dX2_symbolicGenerators_38 rfl ?_
        refine ev_if_lt 63 dX2_symbolicGenerators_39 (by decide) (fun c39 => ?_) (fun c39 => ?_)
        · refine ev_aload_n dX2_symbolicGenerators_63 rfl ?_
          refine ev_getR fl_X2_44 rfl rfl dX2_symbolicGenerators_64 ?_
          refine ev_iload_n dX2_symbolicGenerators_67 rfl ?_
          refine ev_iconst (nI 1) dX2_symbolicGenerators_68 rfl ?_
          refine ev_isubN dX2_symbolicGenerators_69 (by omega) ?_
          rw [e1]
          refine ev_iconst (nI 1) dX2_symbolicGenerators_70 rfl ?_
          refine ev_zastN rfl dX2_symbolicGenerators_71 (by omega) (by omega) rfl ?_
          refine ev_aload_n dX2_symbolicGenerators_72 rfl ?_
          refine ev_aret dX2_symbolicGenerators_73 rfl ?_
          have hr2 : rowIs (m_put h1 13 k (nI 1)) (20 + 2 * k) (sgL n N (k + 1)) := ⟨by rw [kk _ (by omega)]; exact hr.1, by rw [kk _ (by omega)]; exact hr.2⟩
          refine ⟨rfl, hi.tr (iq_of (same_put (by simp)) (by rw [kk 4 (by decide)]) (kk 5 (by decide))), ?_, hr2, by rw [kk 11 (by decide)]; exact hz⟩
          obtain ⟨⟨ko2, z1, z2⟩, b, c3⟩ := c1
          refine ⟨⟨ko2, ⟨z1.1, by rw [kk 4 (by decide)]; exact z1.2.1, fun j hj => by rw [kk 5 (by decide)]; exact z1.2.2 j hj⟩, fun i hi => ?_⟩, ?_, fun i hi => ?_⟩
          · rcases z2 i hi with w | ⟨w1, w2, w3⟩
            · left; rw [kk 11 (by decide)]; exact w
            · right; exact ⟨by rw [kk 11 (by decide)]; exact w1, ⟨by rw [kk _ (by omega)]; exact w2.1, by rw [kk _ (by omega)]; exact w2.2⟩, w3⟩
          · rcases b with w | ⟨w1, w2, w3, w4, w5⟩
            · left; rw [kk 4 (by decide)]; exact w
            · right; exact ⟨by rw [kk 4 (by decide)]; exact w1, by rw [kk 6 (by decide)]; exact w2, by rw [kk 7 (by decide)]; exact w3, by rw [kk 8 (by decide)]; exact w4, by rw [kk 9 (by decide)]; exact w5⟩
          · by_cases e : i = k
            · subst e; right; exact ⟨mp_eq _ _ _ _, hr2⟩
            · rcases c3 i hi with w | ⟨w1, w2⟩
              · left; rw [mp_j e]; exact w
              · right; exact ⟨by rw [mp_j e]; exact w1, ⟨by rw [kk _ (by omega)]; exact w2.1, by rw [kk _ (by omega)]; exact w2.2⟩⟩
        · exact absurd dnI_0 c39
      | succ q ih =>
        intro L h1 hq hi hz c1 kc hf1 hr hL
        rw [dnI_s]
        have q1 := b01_lt (SG n N (k + 1) q)
        refine ev_iload_n dX2_symbolicGenerators_38 rfl ?_
        refine ev_if_ltN 63 dX2_symbolicGenerators_39 (by decide) (by omega) (fun c39 => ?_) (fun c39 => ?_)
        · exact c39.elim
        · refine ev_aload_n dX2_symbolicGenerators_42 rfl ?_
          refine ev_iload_n dX2_symbolicGenerators_43 rfl ?_
          refine ev_iload_n dX2_symbolicGenerators_44 rfl ?_
          refine ev_callV (cl_isSymbolicGenerator ok kc (by omega) (by omega)) ok_X2_isSymbolicGenerator ml_X2_128 rfl rfl rfl rfl (Nat.le_of_ble_eq_true rfl) dX2_symbolicGenerators_45 (kI ?_)
          refine ev_if_eqN 57 dX2_symbolicGenerators_48 (by decide) (by omega) (fun c48 => ?_) (fun c48 => ?_)
          · refine ev_inc3 dX2_symbolicGenerators_57 rfl (by decide) rfl ?_
            refine ev_goto 38 dX2_symbolicGenerators_60 (by decide) ?_
            rw [selD_f (b01_0.mp c48)] at hL
            exact ih L h1 (by omega) hi hz c1 kc hf1 hr hL
          · have hP : SG n N (k + 1) q := b01_1.mp (by omega)
            rw [selD_t hP] at hL
            have hlt : L.length < 2128 := by
              have := congrArg List.length hL
              simp at this; omega
            refine ev_aload_n dX2_symbolicGenerators_51 rfl ?_
            refine ev_iload_n dX2_symbolicGenerators_52 rfl ?_
            refine ev_callV (cl_add (rowS hk) hr.1 hlt) ok_X7_add ml_X2_100 hp rfl rfl rfl (Nat.le_of_ble_eq_true rfl) dX2_symbolicGenerators_53 (kI ?_)
            refine ev_pop dX2_symbolicGenerators_56 rfl ?_
            refine ev_inc3 dX2_symbolicGenerators_57 rfl (by decide) rfl ?_
            refine ev_goto 38 dX2_symbolicGenerators_60 (by decide) ?_
            have kk : ∀ i, i ≠ 20 + 2 * k → i ≠ 20 + 2 * k + 1 → (rowAdd h1 (20 + 2 * k) L.length (nI q)).1 i = h1.1 i := fun i h1 h2 => ra_k h1 h2
            obtain ⟨w1, w2, w3, w4, w5⟩ := kc
            refine ih (L ++ [q]) _ (by omega) (hi.tr (iq_of (fun i hi => ⟨kk i (by omega) (by omega), rfl⟩) (by rw [kk 4 (by omega) (by omega)]) (kk 5 (by omega) (by omega)))) (by rw [kk 11 (by omega) (by omega)]; exact hz) (cI_rowS c1 hk hf1 kk) ⟨by rw [kk 4 (by omega) (by omega)]; exact w1, by rw [kk 6 (by omega) (by omega)]; exact w2, by rw [kk 7 (by omega) (by omega)]; exact w3, by rw [kk 8 (by omega) (by omega)]; exact w4, by rw [kk 9 (by omega) (by omega)]; exact w5⟩ (by rw [kk 13 (by omega) (by omega)]; exact hf1) ⟨by rw [ra_cnt]; simp, by rw [ra_arr]; exact hold_snoc hr.2⟩ (by rw [List.append_assoc]; exact hL)
    have kk : ∀ i, i ≠ 20 + 2 * k → i ≠ 20 + 2 * k + 1 → (m_put h (20 + 2 * k) 1 (nI 0)).1 i = h.1 i := fun i h1 _ => mp_k h1
    have g1 : gC (m_put h (20 + 2 * k) 1 (nI 0)) n N := ⟨by rw [mp_k (by omega)]; exact g.1, g.2⟩
    have c1 := cI_rowS c hk hf kk
    refine ev_start 2 (lv := [some (.ref 4), some (.int (nI (k + 1))), none, none]) rfl (by decide) (Nat.le_of_ble_eq_true rfl) ?_
    refine ev_aload_n dX2_symbolicGenerators_0 rfl ?_
    refine ev_getR fl_X2_41 rfl rfl dX2_symbolicGenerators_1 ?_
    refine ev_iload_n dX2_symbolicGenerators_4 rfl ?_
    refine ev_iconst (nI 1) dX2_symbolicGenerators_5 rfl ?_
    refine ev_isubN dX2_symbolicGenerators_6 (by omega) ?_
    rw [e1]
    refine ev_aaldN (kd := 0) rfl dX2_symbolicGenerators_7 (by decide) (by omega) (by omega) (elS hk) ?_
    refine ev_ast2 dX2_symbolicGenerators_8 (by decide) rfl ?_
    refine ev_aload_n dX2_symbolicGenerators_9 rfl ?_
    refine ev_getR fl_X2_44 rfl rfl dX2_symbolicGenerators_10 ?_
    refine ev_iload_n dX2_symbolicGenerators_13 rfl ?_
    refine ev_iconst (nI 1) dX2_symbolicGenerators_14 rfl ?_
    refine ev_isubN dX2_symbolicGenerators_15 (by omega) ?_
    rw [e1]
    refine ev_zaldN rfl dX2_symbolicGenerators_16 (by omega) (by omega) ?_
    rw [hf]
    refine ev_if_neN 72 dX2_symbolicGenerators_17 (by decide) (by omega) (fun c17 => ?_) (fun c17 => ?_)
    · exact absurd rfl c17
    · refine ev_aload_n dX2_symbolicGenerators_20 rfl ?_
      refine ev_iconst (nI 0) dX2_symbolicGenerators_21 rfl ?_
      refine ev_putI fp_X2_89 hp rfl rfl rfl dX2_symbolicGenerators_22 ?_
      refine ev_aload_n dX2_symbolicGenerators_25 rfl ?_
      refine ev_callV (cl_mc g1 ok c1) ok_X2_minimalCovers ml_X2_106 rfl rfl rfl rfl (Nat.le_of_ble_eq_true rfl) dX2_symbolicGenerators_26 ?_
      rintro rv h2 ⟨rfl, sm, sj, c2, kc⟩
      have g2 : gC h2 n N := ⟨by rw [(sm 1 (by decide)).1]; exact g1.1, by rw [(sm 1 (by decide)).2]; exact g1.2⟩
      refine ev_pop dX2_symbolicGenerators_29 rfl ?_
      refine ev_aload_n dX2_symbolicGenerators_30 rfl ?_
      refine ev_getR fl_X2_9 rfl rfl dX2_symbolicGenerators_31 ?_
      refine ev_callV (cl_greatestCode g2 hn) ok_X1_greatestCode ml_X2_122 rfl rfl rfl rfl (Nat.le_of_ble_eq_true rfl) dX2_symbolicGenerators_34 (kI ?_)
      refine ev_ist3 dX2_symbolicGenerators_37 (by decide) rfl ?_
      have e2 : nI (4 ^ n - 1) = dnI (4 ^ n) := by
        obtain ⟨t, ht⟩ : ∃ t, 4 ^ n = t + 1 := ⟨4 ^ n - 1, by omega⟩
        rw [ht, dnI_s]; rfl
      rw [e2]
      refine loop (4 ^ n) [] h2 (Nat.le_refl _) (iq_of (fun i hi => ?_) (by rw [sj 2 (by decide), kk 4 (by omega) (by omega)]) (by rw [(sm 5 (by decide)).1, kk 5 (by omega) (by omega)])) (by rw [(sm 11 (by decide)).1, kk 11 (by omega) (by omega)]) c2 kc (by rw [(sm 13 (by decide)).1, kk 13 (by omega) (by omega)]; exact hf) ⟨by rw [(sm _ (by omega)).1, mp_eq]; rfl, hold_nil _⟩ rfl
      have q := sm i (by omega)
      exact ⟨q.1.trans (kk i (by omega) (by omega)), q.2⟩
  · skip
    refine ev_start 2 (lv := [some (.ref 4), some (.int (nI (k + 1))), none, none]) rfl (by decide) (Nat.le_of_ble_eq_true rfl) ?_
    refine ev_aload_n dX2_symbolicGenerators_0 rfl ?_
    refine ev_getR fl_X2_41 rfl rfl dX2_symbolicGenerators_1 ?_
    refine ev_iload_n dX2_symbolicGenerators_4 rfl ?_
    refine ev_iconst (nI 1) dX2_symbolicGenerators_5 rfl ?_
    refine ev_isubN dX2_symbolicGenerators_6 (by omega) ?_
    rw [e1]
    refine ev_aaldN (kd := 0) rfl dX2_symbolicGenerators_7 (by decide) (by omega) (by omega) (elS hk) ?_
    refine ev_ast2 dX2_symbolicGenerators_8 (by decide) rfl ?_
    refine ev_aload_n dX2_symbolicGenerators_9 rfl ?_
    refine ev_getR fl_X2_44 rfl rfl dX2_symbolicGenerators_10 ?_
    refine ev_iload_n dX2_symbolicGenerators_13 rfl ?_
    refine ev_iconst (nI 1) dX2_symbolicGenerators_14 rfl ?_
    refine ev_isubN dX2_symbolicGenerators_15 (by omega) ?_
    rw [e1]
    refine ev_zaldN rfl dX2_symbolicGenerators_16 (by omega) (by omega) ?_
    rw [hf]
    refine ev_if_neN 72 dX2_symbolicGenerators_17 (by decide) (by omega) (fun c17 => ?_) (fun c17 => ?_)
    · refine ev_aload_n dX2_symbolicGenerators_72 rfl ?_
      refine ev_aret dX2_symbolicGenerators_73 rfl ?_
      exact ⟨rfl, iq.rf, c, hrow, rfl⟩
    · exact absurd c17 (by decide)
theorem selD_pw {P : Nat → Prop} : ∀ k, (selD P k).Pairwise (fun a b => b < a)
  | 0 => List.Pairwise.nil
  | k + 1 => by
    by_cases c : P k
    · rw [selD_t c, List.pairwise_cons]
      exact ⟨fun b hb => ((selD_mem k).mp hb).1, selD_pw k⟩
    · rw [selD_f c]; exact selD_pw k
theorem srch_eq {P : Nat → Prop} {K x : Nat} (hx : x < K) (hp : P x) (hm : ∀ y, y < x → ¬ P y) : srch P K 0 = x := by
  have hb := srch_b P K 0
  have h1 : ∀ k v, v ≤ x → x < v + k → srch P k v = x := by
    intro k
    induction k with
    | zero => intro v h1 h2; omega
    | succ k ih =>
      intro v h1 h2
      by_cases e : v = x
      · subst e; exact srch_t hp
      · rw [srch_f (hm v (by omega))]; exact ih (v + 1) (by omega) (by omega)
  exact h1 K 0 (by omega) (by omega)
theorem srch_no {P : Nat → Prop} {K : Nat} (hm : ∀ y, y < K → ¬ P y) : srch P K 0 = K := by
  have h1 : ∀ k v, v + k = K → srch P k v = K := by
    intro k
    induction k with
    | zero => intro v h1; show v = K; omega
    | succ k ih => intro v h1; rw [srch_f (hm v (by omega))]; exact ih (v + 1) (by omega)
  exact h1 K 0 (by omega)
/-- the least code with P, or -2 -/
noncomputable def fnd (P : Nat → Prop) (K : Nat) : Int32 := if srch P K 0 < K then nI (srch P K 0) else -2
theorem cl_lowestOnlySymbolic {n N k : Nat} (g : gC h n N) (ok : gOK n N) (c : cI h n N) (hk : k < 3) : Cl G (d + 4) M_X2_lowestOnlySymbolic [.ref 4, .int (nI (k + 1))] h (fun rv h' => rv = some (.int (fnd (fun m => SG n N (k + 1) m ∧ ¬ k + 1 ≤ ord n N m) (4 ^ n))) ∧ iq n N h h' ∧ cI h' n N) := by
  have hn := ok.2.1
  have h4 := four_n hn
  obtain ⟨hp, ha, hcap⟩ := rowS hk
  have hlen := sgL_len (s := k + 1) ok
  have hpw : ∀ i j, i < j → j < (sgL n N (k + 1)).length → (sgL n N (k + 1)).getD j 0 < (sgL n N (k + 1)).getD i 0 := by
    intro i j hij hj
    have := List.pairwise_iff_getElem.mp (selD_pw (P := SG n N (k + 1)) (4 ^ n)) i j (show i < (sgL n N (k + 1)).length by omega) hj hij
    rw [List.getD_eq_getElem?_getD, List.getD_eq_getElem?_getD, List.getElem?_eq_getElem hj, List.getElem?_eq_getElem (show i < (sgL n N (k + 1)).length by omega)]
    exact this
  have loop : ∀ (q : Nat) (h1 : MH), q ≤ (sgL n N (k + 1)).length → iq n N h h1 → cI h1 n N → rowIs h1 (20 + 2 * k) (sgL n N (k + 1)) → (∀ j, q ≤ j → j < (sgL n N (k + 1)).length → k + 1 ≤ ord n N ((sgL n N (k + 1)).getD j 0)) → Ev G (d + 4) M_X2_lowestOnlySymbolic 13 [some (.ref 4), some (.int (nI (k + 1))), some (.ref (20 + 2 * k)), some (.int (dnI q))] [] h1 (fun rv h' => rv = some (.int (fnd (fun m => SG n N (k + 1) m ∧ ¬ k + 1 ≤ ord n N m) (4 ^ n))) ∧ iq n N h h' ∧ cI h' n N) := by
    intro q
    induction q with
    | zero =>
      intro h1 hq hi c1 hr hw
      refine ev_iload_n dX2_lowestOnlySymbolic_13 rfl ?_
      refine ev_if_lt 44 dX2_lowestOnlySymbolic_14 (by decide) (fun c14 => ?_) (fun c14 => ?_)
      · refine ev_bipush (-2) dX2_lowestOnlySymbolic_44 rfl ?_
        refine ev_iret dX2_lowestOnlySymbolic_46 rfl ?_
        refine ⟨?_, hi, c1⟩
        unfold fnd
        rw [srch_no, if_neg (by omega)]
        intro y hy z
        obtain ⟨j, hj, e⟩ := List.getElem_of_mem (sgL_mem.mpr ⟨hy, z.1⟩)
        have := hw j (Nat.zero_le _) hj
        rw [List.getD_eq_getElem?_getD, List.getElem?_eq_getElem hj] at this
        exact z.2 (by rw [← e]; exact this)
      · exact absurd dnI_0 c14
    | succ q ih =>
      intro h1 hq hi c1 hr hw
      rw [dnI_s]
      have g1 := gC_iq g hi
      have hmem := getD_mem (L := sgL n N (k + 1)) (i := q) (by omega)
      obtain ⟨m1, m2⟩ := sgL_mem.mp hmem
      have hv := hr.2 q (by omega)
      have ob := ord_le ok (m := (sgL n N (k + 1)).getD q 0)
      refine ev_iload_n dX2_lowestOnlySymbolic_13 rfl ?_
      refine ev_if_ltN 44 dX2_lowestOnlySymbolic_14 (by decide) (by omega) (fun c14 => ?_) (fun c14 => ?_)
      · exact c14.elim
      · refine ev_aload_n dX2_lowestOnlySymbolic_17 rfl ?_
        refine ev_aload_n dX2_lowestOnlySymbolic_18 rfl ?_
        refine ev_getR fl_X2_110 hp rfl dX2_lowestOnlySymbolic_19 ?_
        refine ev_iload_n dX2_lowestOnlySymbolic_22 rfl ?_
        refine ev_ialdv (hv) ha dX2_lowestOnlySymbolic_23 (by omega) (by omega) ?_
        refine ev_callV (cl_po g1 ok c1 m1) ok_X2_powerOrderOf ml_X2_125 rfl rfl rfl rfl (Nat.le_of_ble_eq_true rfl) dX2_lowestOnlySymbolic_24 ?_
        rintro rv h2 ⟨rfl, sm, sj, c2, ko2, y1, y2, y3⟩
        have hi2 : iq n N h h2 := hi.tr ⟨sm.mono (fun k hk => by omega), fun ko0 q => ⟨ko2, y3 ko0 q, y2⟩⟩
        have hr2 : rowIs h2 (20 + 2 * k) (sgL n N (k + 1)) := ⟨by rw [(sm _ (by omega)).1]; exact hr.1, by rw [(sm _ (by omega)).1]; exact hr.2⟩
        have hv2 := hr2.2 q (by omega)
        refine ev_iload_n dX2_lowestOnlySymbolic_27 rfl ?_
        refine ev_icmp_geN 38 dX2_lowestOnlySymbolic_28 (by decide) (by omega) (by omega) (fun c28 => ?_) (fun c28 => ?_)
        · refine ev_inc3 dX2_lowestOnlySymbolic_38 rfl (by decide) rfl ?_
          refine ev_goto 13 dX2_lowestOnlySymbolic_41 (by decide) ?_
          refine ih h2 (by omega) hi2 c2 hr2 (fun j h1 h2 => ?_)
          by_cases e : j = q
          · subst e; exact c28
          · exact hw j (by omega) h2
        · refine ev_aload_n dX2_lowestOnlySymbolic_31 rfl ?_
          refine ev_getR fl_X2_110 hp rfl dX2_lowestOnlySymbolic_32 ?_
          refine ev_iload_n dX2_lowestOnlySymbolic_35 rfl ?_
          refine ev_ialdv (hv2) ha dX2_lowestOnlySymbolic_36 (by omega) (by omega) ?_
          refine ev_iret dX2_lowestOnlySymbolic_37 rfl ?_
          refine ⟨?_, hi2, c2⟩
          unfold fnd
          rw [srch_eq m1 ⟨m2, c28⟩, if_pos m1]
          intro y hy z
          obtain ⟨j, hj, e⟩ := List.getElem_of_mem (sgL_mem.mpr ⟨Nat.lt_trans hy m1, z.1⟩)
          have ej : (sgL n N (k + 1)).getD j 0 = y := by rw [List.getD_eq_getElem?_getD, List.getElem?_eq_getElem hj]; exact e
          have hjq : q < j := by
            rcases Nat.lt_trichotomy j q with w | w | w
            · have := hpw j q w (by omega); omega
            · subst w; omega
            · exact w
          have := hw j (by omega) hj
          rw [ej] at this
          exact z.2 this
  refine ev_start 2 (lv := [some (.ref 4), some (.int (nI (k + 1))), none, none]) rfl (by decide) (Nat.le_of_ble_eq_true rfl) ?_
  refine ev_aload_n dX2_lowestOnlySymbolic_0 rfl ?_
  refine ev_iload_n dX2_lowestOnlySymbolic_1 rfl ?_
  refine ev_callV (cl_symbolicGenerators g ok c hk) ok_X2_symbolicGenerators ml_X2_132 rfl rfl rfl rfl (Nat.le_of_ble_eq_true rfl) dX2_lowestOnlySymbolic_2 ?_
  rintro rv h1 ⟨rfl, hi, c1, hr, -⟩
  refine ev_ast2 dX2_lowestOnlySymbolic_5 (by decide) rfl ?_
  refine ev_aload_n dX2_lowestOnlySymbolic_6 rfl ?_
  refine ev_getIv (hr.1) fl_X2_89 hp rfl dX2_lowestOnlySymbolic_7 ?_
  refine ev_iconst (nI 1) dX2_lowestOnlySymbolic_10 rfl ?_
  refine ev_isub dX2_lowestOnlySymbolic_11 ?_
  refine ev_ist3 dX2_lowestOnlySymbolic_12 (by decide) rfl ?_
  have e2 : nI (sgL n N (k + 1)).length - nI 1 = dnI (sgL n N (k + 1)).length := by
    rw [Int32.sub_eq_add_neg]; rfl
  rw [e2]
  exact loop _ h1 (Nat.le_refl _) hi c1 hr (fun j h1 h2 => absurd h1 (by omega))
end SGEN
