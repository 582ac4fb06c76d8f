section LQ1
variable {G : MG} {d : Nat} {h : MH}
theorem neg_rem {x : Int32} (hx : x < 0) : x - x / nI 10 * nI 10 - nI 1 < 0 := by
  rw [Int32.lt_iff_toInt_lt] at *
  have h1 : (nI 10).toInt = 10 := by decide
  have h2 : (nI 1).toInt = 1 := by decide
  have h3 : (0 : Int32).toInt = 0 := by decide
  rw [h3] at hx
  have hl := Int32.le_toInt x
  have ht : x.toInt = 10 * x.toInt.tdiv 10 + x.toInt.tmod 10 := (Int.mul_tdiv_add_tmod x.toInt 10).symm
  have hm : x.toInt.tmod 10 ≤ 0 := by
    have := Int.tmod_nonneg (a := -x.toInt) 10 (by omega)
    rw [Int.neg_tmod] at this
    omega
  have hm2 : -10 < x.toInt.tmod 10 := by
    have := Int.tmod_lt_of_pos (-x.toInt) (b := 10) (by decide)
    rw [Int.neg_tmod] at this
    omega
  have hd : (x / nI 10).toInt = x.toInt.tdiv 10 := by
    rw [Int32.toInt_div_of_ne_right _ _ (by decide), h1]
  rw [Int32.toInt_sub, Int32.toInt_sub, Int32.toInt_mul, hd, h1, h2, h3]
  generalize x.toInt.tdiv 10 = q at *
  generalize x.toInt.tmod 10 = r at *
  rw [ht]
  have e1 : (q * 10).bmod (2 ^ 32) = q * 10 := Int.bmod_eq_of_le (by omega) (by omega)
  have e2 : r.bmod (2 ^ 32) = r := Int.bmod_eq_of_le (by omega) (by omega)
  have e3 : (r - 1).bmod (2 ^ 32) = r - 1 := Int.bmod_eq_of_le (by omega) (by omega)
  rw [e1, show 10 * q + r - q * 10 = r by omega, e2, e3]
  omega
/-- the places 0 .. k - 1 of an order, from its digits; none if it is no order -/
def rd (n : Nat) : Nat → Nat → Nat → Option (List Nat)
  | 0, r, _ => if r = 0 then some [] else none
  | k + 1, r, s => if 1 ≤ r % 10 ∧ r % 10 ≤ n ∧ s.testBit (r % 10 - 1) = false then (rd n k (r / 10) (s ||| 2 ^ (r % 10 - 1))).map (· ++ [r % 10 - 1]) else none
theorem rd_f {n k r s : Nat} (q : ¬ (1 ≤ r % 10 ∧ r % 10 ≤ n ∧ s.testBit (r % 10 - 1) = false)) : rd n (k + 1) r s = none := if_neg q
theorem rd_t {n k r s : Nat} (q : 1 ≤ r % 10 ∧ r % 10 ≤ n ∧ s.testBit (r % 10 - 1) = false) : rd n (k + 1) r s = (rd n k (r / 10) (s ||| 2 ^ (r % 10 - 1))).map (· ++ [r % 10 - 1]) := if_pos q
theorem rd_len {n : Nat} : ∀ k r s L, rd n k r s = some L → L.length = k
  | 0, r, s, L, e => by
    unfold rd at e; split at e
    · cases e; rfl
    · cases e
  | k + 1, r, s, L, e => by
    by_cases q : 1 ≤ r % 10 ∧ r % 10 ≤ n ∧ s.testBit (r % 10 - 1) = false
    · rw [rd_t q] at e
      cases c : rd n k (r / 10) (s ||| 2 ^ (r % 10 - 1)) with
      | none => rw [c] at e; cases e
      | some K =>
        rw [c] at e; cases e
        rw [List.length_append, rd_len k _ _ K c]; rfl
    · rw [rd_f q] at e; cases e
/-- the vertices in an order are below n and all are there -/
theorem rd_mem {n : Nat} : ∀ k r s L, rd n k r s = some L → ∀ v, v ∈ L → v < n ∧ s.testBit v = false
  | 0, r, s, L, e => by
    unfold rd at e; split at e
    · cases e; intro v hv; cases hv
    · cases e
  | k + 1, r, s, L, e => by
    by_cases q : 1 ≤ r % 10 ∧ r % 10 ≤ n ∧ s.testBit (r % 10 - 1) = false
    · rw [rd_t q] at e
      cases c : rd n k (r / 10) (s ||| 2 ^ (r % 10 - 1)) with
      | none => rw [c] at e; cases e
      | some K =>
        rw [c] at e; cases e
        intro v hv
        rcases List.mem_append.mp hv with z | z
        · have := rd_mem k _ _ K c v z
          rw [Nat.testBit_or, Bool.or_eq_false_iff] at this
          exact ⟨this.1, this.2.1⟩
        · rw [List.mem_singleton] at z; subst z
          exact ⟨by omega, q.2.2⟩
    · rw [rd_f q] at e; cases e
theorem rd_nd {n : Nat} : ∀ k r s L, rd n k r s = some L → L.Nodup
  | 0, r, s, L, e => by
    unfold rd at e; split at e
    · cases e; exact List.nodup_nil
    · cases e
  | k + 1, r, s, L, e => by
    by_cases q : 1 ≤ r % 10 ∧ r % 10 ≤ n ∧ s.testBit (r % 10 - 1) = false
    · rw [rd_t q] at e
      cases c : rd n k (r / 10) (s ||| 2 ^ (r % 10 - 1)) with
      | none => rw [c] at e; cases e
      | some K =>
        rw [c] at e; cases e
        rw [List.nodup_append]
        refine ⟨rd_nd k _ _ K c, by simp, ?_⟩
        intro a ha b hb hab
        rw [List.mem_singleton] at hb
        have := (rd_mem k _ _ K c a ha).2
        rw [hab, hb, Nat.testBit_or, Nat.testBit_two_pow_self, Bool.or_true] at this
        cases this
    · rw [rd_f q] at e; cases e
theorem ma_set {h : MH} {a i : Nat} {f : Nat → Int32} {x : Int32} : m_put (m_putA h a f) a i x = m_putA h a (upd f i x) := by
  refine mh_ext (fun k q => ?_) (fun _ _ => rfl)
  by_cases e : k = a
  · subst e
    show (m_putA _ _ _).1 k q = _
    rw [ma_eq, ma_eq, ma_eq]
  · rw [mp_k e, ma_k e, ma_k e]
theorem ma_self {h : MH} {a : Nat} : m_putA h a (h.1 a) = h := by
  refine mh_ext (fun k q => ?_) (fun _ _ => rfl)
  by_cases e : k = a
  · subst e; rw [ma_eq]
  · rw [ma_k e]
/-- the order, read -/
noncomputable def rdO (n : Nat) (x : Int32) : Option (List Nat) := if x < 0 then none else rd n n x.toNatClampNeg 0
theorem rdO_neg {n : Nat} {x : Int32} (hx : x < 0) : rdO n x = none := if_pos hx
theorem rdO_nI {n r : Nat} (hr : r < 2 ^ 31) : rdO n (nI r) = rd n n r 0 := by
  unfold rdO; rw [if_neg (nI_pos hr), nI_clamp hr]
theorem raw_nat {x : Int32} (hx : ¬ x < 0) : ∃ r, r < 2 ^ 31 ∧ x = nI r := by
  by_cases c : inR x (2 ^ 31 - 1)
  · obtain ⟨j, hj, e⟩ := c
    exact ⟨j, by omega, e⟩
  · by_cases c2 : nI (2 ^ 31 - 1) ≤ x
    · refine ⟨2 ^ 31 - 1, by decide, ?_⟩
      apply Int32.le_antisymm _ c2
      rw [Int32.le_iff_toInt_le]
      have := Int32.toInt_lt x
      have e : (nI (2 ^ 31 - 1)).toInt = 2147483647 := by decide
      rw [e]; omega
    · exact absurd (inR_of (by decide) hx c2) c
def rdP (h : MH) (a n k r s : Nat) (T : List Nat) : Option Value → MH → Prop := fun rv h' => ∃ f', h' = m_putA h a f' ∧ rv = some (.int (nI (b01 (rd n k r s ≠ none)))) ∧ ∀ L, rd n k r s = some L → hold f' (L ++ T)
theorem tail_s {f : Nat → Int32} {k v : Nat} {T : List Nat} (hT : ∀ i, i < T.length → f (k + 1 + i) = nI (T.getD i 0)) : ∀ i, i < (v :: T).length → upd f k (nI v) (k + i) = nI ((v :: T).getD i 0) := by
  intro i hi
  cases i with
  | zero => exact if_pos rfl
  | succ i =>
    rw [show upd f k (nI v) (k + (i + 1)) = f (k + (i + 1)) from if_neg (by omega), show k + (i + 1) = k + 1 + i by omega]
    simp at hi
    rw [hT i (by omega)]; rfl
theorem rdP_s {h : MH} {a n k r s : Nat} {T : List Nat} {rv : Option Value} {h' : MH} (q : 1 ≤ r % 10 ∧ r % 10 ≤ n ∧ s.testBit (r % 10 - 1) = false) (p : rdP h a n k (r / 10) (s ||| 2 ^ (r % 10 - 1)) ((r % 10 - 1) :: T) rv h') : rdP h a n (k + 1) r s T rv h' := by
  obtain ⟨f', e1, e2, e3⟩ := p
  refine ⟨f', e1, ?_, fun L hL => ?_⟩
  · rw [e2, rd_t q]
    rw [b01_c (P := rd n k (r / 10) (s ||| 2 ^ (r % 10 - 1)) ≠ none) (Q := (rd n k (r / 10) (s ||| 2 ^ (r % 10 - 1))).map (· ++ [r % 10 - 1]) ≠ none)]
    cases rd n k (r / 10) (s ||| 2 ^ (r % 10 - 1)) <;> simp
  · rw [rd_t q] at hL
    cases c : rd n k (r / 10) (s ||| 2 ^ (r % 10 - 1)) with
    | none => rw [c] at hL; cases hL
    | some K =>
      rw [c] at hL; cases hL
      have := e3 K c
      rw [List.append_assoc]; exact this
theorem rdP_f {h : MH} {a n k r s : Nat} {T : List Nat} {f : Nat → Int32} (q : ¬ (1 ≤ r % 10 ∧ r % 10 ≤ n ∧ s.testBit (r % 10 - 1) = false)) : rdP h a n (k + 1) r s T (some (.int (nI 0))) (m_putA h a f) :=
  ⟨f, rfl, by rw [rd_f q, b01_f (fun z => z rfl)], fun L hL => by rw [rd_f q] at hL; cases hL⟩
theorem cl_readSequence {n N : Nat} {x : Int32} (g : gC h n N) (ok : gOK n N) : Cl G (d) M_X4_readSequence [.ref 26, .int x] h (fun rv h' => ∃ f, h' = m_putA h 27 f ∧ rv = some (.int (nI (b01 (rdO n x ≠ none)))) ∧ ∀ L, rdO n x = some L → hold f L) := by
  have hn := ok.2.1
  have hn1 := ok.1
  have loop : ∀ (k r s : Nat) (f : Nat → Int32) (T : List Nat) (x5 : Option Value), k + T.length = n → r < 2 ^ 31 → s < 128 → (∀ i, i < T.length → f (k + i) = nI (T.getD i 0)) → Ev G (d) M_X4_readSequence 15 [some (.ref 26), some (.int x), some (.int (nI r)), some (.int (nI s)), some (.int (dnI k)), x5] [] (m_putA h 27 f) (rdP h 27 n k r s T) := by
    intro k
    induction k with
    | zero =>
      intro r s f T x5 hk hr hs hT
      refine ev_iload dX4_readSequence_15 rfl ?_
      refine ev_if_lt 83 dX4_readSequence_17 (by decide) (fun c17 => ?_) (fun c17 => ?_)
      · refine ev_iload_n dX4_readSequence_83 rfl ?_
        refine ev_if_neN 91 dX4_readSequence_84 (by decide) (by omega) (fun c84 => ?_) (fun c84 => ?_)
        · refine ev_iconst (nI 0) dX4_readSequence_91 rfl ?_
          refine ev_zret dX4_readSequence_92 rfl rfl ?_
          refine ⟨f, rfl, by rw [show rd n 0 r s = none from if_neg c84, b01_f (fun z => z rfl)], fun L hL => ?_⟩
          rw [show rd n 0 r s = none from if_neg c84] at hL; cases hL
        · refine ev_iconst (nI 1) dX4_readSequence_87 rfl ?_
          refine ev_goto 92 dX4_readSequence_88 (by decide) ?_
          refine ev_zret dX4_readSequence_92 rfl rfl ?_
          refine ⟨f, rfl, by rw [show rd n 0 r s = some [] from if_pos (by omega), b01_t (fun z => by cases z)], fun L hL => ?_⟩
          rw [show rd n 0 r s = some [] from if_pos (by omega)] at hL; cases hL
          exact fun i hi => by have := hT i hi; rw [Nat.zero_add] at this; exact this
      · exact absurd dnI_0 c17
    | succ k ih =>
      intro r s f T x5 hk hr hs hT
      rw [dnI_s]
      have gn : (m_putA h 27 f).1 1 0 = nI n := by rw [ma_k (by decide)]; exact g.1
      have l1 := tb_lt1 s (r % 10 - 1)
      have pw : r % 10 ≤ n → 2 ^ (r % 10 - 1) < 128 := fun z => Nat.pow_lt_pow_right (a := 2) (m := r % 10 - 1) (n := 7) (by decide) (by omega)
      by_cases z : r % 10 = 0
      · skip
        refine ev_iload dX4_readSequence_15 rfl ?_
        refine ev_if_ltN 83 dX4_readSequence_17 (by decide) (by omega) (fun c17 => ?_) (fun c17 => ?_)
        · exact c17.elim
        · refine ev_iload_n dX4_readSequence_20 rfl ?_
          refine ev_bipush (nI 10) dX4_readSequence_21 rfl ?_
          refine ev_iremN dX4_readSequence_23 (by omega) (by omega) (by omega) ?_
          refine ev_iconst (nI 1) dX4_readSequence_24 rfl ?_
          rw [z]
          refine ev_isub dX4_readSequence_25 ?_
          refine ev_ist5 dX4_readSequence_26 (by decide) rfl ?_
          refine ev_iload dX4_readSequence_28 rfl ?_
          refine ev_if_lt 54 dX4_readSequence_30 (by decide) (fun c30 => ?_) (fun c30 => ?_)
          · refine ev_iconst (nI 0) dX4_readSequence_54 rfl ?_
            refine ev_zret dX4_readSequence_55 rfl rfl ?_
            exact rdP_f (by omega)
          · exact absurd (show nI 0 - nI 1 < 0 by decide) c30
      · skip
        refine ev_iload dX4_readSequence_15 rfl ?_
        refine ev_if_ltN 83 dX4_readSequence_17 (by decide) (by omega) (fun c17 => ?_) (fun c17 => ?_)
        · exact c17.elim
        · refine ev_iload_n dX4_readSequence_20 rfl ?_
          refine ev_bipush (nI 10) dX4_readSequence_21 rfl ?_
          refine ev_iremN dX4_readSequence_23 (by omega) (by omega) (by omega) ?_
          refine ev_iconst (nI 1) dX4_readSequence_24 rfl ?_
          refine ev_isubN dX4_readSequence_25 (by omega) ?_
          refine ev_ist5 dX4_readSequence_26 (by decide) rfl ?_
          refine ev_iload dX4_readSequence_28 rfl ?_
          refine ev_if_ltN 54 dX4_readSequence_30 (by decide) (by omega) (fun c30 => ?_) (fun c30 => ?_)
          · exact c30.elim
          · refine ev_iload dX4_readSequence_33 rfl ?_
            refine ev_aload_n dX4_readSequence_35 rfl ?_
            refine ev_getR fl_X4_9 rfl rfl dX4_readSequence_36 ?_
            refine ev_getIv (gn) fl_X4_59 rfl rfl dX4_readSequence_39 ?_
            refine ev_icmp_geN 54 dX4_readSequence_42 (by decide) (by omega) (by omega) (fun c42 => ?_) (fun c42 => ?_)
            · refine ev_iconst (nI 0) dX4_readSequence_54 rfl ?_
              refine ev_zret dX4_readSequence_55 rfl rfl ?_
              exact rdP_f (by omega)
            · refine ev_iload_n dX4_readSequence_45 rfl ?_
              refine ev_iload dX4_readSequence_46 rfl ?_
              refine ev_ishrN dX4_readSequence_48 (by omega) (by omega) ?_
              refine ev_iconst (nI 1) dX4_readSequence_49 rfl ?_
              refine ev_iandN dX4_readSequence_50 ?_
              refine ev_if_eqN 56 dX4_readSequence_51 (by decide) (by omega) (fun c51 => ?_) (fun c51 => ?_)
              · refine ev_iload_n dX4_readSequence_56 rfl ?_
                refine ev_iconst (nI 1) dX4_readSequence_57 rfl ?_
                refine ev_iload dX4_readSequence_58 rfl ?_
                refine ev_ishlN dX4_readSequence_60 (by omega) (by rw [Nat.one_mul]; have := pw (by omega); omega) ?_
                refine ev_iorN dX4_readSequence_61 ?_
                rw [Nat.one_mul]
                refine ev_ist3 dX4_readSequence_62 (by decide) rfl ?_
                refine ev_aload_n dX4_readSequence_63 rfl ?_
                refine ev_getR fl_X4_19 rfl rfl dX4_readSequence_64 ?_
                refine ev_iload dX4_readSequence_67 rfl ?_
                refine ev_iload dX4_readSequence_69 rfl ?_
                refine ev_iastN rfl dX4_readSequence_71 (by omega) (by omega) ?_
                rw [ma_set]
                refine ev_iload_n dX4_readSequence_72 rfl ?_
                refine ev_bipush (nI 10) dX4_readSequence_73 rfl ?_
                refine ev_idivN dX4_readSequence_75 (by omega) (by omega) (by omega) ?_
                refine ev_ist2 dX4_readSequence_76 (by decide) rfl ?_
                refine ev_inc4 dX4_readSequence_77 rfl (by decide) rfl ?_
                refine ev_goto 15 dX4_readSequence_80 (by decide) ?_
                have q : 1 ≤ r % 10 ∧ r % 10 ≤ n ∧ s.testBit (r % 10 - 1) = false := ⟨by omega, by omega, (tb_0 _ _).mp (by omega)⟩
                exact ev_mono (fun rv h' p => rdP_s q p) (ih (r / 10) _ _ ((r % 10 - 1) :: T) _ (by simp; omega) (by omega) (or_lt7 hs (pw q.2.1)) (tail_s hT))
              · refine ev_iconst (nI 0) dX4_readSequence_54 rfl ?_
                refine ev_zret dX4_readSequence_55 rfl rfl ?_
                exact rdP_f (fun q => by rw [(tb_n0 _ _).mp c51] at q; exact absurd q.2.2 (by decide))
  obtain ⟨t, ht⟩ : ∃ t, n = t + 1 := ⟨n - 1, by omega⟩
  have e1 : nI (n - 1) = dnI n := by rw [ht, dnI_s]; rfl
  by_cases hx : x < 0
  · rw [rdO_neg hx, b01_f (fun z => z rfl)]
    refine ev_start 4 (lv := [some (.ref 26), some (.int x), none, none, none, none]) rfl (by decide) (Nat.le_of_ble_eq_true rfl) ?_
    refine ev_iload_n dX4_readSequence_0 rfl ?_
    refine ev_ist2 dX4_readSequence_1 (by decide) rfl ?_
    refine ev_iconst (nI 0) dX4_readSequence_2 rfl ?_
    refine ev_ist3 dX4_readSequence_3 (by decide) rfl ?_
    refine ev_aload_n dX4_readSequence_4 rfl ?_
    refine ev_getR fl_X4_9 rfl rfl dX4_readSequence_5 ?_
    refine ev_getIv (g.1) fl_X4_59 rfl rfl dX4_readSequence_8 ?_
    refine ev_iconst (nI 1) dX4_readSequence_11 rfl ?_
    refine ev_isubN dX4_readSequence_12 (by omega) ?_
    refine ev_ist4 dX4_readSequence_13 (by decide) rfl ?_
    refine ev_iload dX4_readSequence_15 rfl ?_
    refine ev_if_ltN 83 dX4_readSequence_17 (by decide) (by omega) (fun c17 => ?_) (fun c17 => ?_)
    · exact c17.elim
    · refine ev_iload_n dX4_readSequence_20 rfl ?_
      refine ev_bipush (nI 10) dX4_readSequence_21 rfl ?_
      refine ev_irem dX4_readSequence_23 (by decide) ?_
      refine ev_iconst (nI 1) dX4_readSequence_24 rfl ?_
      refine ev_isub dX4_readSequence_25 ?_
      refine ev_ist5 dX4_readSequence_26 (by decide) rfl ?_
      refine ev_iload dX4_readSequence_28 rfl ?_
      refine ev_if_lt 54 dX4_readSequence_30 (by decide) (fun c30 => ?_) (fun c30 => ?_)
      · refine ev_iconst (nI 0) dX4_readSequence_54 rfl ?_
        refine ev_zret dX4_readSequence_55 rfl rfl ?_
        exact ⟨h.1 27, ma_self.symm, rfl, fun L hL => by cases hL⟩
      · exact absurd (neg_rem hx) c30
  · obtain ⟨r, hr, rfl⟩ := raw_nat hx
    rw [rdO_nI hr]
    have q := loop n r 0 (h.1 27) [] none (by simp) hr (by decide) (fun i hi => absurd hi (by simp))
    rw [ma_self] at q
    refine ev_start 4 (lv := [some (.ref 26), some (.int (nI r)), none, none, none, none]) rfl (by decide) (Nat.le_of_ble_eq_true rfl) ?_
    refine ev_iload_n dX4_readSequence_0 rfl ?_
    refine ev_ist2 dX4_readSequence_1 (by decide) rfl ?_
    refine ev_iconst (nI 0) dX4_readSequence_2 rfl ?_
    refine ev_ist3 dX4_readSequence_3 (by decide) rfl ?_
    refine ev_aload_n dX4_readSequence_4 rfl ?_
    refine ev_getR fl_X4_9 rfl rfl dX4_readSequence_5 ?_
    refine ev_getIv (g.1) fl_X4_59 rfl rfl dX4_readSequence_8 ?_
    refine ev_iconst (nI 1) dX4_readSequence_11 rfl ?_
    refine ev_isubN dX4_readSequence_12 (by omega) ?_
    refine ev_ist4 dX4_readSequence_13 (by decide) rfl ?_
    rw [e1]
    refine ev_mono ?_ q
    rintro rv h' ⟨f', a1, a2, a3⟩
    exact ⟨f', a1, a2, fun L hL => by have := a3 L hL; rwa [List.append_nil] at this⟩
theorem cl_readOrder {n N : Nat} {x : Int32} (g : gM h n N) (ok : gOK n N) : Cl G (d + 2) M_X12_readOrder [.ref 67, .int x] h (fun rv h' => ∃ f, h' = m_putA h 76 f ∧ rv = some (.int (nI (b01 (rdO n x ≠ none)))) ∧ ∀ L, rdO n x = some L → hold f L) := by
  have hn := ok.2.1
  have hn1 := ok.1
  have loop : ∀ (k r s : Nat) (f : Nat → Int32) (T : List Nat) (x5 : Option Value), k + T.length = n → r < 2 ^ 31 → s < 128 → (∀ i, i < T.length → f (k + i) = nI (T.getD i 0)) → Ev G (d + 2) M_X12_readOrder 12 [some (.ref 67), some (.int x), some (.int (nI s)), some (.int (nI r)), some (.int (dnI k)), x5] [] (m_putA h 76 f) (rdP h 76 n k r s T) := by
    intro k
    induction k with
    | zero =>
      intro r s f T x5 hk hr hs hT
      refine ev_iload dX12_readOrder_12 rfl ?_
      refine ev_if_lt 73 dX12_readOrder_14 (by decide) (fun c14 => ?_) (fun c14 => ?_)
      · refine ev_iload_n dX12_readOrder_73 rfl ?_
        refine ev_if_neN 81 dX12_readOrder_74 (by decide) (by omega) (fun c74 => ?_) (fun c74 => ?_)
        · refine ev_iconst (nI 0) dX12_readOrder_81 rfl ?_
          refine ev_zret dX12_readOrder_82 rfl rfl ?_
          refine ⟨f, rfl, by rw [show rd n 0 r s = none from if_neg c74, b01_f (fun z => z rfl)], fun L hL => ?_⟩
          rw [show rd n 0 r s = none from if_neg c74] at hL; cases hL
        · refine ev_iconst (nI 1) dX12_readOrder_77 rfl ?_
          refine ev_goto 82 dX12_readOrder_78 (by decide) ?_
          refine ev_zret dX12_readOrder_82 rfl rfl ?_
          refine ⟨f, rfl, by rw [show rd n 0 r s = some [] from if_pos (by omega), b01_t (fun z => by cases z)], fun L hL => ?_⟩
          rw [show rd n 0 r s = some [] from if_pos (by omega)] at hL; cases hL
          exact fun i hi => by have := hT i hi; rw [Nat.zero_add] at this; exact this
      · exact absurd dnI_0 c14
    | succ k ih =>
      intro r s f T x5 hk hr hs hT
      rw [dnI_s]
      have gn : (m_putA h 76 f).1 67 0 = nI n := by rw [ma_k (by decide)]; exact g.1
      have l1 := tb_lt1 s (r % 10 - 1)
      have g' : gM (m_putA h 76 f) n N := ⟨gn, fun v hv => by rw [ma_k (by decide)]; exact g.2 v hv⟩
      have pw : r % 10 ≤ n → 2 ^ (r % 10 - 1) < 128 := fun z => Nat.pow_lt_pow_right (a := 2) (m := r % 10 - 1) (n := 7) (by decide) (by omega)
      by_cases z : r % 10 = 0
      · have q1 : b01 (inR (nI 0 - nI 1) n) = 0 := b01_f (inR_neg (by omega) (by decide))
        refine ev_iload dX12_readOrder_12 rfl ?_
        refine ev_if_ltN 73 dX12_readOrder_14 (by decide) (by omega) (fun c14 => ?_) (fun c14 => ?_)
        · exact c14.elim
        · refine ev_iload_n dX12_readOrder_17 rfl ?_
          refine ev_bipush (nI 10) dX12_readOrder_18 rfl ?_
          refine ev_iremN dX12_readOrder_20 (by omega) (by omega) (by omega) ?_
          refine ev_iconst (nI 1) dX12_readOrder_21 rfl ?_
          rw [z]
          refine ev_isub dX12_readOrder_22 ?_
          refine ev_ist5 dX12_readOrder_23 (by decide) rfl ?_
          refine ev_aload_n dX12_readOrder_25 rfl ?_
          refine ev_iload dX12_readOrder_26 rfl ?_
          refine ev_callV (cl_isVertexM g' hn1 hn) ok_X12_isVertex ml_X12_88 rfl rfl rfl rfl (Nat.le_of_ble_eq_true rfl) dX12_readOrder_28 (kI ?_)
          refine ev_if_eqN 44 dX12_readOrder_31 (by decide) (by omega) (fun c31 => ?_) (fun c31 => ?_)
          · refine ev_iconst (nI 0) dX12_readOrder_44 rfl ?_
            refine ev_zret dX12_readOrder_45 rfl rfl ?_
            exact rdP_f (by omega)
          · omega
      · by_cases z2 : r % 10 ≤ n
        · have q1 : b01 (inR (nI (r % 10 - 1)) n) = 1 := b01_t ⟨r % 10 - 1, by omega, rfl⟩
          refine ev_iload dX12_readOrder_12 rfl ?_
          refine ev_if_ltN 73 dX12_readOrder_14 (by decide) (by omega) (fun c14 => ?_) (fun c14 => ?_)
          · exact c14.elim
          · refine ev_iload_n dX12_readOrder_17 rfl ?_
            refine ev_bipush (nI 10) dX12_readOrder_18 rfl ?_
            refine ev_iremN dX12_readOrder_20 (by omega) (by omega) (by omega) ?_
            refine ev_iconst (nI 1) dX12_readOrder_21 rfl ?_
            refine ev_isubN dX12_readOrder_22 (by omega) ?_
            refine ev_ist5 dX12_readOrder_23 (by decide) rfl ?_
            refine ev_aload_n dX12_readOrder_25 rfl ?_
            refine ev_iload dX12_readOrder_26 rfl ?_
            refine ev_callV (cl_isVertexM g' hn1 hn) ok_X12_isVertex ml_X12_88 rfl rfl rfl rfl (Nat.le_of_ble_eq_true rfl) dX12_readOrder_28 (kI ?_)
            refine ev_if_eqN 44 dX12_readOrder_31 (by decide) (by omega) (fun c31 => ?_) (fun c31 => ?_)
            · omega
            · refine ev_iload_n dX12_readOrder_34 rfl ?_
              refine ev_iload dX12_readOrder_35 rfl ?_
              refine ev_ishrN dX12_readOrder_37 (by omega) (by omega) ?_
              refine ev_iconst (nI 1) dX12_readOrder_38 rfl ?_
              refine ev_iandN dX12_readOrder_39 ?_
              refine ev_iconst (nI 1) dX12_readOrder_40 rfl ?_
              refine ev_icmp_neN 46 dX12_readOrder_41 (by decide) (by omega) (by omega) (fun c41 => ?_) (fun c41 => ?_)
              · refine ev_iload_n dX12_readOrder_46 rfl ?_
                refine ev_iconst (nI 1) dX12_readOrder_47 rfl ?_
                refine ev_iload dX12_readOrder_48 rfl ?_
                refine ev_ishlN dX12_readOrder_50 (by omega) (by rw [Nat.one_mul]; have := pw z2; omega) ?_
                refine ev_iorN dX12_readOrder_51 ?_
                rw [Nat.one_mul]
                refine ev_ist2 dX12_readOrder_52 (by decide) rfl ?_
                refine ev_aload_n dX12_readOrder_53 rfl ?_
                refine ev_getR fl_X12_44 rfl rfl dX12_readOrder_54 ?_
                refine ev_iload dX12_readOrder_57 rfl ?_
                refine ev_iload dX12_readOrder_59 rfl ?_
                refine ev_iastN rfl dX12_readOrder_61 (by omega) (by omega) ?_
                rw [ma_set]
                refine ev_iload_n dX12_readOrder_62 rfl ?_
                refine ev_bipush (nI 10) dX12_readOrder_63 rfl ?_
                refine ev_idivN dX12_readOrder_65 (by omega) (by omega) (by omega) ?_
                refine ev_ist3 dX12_readOrder_66 (by decide) rfl ?_
                refine ev_inc4 dX12_readOrder_67 rfl (by decide) rfl ?_
                refine ev_goto 12 dX12_readOrder_70 (by decide) ?_
                have q : 1 ≤ r % 10 ∧ r % 10 ≤ n ∧ s.testBit (r % 10 - 1) = false := ⟨by omega, z2, (tb_n1 _ _).mp (by omega)⟩
                exact ev_mono (fun rv h' p => rdP_s q p) (ih (r / 10) _ _ ((r % 10 - 1) :: T) _ (by simp; omega) (by omega) (or_lt7 hs (pw q.2.1)) (tail_s hT))
              · refine ev_iconst (nI 0) dX12_readOrder_44 rfl ?_
                refine ev_zret dX12_readOrder_45 rfl rfl ?_
                exact rdP_f (fun q => by rw [(tb_iff _ _).mp (by omega)] at q; exact absurd q.2.2 (by decide))
        · have q1 : b01 (inR (nI (r % 10 - 1)) n) = 0 := b01_f (fun q => by rw [inR_nI (by omega) (by omega)] at q; omega)
          refine ev_iload dX12_readOrder_12 rfl ?_
          refine ev_if_ltN 73 dX12_readOrder_14 (by decide) (by omega) (fun c14 => ?_) (fun c14 => ?_)
          · exact c14.elim
          · refine ev_iload_n dX12_readOrder_17 rfl ?_
            refine ev_bipush (nI 10) dX12_readOrder_18 rfl ?_
            refine ev_iremN dX12_readOrder_20 (by omega) (by omega) (by omega) ?_
            refine ev_iconst (nI 1) dX12_readOrder_21 rfl ?_
            refine ev_isubN dX12_readOrder_22 (by omega) ?_
            refine ev_ist5 dX12_readOrder_23 (by decide) rfl ?_
            refine ev_aload_n dX12_readOrder_25 rfl ?_
            refine ev_iload dX12_readOrder_26 rfl ?_
            refine ev_callV (cl_isVertexM g' hn1 hn) ok_X12_isVertex ml_X12_88 rfl rfl rfl rfl (Nat.le_of_ble_eq_true rfl) dX12_readOrder_28 (kI ?_)
            refine ev_if_eqN 44 dX12_readOrder_31 (by decide) (by omega) (fun c31 => ?_) (fun c31 => ?_)
            · refine ev_iconst (nI 0) dX12_readOrder_44 rfl ?_
              refine ev_zret dX12_readOrder_45 rfl rfl ?_
              exact rdP_f (by omega)
            · omega
  obtain ⟨t, ht⟩ : ∃ t, n = t + 1 := ⟨n - 1, by omega⟩
  have e1 : nI (n - 1) = dnI n := by rw [ht, dnI_s]; rfl
  by_cases hx : x < 0
  · rw [rdO_neg hx, b01_f (fun z => z rfl)]
    have q1 : b01 (inR (x - x / nI 10 * nI 10 - nI 1) n) = 0 := b01_f (inR_neg (by omega) (neg_rem hx))
    refine ev_start 4 (lv := [some (.ref 67), some (.int x), none, none, none, none]) rfl (by decide) (Nat.le_of_ble_eq_true rfl) ?_
    refine ev_iconst (nI 0) dX12_readOrder_0 rfl ?_
    refine ev_ist2 dX12_readOrder_1 (by decide) rfl ?_
    refine ev_iload_n dX12_readOrder_2 rfl ?_
    refine ev_ist3 dX12_readOrder_3 (by decide) rfl ?_
    refine ev_aload_n dX12_readOrder_4 rfl ?_
    refine ev_getIv (g.1) fl_X12_9 rfl rfl dX12_readOrder_5 ?_
    refine ev_iconst (nI 1) dX12_readOrder_8 rfl ?_
    refine ev_isubN dX12_readOrder_9 (by omega) ?_
    refine ev_ist4 dX12_readOrder_10 (by decide) rfl ?_
    refine ev_iload dX12_readOrder_12 rfl ?_
    refine ev_if_ltN 73 dX12_readOrder_14 (by decide) (by omega) (fun c14 => ?_) (fun c14 => ?_)
    · exact c14.elim
    · refine ev_iload_n dX12_readOrder_17 rfl ?_
      refine ev_bipush (nI 10) dX12_readOrder_18 rfl ?_
      refine ev_irem dX12_readOrder_20 (by decide) ?_
      refine ev_iconst (nI 1) dX12_readOrder_21 rfl ?_
      refine ev_isub dX12_readOrder_22 ?_
      refine ev_ist5 dX12_readOrder_23 (by decide) rfl ?_
      refine ev_aload_n dX12_readOrder_25 rfl ?_
      refine ev_iload dX12_readOrder_26 rfl ?_
      refine ev_callV (cl_isVertexM g hn1 hn) ok_X12_isVertex ml_X12_88 rfl rfl rfl rfl (Nat.le_of_ble_eq_true rfl) dX12_readOrder_28 (kI ?_)
      refine ev_if_eqN 44 dX12_readOrder_31 (by decide) (by omega) (fun c31 => ?_) (fun c31 => ?_)
      · refine ev_iconst (nI 0) dX12_readOrder_44 rfl ?_
        refine ev_zret dX12_readOrder_45 rfl rfl ?_
        exact ⟨h.1 76, ma_self.symm, rfl, fun L hL => by cases hL⟩
      · omega
  · obtain ⟨r, hr, rfl⟩ := raw_nat hx
    rw [rdO_nI hr]
    have q := loop n r 0 (h.1 76) [] none (by simp) hr (by decide) (fun i hi => absurd hi (by simp))
    rw [ma_self] at q
    refine ev_start 4 (lv := [some (.ref 67), some (.int (nI r)), none, none, none, none]) rfl (by decide) (Nat.le_of_ble_eq_true rfl) ?_
    refine ev_iconst (nI 0) dX12_readOrder_0 rfl ?_
    refine ev_ist2 dX12_readOrder_1 (by decide) rfl ?_
    refine ev_iload_n dX12_readOrder_2 rfl ?_
    refine ev_ist3 dX12_readOrder_3 (by decide) rfl ?_
    refine ev_aload_n dX12_readOrder_4 rfl ?_
    refine ev_getIv (g.1) fl_X12_9 rfl rfl dX12_readOrder_5 ?_
    refine ev_iconst (nI 1) dX12_readOrder_8 rfl ?_
    refine ev_isubN dX12_readOrder_9 (by omega) ?_
    refine ev_ist4 dX12_readOrder_10 (by decide) rfl ?_
    rw [e1]
    refine ev_mono ?_ q
    rintro rv h' ⟨f', a1, a2, a3⟩
    exact ⟨f', a1, a2, fun L hL => by have := a3 L hL; rwa [List.append_nil] at this⟩
end LQ1
