section GRAPH2
variable {G : MG} {d : Nat} {h : MH}
/-! the reference's odd cycle -/
def side (n s v : Nat) : Nat := if s.testBit v = true then s else andn (2 ^ n - 1) s
theorem side_lt {n s v : Nat} (hs : s < 2 ^ n) (hn : n ≤ 7) : side n s v < 128 := by
  have := two_n hn
  have := two_pos n
  unfold side
  split
  · omega
  · exact andn_lt (by omega)
def Sep (n N s : Nat) : Prop := ∀ v, v < n → nb N v &&& side n s v = 0
theorem Sep_Ind {n N s : Nat} (hs : s < 2 ^ n) : Sep n N s ↔ Ind n N s ∧ Ind n N (andn (2 ^ n - 1) s) := by
  have hb : ∀ v, v < n → ((andn (2 ^ n - 1) s).testBit v = true ↔ s.testBit v = false) := by
    intro v hv
    rw [andn_bit, all_bit]; simp [hv]
  constructor
  · intro q
    refine ⟨fun v hv h1 => ?_, fun v hv h1 => ?_⟩
    · have := q v hv
      rw [side, if_pos h1] at this
      exact this
    · have := q v hv
      rw [side, if_neg (by rw [(hb v hv).mp h1]; decide)] at this
      exact this
  · rintro ⟨q1, q2⟩ v hv
    unfold side
    split
    · next h1 => exact q1 v hv h1
    · next h1 => exact q2 v hv ((hb v hv).mpr (by simpa using h1))
theorem Bip_Sep (n N : Nat) : (∃ s, s < 2 ^ n ∧ Sep n N s) ↔ Bip n N :=
  ⟨fun ⟨s, h1, h2⟩ => ⟨s, h1, (Sep_Ind h1).mp h2⟩, fun ⟨s, h1, h2⟩ => ⟨s, h1, (Sep_Ind h1).mpr h2⟩⟩
theorem cl_hasOddCycleM {n N : Nat} (g : gM h n N) (ok : gOK n N) : Cl G (d + 1) M_X12_hasOddCycle [.ref 67] h (qI (nI (b01 (¬ Bip n N))) h) := by
  have hn := ok.2.1
  have t2 := two_n hn
  have t3 := two_pos n
  have outer : ∀ (k s : Nat), s + k = 2 ^ n → (∀ r, r < s → ¬ Sep n N r) → ∀ x2 x3 x4 : Option Value, Ev G (d + 1) M_X12_hasOddCycle 2 [some (.ref 67), some (.int (nI s)), x2, x3, x4] [] h (qI (nI (b01 (¬ Bip n N))) h) := by
    intro k
    induction k with
    | zero =>
      intro s hs hr x2 x3 x4
      refine ev_iload_n dX12_hasOddCycle_2 rfl ?_
      refine ev_aload_n dX12_hasOddCycle_3 rfl ?_
      refine ev_callV (cl_allVerticesM g hn) ok_X12_allVertices ml_X12_116 rfl rfl rfl rfl (Nat.le_of_ble_eq_true rfl) dX12_hasOddCycle_4 (kI ?_)
      refine ev_icmp_gtN 83 dX12_hasOddCycle_7 (by decide) (by omega) (by omega) (fun c7 => ?_) (fun c7 => ?_)
      · refine ev_iconst (nI 1) dX12_hasOddCycle_83 rfl ?_
        refine ev_iret dX12_hasOddCycle_84 rfl ?_
        rw [b01_t (fun q => by obtain ⟨r, h1, h2⟩ := (Bip_Sep n N).mpr q; exact hr r (by omega) h2)]; exact ⟨by with_reducible rfl, rfl⟩
      · omega
    | succ k ih =>
      intro s hs hr x2 x3 x4
      have inner : ∀ (j v : Nat), v + j = n → ∀ x4 : Option Value, Ev G (d + 1) M_X12_hasOddCycle 14 [some (.ref 67), some (.int (nI s)), some (.int (nI (b01 (∀ w, w < v → nb N w &&& side n s w = 0)))), some (.int (nI v)), x4] [] h (qI (nI (b01 (¬ Bip n N))) h) := by
        intro j
        induction j with
        | zero =>
          intro v hv x4
          obtain rfl : v = n := by omega
          have q1 := b01_lt (∀ w, w < v → nb N w &&& side v s w = 0)
          refine ev_iload_n dX12_hasOddCycle_14 rfl ?_
          refine ev_aload_n dX12_hasOddCycle_15 rfl ?_
          refine ev_getIv (g.1) fl_X12_9 rfl rfl dX12_hasOddCycle_16 ?_
          refine ev_icmp_geN 71 dX12_hasOddCycle_19 (by decide) (by omega) (by omega) (fun c19 => ?_) (fun c19 => ?_)
          · refine ev_iload_n dX12_hasOddCycle_71 rfl ?_
            refine ev_if_eqN 77 dX12_hasOddCycle_72 (by decide) (by omega) (fun c72 => ?_) (fun c72 => ?_)
            · refine ev_inc1N dX12_hasOddCycle_77 (by decide) rfl ?_
              refine ev_goto 2 dX12_hasOddCycle_80 (by decide) ?_
              exact ih (s + 1) (by omega) (fun r h1 h2 => by
              by_cases e : r = s
              · subst e; exact b01_0.mp c72 h2
              · exact hr r (by omega) h2) _ _ _
            · refine ev_iconst (nI 0) dX12_hasOddCycle_75 rfl ?_
              refine ev_iret dX12_hasOddCycle_76 rfl ?_
              rw [b01_f (fun q => q ((Bip_Sep v N).mp ⟨s, by omega, (b01_1 (P := ∀ w, w < v → nb N w &&& side v s w = 0)).mp (by omega)⟩))]; exact ⟨by with_reducible rfl, rfl⟩
          · omega
        | succ j ihj =>
          intro v hv x4
          have t1 := tb_lt1 s v
          have n1 := nb_lt N v
          have q1 := b01_lt (∀ w, w < v → nb N w &&& side n s w = 0)
          have l1 := side_lt (v := v) (show s < 2 ^ n by omega) hn
          have a1 : nb N v &&& side n s v < 128 := and_lt n1
          have es : ∀ P : Prop, (P ↔ (nb N v &&& side n s v = 0)) → (b01 (∀ w, w < v → nb N w &&& side n s w = 0) &&& b01 P) = b01 (∀ w, w < v + 1 → nb N w &&& side n s w = 0) := by
            intro P hP
            by_cases c1 : ∀ w, w < v → nb N w &&& side n s w = 0
            · by_cases c2 : P
              · rw [b01_t c1, b01_t c2, b01_t (fun w hw => by
                  by_cases e : w = v
                  · subst e; exact hP.mp c2
                  · exact c1 w (by omega))]; rfl
              · rw [b01_f c2, b01_f (P := ∀ w, w < v + 1 → nb N w &&& side n s w = 0) (fun q => c2 (hP.mpr (q v (by omega))))]; exact Nat.and_zero _
            · rw [b01_f c1, b01_f (P := ∀ w, w < v + 1 → nb N w &&& side n s w = 0) (fun q => c1 (fun w hw => q w (by omega)))]; exact Nat.zero_and _
          have key : ∀ z : Nat, z = side n s v → Ev G (d + 1) M_X12_hasOddCycle 43 [some (.ref 67), some (.int (nI s)), some (.int (nI (b01 (∀ w, w < v → nb N w &&& side n s w = 0)))), some (.int (nI v)), x4] [.int (nI z)] h (qI (nI (b01 (¬ Bip n N))) h) := by
            intro z hz
            subst hz
            refine ev_ist4 dX12_hasOddCycle_43 (by decide) rfl ?_
            refine ev_iload_n dX12_hasOddCycle_45 rfl ?_
            refine ev_aload_n dX12_hasOddCycle_46 rfl ?_
            refine ev_getR fl_X12_15 rfl rfl dX12_hasOddCycle_47 ?_
            refine ev_iload_n dX12_hasOddCycle_50 rfl ?_
            refine ev_ialdv (g.2 v (by omega)) rfl dX12_hasOddCycle_51 (by omega) (by omega) ?_
            refine ev_iload dX12_hasOddCycle_52 rfl ?_
            refine ev_iandN dX12_hasOddCycle_54 ?_
            refine ev_if_neN 62 dX12_hasOddCycle_55 (by decide) (by omega) (fun c55 => ?_) (fun c55 => ?_)
            · refine ev_iconst (nI 0) dX12_hasOddCycle_62 rfl ?_
              refine ev_iandN dX12_hasOddCycle_63 ?_
              refine ev_ist2 dX12_hasOddCycle_64 (by decide) rfl ?_
              refine ev_inc3N dX12_hasOddCycle_65 (by decide) rfl ?_
              refine ev_goto 14 dX12_hasOddCycle_68 (by decide) ?_
              have q := ihj (v + 1) (by omega) (some (.int (nI (side n s v))))
              rw [← es (nb N v &&& side n s v = 0) Iff.rfl, b01_f c55] at q
              exact q
            · refine ev_iconst (nI 1) dX12_hasOddCycle_58 rfl ?_
              refine ev_goto 63 dX12_hasOddCycle_59 (by decide) ?_
              refine ev_iandN dX12_hasOddCycle_63 ?_
              refine ev_ist2 dX12_hasOddCycle_64 (by decide) rfl ?_
              refine ev_inc3N dX12_hasOddCycle_65 (by decide) rfl ?_
              refine ev_goto 14 dX12_hasOddCycle_68 (by decide) ?_
              have q := ihj (v + 1) (by omega) (some (.int (nI (side n s v))))
              rw [← es (nb N v &&& side n s v = 0) Iff.rfl, b01_t c55] at q
              exact q
          refine ev_iload_n dX12_hasOddCycle_14 rfl ?_
          refine ev_aload_n dX12_hasOddCycle_15 rfl ?_
          refine ev_getIv (g.1) fl_X12_9 rfl rfl dX12_hasOddCycle_16 ?_
          refine ev_icmp_geN 71 dX12_hasOddCycle_19 (by decide) (by omega) (by omega) (fun c19 => ?_) (fun c19 => ?_)
          · omega
          · refine ev_iload_n dX12_hasOddCycle_22 rfl ?_
            refine ev_iload_n dX12_hasOddCycle_23 rfl ?_
            refine ev_ishrN dX12_hasOddCycle_24 (by omega) (by omega) ?_
            refine ev_iconst (nI 1) dX12_hasOddCycle_25 rfl ?_
            refine ev_iandN dX12_hasOddCycle_26 ?_
            refine ev_iconst (nI 1) dX12_hasOddCycle_27 rfl ?_
            refine ev_icmp_neN 35 dX12_hasOddCycle_28 (by decide) (by omega) (by omega) (fun c28 => ?_) (fun c28 => ?_)
            · refine ev_aload_n dX12_hasOddCycle_35 rfl ?_
              refine ev_callV (cl_allVerticesM g hn) ok_X12_allVertices ml_X12_116 rfl rfl rfl rfl (Nat.le_of_ble_eq_true rfl) dX12_hasOddCycle_36 (kI ?_)
              refine ev_iload_n dX12_hasOddCycle_39 rfl ?_
              refine ev_iconst (-1) dX12_hasOddCycle_40 rfl ?_
              refine ev_ixor dX12_hasOddCycle_41 ?_
              refine ev_iandC dX12_hasOddCycle_42 ?_
              exact key _ (by rw [side, if_neg (by rw [(tb_n1 _ _).mp c28]; decide)])
            · refine ev_iload_n dX12_hasOddCycle_31 rfl ?_
              refine ev_goto 43 dX12_hasOddCycle_32 (by decide) ?_
              exact key _ (by rw [side, if_pos ((tb_iff _ _).mp c28)])
      refine ev_iload_n dX12_hasOddCycle_2 rfl ?_
      refine ev_aload_n dX12_hasOddCycle_3 rfl ?_
      refine ev_callV (cl_allVerticesM g hn) ok_X12_allVertices ml_X12_116 rfl rfl rfl rfl (Nat.le_of_ble_eq_true rfl) dX12_hasOddCycle_4 (kI ?_)
      refine ev_icmp_gtN 83 dX12_hasOddCycle_7 (by decide) (by omega) (by omega) (fun c7 => ?_) (fun c7 => ?_)
      · omega
      · refine ev_iconst (nI 1) dX12_hasOddCycle_10 rfl ?_
        refine ev_ist2 dX12_hasOddCycle_11 (by decide) rfl ?_
        refine ev_iconst (nI 0) dX12_hasOddCycle_12 rfl ?_
        refine ev_ist3 dX12_hasOddCycle_13 (by decide) rfl ?_
        have q := inner n 0 (by omega) x4
        rw [b01_t (fun w hw => absurd hw (by omega))] at q
        exact q
  refine ev_start 4 (lv := [some (.ref 67), none, none, none, none]) rfl (by decide) (Nat.le_of_ble_eq_true rfl) ?_
  refine ev_iconst (nI 0) dX12_hasOddCycle_0 rfl ?_
  refine ev_ist1 dX12_hasOddCycle_1 (by decide) rfl ?_
  exact outer (2 ^ n) 0 (by omega) (fun r h1 => absurd h1 (by omega)) _ _ _
/-! covers -/
def Cov (n N s : Nat) : Prop := ∀ v, v < n → s.testBit v = false → andn (nb N v) s = 0
def MinC (n N s : Nat) : Prop := ∀ v, v < n → (s.testBit v = true ↔ ¬ andn (nb N v) s = 0)
theorem andn_z {N v s : Nat} : andn (nb N v) s = 0 ↔ ∀ u, u < 7 → (nb N v).testBit u = true → s.testBit u = true := by
  rw [set_eq0 (k := 7) (andn_lt (nb_lt N v))]
  constructor
  · intro q u hu hb
    have := q u hu
    rw [andn_bit, hb] at this; simpa using this
  · intro q u hu
    rw [andn_bit]
    cases hb : (nb N v).testBit u with
    | false => rfl
    | true => rw [q u hu hb]; rfl
theorem MinC_iff {n N s : Nat} (ok : gOK n N) : MinC n N s ↔ Cov n N s ∧ ∀ v, v < n → s.testBit v = true → ¬ Cov n N (andn s (2 ^ v)) := by
  have hn := ok.2.1
  have key : ∀ v, v < n → Cov n N s → (Cov n N (andn s (2 ^ v)) ↔ andn (nb N v) s = 0) := by
    intro v hv hc
    constructor
    · intro q
      rw [andn_z]
      intro u hu hb
      have h1 := q v hv (by rw [andn_bit, pow_bit]; simp)
      have h2 := andn_z.mp h1 u hu hb
      rw [andn_bit] at h2
      simp at h2; exact h2.1
    · intro q w hw hb
      rw [andn_z] at q ⊢
      intro u hu hbu
      rw [andn_bit, pow_bit] at hb
      rw [andn_bit, pow_bit]
      by_cases e : w = v
      · subst e
        have hs := q u hu hbu
        have : w ≠ u := fun z => by subst z; rw [ok.irr hu] at hbu; cases hbu
        simp [hs, this]
      · have hsw : s.testBit w = false := by simpa [Ne.symm e] using hb
        have hs := andn_z.mp (hc w hw hsw) u hu hbu
        have : v ≠ u := fun z => by
          subst z
          have := q w (by omega) (by rw [ok.sym hu (by omega)]; exact hbu)
          rw [this] at hsw; cases hsw
        simp [hs, this]
  constructor
  · intro q
    have hc : Cov n N s := fun v hv hb => Classical.byContradiction (fun z => by rw [(q v hv).mpr z] at hb; cases hb)
    exact ⟨hc, fun v hv hb z => (q v hv).mp hb ((key v hv hc).mp z)⟩
  · rintro ⟨hc, hm⟩ v hv
    constructor
    · intro hb z
      exact hm v hv hb ((key v hv hc).mpr z)
    · intro z
      cases hb : s.testBit v with
      | true => rfl
      | false => exact absurd (hc v hv hb) z
theorem cl_isMinimalCoverC {n N s : Nat} (g : gC h n N) (ok : gOK n N) (hs : s < 128) : Cl G (d + 1) M_X1_isMinimalCover [.ref 1, .int (nI s)] h (qI (nI (b01 (MinC n N s))) h) := by
  have hn := ok.2.1
  have loop : ∀ (k v : Nat), v + k = n → (∀ w, w < v → (s.testBit w = true ↔ ¬ andn (nb N w) s = 0)) → ∀ x3 x4 : Option Value, Ev G (d + 1) M_X1_isMinimalCover 2 [some (.ref 1), some (.int (nI s)), some (.int (nI v)), x3, x4] [] h (qI (nI (b01 (MinC n N s))) h) := by
    intro k
    induction k with
    | zero =>
      intro v hv hw x3 x4
      obtain rfl : v = n := by omega
      refine ev_iload_n dX1_isMinimalCover_2 rfl ?_
      refine ev_aload_n dX1_isMinimalCover_3 rfl ?_
      refine ev_getIv (g.1) fl_X1_9 rfl rfl dX1_isMinimalCover_4 ?_
      refine ev_icmp_geN 60 dX1_isMinimalCover_7 (by decide) (by omega) (by omega) (fun c7 => ?_) (fun c7 => ?_)
      · refine ev_iconst (nI 1) dX1_isMinimalCover_60 rfl ?_
        refine ev_zret dX1_isMinimalCover_61 rfl rfl ?_
        rw [b01_t (show MinC _ N s from hw)]; exact ⟨by with_reducible rfl, rfl⟩
      · omega
    | succ k ih =>
      intro v hv hw x3 x4
      have t1 := tb_lt1 s v
      have a1 : andn (nb N v) s < 128 := andn_lt (nb_lt N v)
      have hi : ∀ P : Prop, P → (P → (s.testBit v = true ↔ ¬ andn (nb N v) s = 0)) → ∀ x3 x4 : Option Value, Ev G (d + 1) M_X1_isMinimalCover 2 [some (.ref 1), some (.int (nI s)), some (.int (nI (v + 1))), x3, x4] [] h (qI (nI (b01 (MinC n N s))) h) := fun P hP hq x3 x4 => ih (v + 1) (by omega) (fun w h1 => by
          by_cases e : w = v
          · subst e; exact hq hP
          · exact hw w (by omega)) x3 x4
      refine ev_iload_n dX1_isMinimalCover_2 rfl ?_
      refine ev_aload_n dX1_isMinimalCover_3 rfl ?_
      refine ev_getIv (g.1) fl_X1_9 rfl rfl dX1_isMinimalCover_4 ?_
      refine ev_icmp_geN 60 dX1_isMinimalCover_7 (by decide) (by omega) (by omega) (fun c7 => ?_) (fun c7 => ?_)
      · omega
      · refine ev_iload_n dX1_isMinimalCover_10 rfl ?_
        refine ev_iload_n dX1_isMinimalCover_11 rfl ?_
        refine ev_ishrN dX1_isMinimalCover_12 (by omega) (by omega) ?_
        refine ev_iconst (nI 1) dX1_isMinimalCover_13 rfl ?_
        refine ev_iandN dX1_isMinimalCover_14 ?_
        refine ev_if_eqN 22 dX1_isMinimalCover_15 (by decide) (by omega) (fun c15 => ?_) (fun c15 => ?_)
        · refine ev_iconst (nI 0) dX1_isMinimalCover_22 rfl ?_
          refine ev_ist3 dX1_isMinimalCover_23 (by decide) rfl ?_
          refine ev_aload_n dX1_isMinimalCover_24 rfl ?_
          refine ev_getLv (g.2) fl_X1_15 rfl rfl dX1_isMinimalCover_25 ?_
          refine ev_iload_n dX1_isMinimalCover_28 rfl ?_
          refine ev_callS (cl_neighborsIn ok.2.2.1 (by omega)) ok_X1_neighborsIn ml_X1_58 rfl rfl (Nat.le_of_ble_eq_true rfl) dX1_isMinimalCover_29 (kI ?_)
          refine ev_iload_n dX1_isMinimalCover_32 rfl ?_
          refine ev_iconst (-1) dX1_isMinimalCover_33 rfl ?_
          refine ev_ixor dX1_isMinimalCover_34 ?_
          refine ev_iandC dX1_isMinimalCover_35 ?_
          refine ev_if_eqN 43 dX1_isMinimalCover_36 (by decide) (by omega) (fun c36 => ?_) (fun c36 => ?_)
          · refine ev_iconst (nI 0) dX1_isMinimalCover_43 rfl ?_
            refine ev_ist4 dX1_isMinimalCover_44 (by decide) rfl ?_
            refine ev_iload_n dX1_isMinimalCover_46 rfl ?_
            refine ev_iload dX1_isMinimalCover_47 rfl ?_
            refine ev_icmp_eqN 54 dX1_isMinimalCover_49 (by decide) (by omega) (by omega) (fun c49 => ?_) (fun c49 => ?_)
            · refine ev_inc2N dX1_isMinimalCover_54 (by decide) rfl ?_
              refine ev_goto 2 dX1_isMinimalCover_57 (by decide) ?_
              exact hi True trivial (fun _ => by first | (rw [(tb_0 _ _).mp c15]; simp [c36]; done) | (rw [(tb_n0 _ _).mp c15]; simp [c36]; done)) _ _
            · exact absurd rfl c49
          · refine ev_iconst (nI 1) dX1_isMinimalCover_39 rfl ?_
            refine ev_goto 44 dX1_isMinimalCover_40 (by decide) ?_
            refine ev_ist4 dX1_isMinimalCover_44 (by decide) rfl ?_
            refine ev_iload_n dX1_isMinimalCover_46 rfl ?_
            refine ev_iload dX1_isMinimalCover_47 rfl ?_
            refine ev_icmp_eqN 54 dX1_isMinimalCover_49 (by decide) (by omega) (by omega) (fun c49 => ?_) (fun c49 => ?_)
            · exact absurd c49 (by decide)
            · refine ev_iconst (nI 0) dX1_isMinimalCover_52 rfl ?_
              refine ev_zret dX1_isMinimalCover_53 rfl rfl ?_
              rw [b01_f (fun q => by have := q v (by omega); first | (rw [(tb_0 _ _).mp c15] at this; simp [c36] at this; done) | (rw [(tb_n0 _ _).mp c15] at this; simp [c36] at this; done))]; exact ⟨by with_reducible rfl, rfl⟩
        · refine ev_iconst (nI 1) dX1_isMinimalCover_18 rfl ?_
          refine ev_goto 23 dX1_isMinimalCover_19 (by decide) ?_
          refine ev_ist3 dX1_isMinimalCover_23 (by decide) rfl ?_
          refine ev_aload_n dX1_isMinimalCover_24 rfl ?_
          refine ev_getLv (g.2) fl_X1_15 rfl rfl dX1_isMinimalCover_25 ?_
          refine ev_iload_n dX1_isMinimalCover_28 rfl ?_
          refine ev_callS (cl_neighborsIn ok.2.2.1 (by omega)) ok_X1_neighborsIn ml_X1_58 rfl rfl (Nat.le_of_ble_eq_true rfl) dX1_isMinimalCover_29 (kI ?_)
          refine ev_iload_n dX1_isMinimalCover_32 rfl ?_
          refine ev_iconst (-1) dX1_isMinimalCover_33 rfl ?_
          refine ev_ixor dX1_isMinimalCover_34 ?_
          refine ev_iandC dX1_isMinimalCover_35 ?_
          refine ev_if_eqN 43 dX1_isMinimalCover_36 (by decide) (by omega) (fun c36 => ?_) (fun c36 => ?_)
          · refine ev_iconst (nI 0) dX1_isMinimalCover_43 rfl ?_
            refine ev_ist4 dX1_isMinimalCover_44 (by decide) rfl ?_
            refine ev_iload_n dX1_isMinimalCover_46 rfl ?_
            refine ev_iload dX1_isMinimalCover_47 rfl ?_
            refine ev_icmp_eqN 54 dX1_isMinimalCover_49 (by decide) (by omega) (by omega) (fun c49 => ?_) (fun c49 => ?_)
            · exact absurd c49 (by decide)
            · refine ev_iconst (nI 0) dX1_isMinimalCover_52 rfl ?_
              refine ev_zret dX1_isMinimalCover_53 rfl rfl ?_
              rw [b01_f (fun q => by have := q v (by omega); first | (rw [(tb_0 _ _).mp c15] at this; simp [c36] at this; done) | (rw [(tb_n0 _ _).mp c15] at this; simp [c36] at this; done))]; exact ⟨by with_reducible rfl, rfl⟩
          · refine ev_iconst (nI 1) dX1_isMinimalCover_39 rfl ?_
            refine ev_goto 44 dX1_isMinimalCover_40 (by decide) ?_
            refine ev_ist4 dX1_isMinimalCover_44 (by decide) rfl ?_
            refine ev_iload_n dX1_isMinimalCover_46 rfl ?_
            refine ev_iload dX1_isMinimalCover_47 rfl ?_
            refine ev_icmp_eqN 54 dX1_isMinimalCover_49 (by decide) (by omega) (by omega) (fun c49 => ?_) (fun c49 => ?_)
            · refine ev_inc2N dX1_isMinimalCover_54 (by decide) rfl ?_
              refine ev_goto 2 dX1_isMinimalCover_57 (by decide) ?_
              exact hi True trivial (fun _ => by first | (rw [(tb_0 _ _).mp c15]; simp [c36]; done) | (rw [(tb_n0 _ _).mp c15]; simp [c36]; done)) _ _
            · exact absurd rfl c49
  refine ev_start 3 (lv := [some (.ref 1), some (.int (nI s)), none, none, none]) rfl (by decide) (Nat.le_of_ble_eq_true rfl) ?_
  refine ev_iconst (nI 0) dX1_isMinimalCover_0 rfl ?_
  refine ev_ist2 dX1_isMinimalCover_1 (by decide) rfl ?_
  exact loop n 0 (by omega) (fun w h1 => absurd h1 (by omega)) _ _
theorem cl_isCover {n N s : Nat} (g : gM h n N) (ok : gOK n N) (hs : s < 128) : Cl G d M_X12_isCover [.ref 67, .int (nI s)] h (qI (nI (b01 (Cov n N s))) h) := by
  have hn := ok.2.1
  have loop : ∀ (k v : Nat), v + k = n → (∀ w, w < v → s.testBit w = false → andn (nb N w) s = 0) → Ev G d M_X12_isCover 2 [some (.ref 67), some (.int (nI s)), some (.int (nI v))] [] h (qI (nI (b01 (Cov n N s))) h) := by
    intro k
    induction k with
    | zero =>
      intro v hv hw
      obtain rfl : v = n := by omega
      refine ev_iload_n dX12_isCover_2 rfl ?_
      refine ev_aload_n dX12_isCover_3 rfl ?_
      refine ev_getIv (g.1) fl_X12_9 rfl rfl dX12_isCover_4 ?_
      refine ev_icmp_geN 39 dX12_isCover_7 (by decide) (by omega) (by omega) (fun c7 => ?_) (fun c7 => ?_)
      · refine ev_iconst (nI 1) dX12_isCover_39 rfl ?_
        refine ev_zret dX12_isCover_40 rfl rfl ?_
        rw [b01_t (show Cov _ N s from hw)]; exact ⟨by with_reducible rfl, rfl⟩
      · omega
    | succ k ih =>
      intro v hv hw
      have t1 := tb_lt1 s v
      have a1 : andn (nb N v) s < 128 := andn_lt (nb_lt N v)
      refine ev_iload_n dX12_isCover_2 rfl ?_
      refine ev_aload_n dX12_isCover_3 rfl ?_
      refine ev_getIv (g.1) fl_X12_9 rfl rfl dX12_isCover_4 ?_
      refine ev_icmp_geN 39 dX12_isCover_7 (by decide) (by omega) (by omega) (fun c7 => ?_) (fun c7 => ?_)
      · omega
      · refine ev_iload_n dX12_isCover_10 rfl ?_
        refine ev_iload_n dX12_isCover_11 rfl ?_
        refine ev_ishrN dX12_isCover_12 (by omega) (by omega) ?_
        refine ev_iconst (nI 1) dX12_isCover_13 rfl ?_
        refine ev_iandN dX12_isCover_14 ?_
        refine ev_if_neN 33 dX12_isCover_15 (by decide) (by omega) (fun c15 => ?_) (fun c15 => ?_)
        · refine ev_inc2N dX12_isCover_33 (by decide) rfl ?_
          refine ev_goto 2 dX12_isCover_36 (by decide) ?_
          exact ih (v + 1) (by omega) (fun w h1 h2 => by
          by_cases e : w = v
          · subst e; rw [(tb_n0 _ _).mp c15] at h2; cases h2
          · exact hw w (by omega) h2)
        · refine ev_aload_n dX12_isCover_18 rfl ?_
          refine ev_getR fl_X12_15 rfl rfl dX12_isCover_19 ?_
          refine ev_iload_n dX12_isCover_22 rfl ?_
          refine ev_ialdv (g.2 v (by omega)) rfl dX12_isCover_23 (by omega) (by omega) ?_
          refine ev_iload_n dX12_isCover_24 rfl ?_
          refine ev_iconst (-1) dX12_isCover_25 rfl ?_
          refine ev_ixor dX12_isCover_26 ?_
          refine ev_iandC dX12_isCover_27 ?_
          refine ev_if_eqN 33 dX12_isCover_28 (by decide) (by omega) (fun c28 => ?_) (fun c28 => ?_)
          · refine ev_inc2N dX12_isCover_33 (by decide) rfl ?_
            refine ev_goto 2 dX12_isCover_36 (by decide) ?_
            exact ih (v + 1) (by omega) (fun w h1 h2 => by
            by_cases e : w = v
            · subst e; exact c28
            · exact hw w (by omega) h2)
          · refine ev_iconst (nI 0) dX12_isCover_31 rfl ?_
            refine ev_zret dX12_isCover_32 rfl rfl ?_
            rw [b01_f (fun q => c28 (q v (by omega) ((tb_0 _ _).mp c15)))]; exact ⟨by with_reducible rfl, rfl⟩
  refine ev_start 1 (lv := [some (.ref 67), some (.int (nI s)), none]) rfl (by decide) (Nat.le_of_ble_eq_true rfl) ?_
  refine ev_iconst (nI 0) dX12_isCover_0 rfl ?_
  refine ev_ist2 dX12_isCover_1 (by decide) rfl ?_
  exact loop n 0 (by omega) (fun w h1 => absurd h1 (by omega))
theorem cl_isMinimalCoverM {n N s : Nat} (g : gM h n N) (ok : gOK n N) (hs : s < 128) : Cl G (d + 1) M_X12_isMinimalCover [.ref 67, .int (nI s)] h (qI (nI (b01 (MinC n N s))) h) := by
  have hn := ok.2.1
  rw [b01_c (MinC_iff ok)]
  have q0 := b01_lt (Cov n N s)
  have loop : Cov n N s → ∀ (k v : Nat), v + k = n → (∀ w, w < v → s.testBit w = true → ¬ Cov n N (andn s (2 ^ w))) → Ev G (d + 1) M_X12_isMinimalCover 12 [some (.ref 67), some (.int (nI s)), some (.int (nI v))] [] h (qI (nI (b01 (Cov n N s ∧ ∀ v, v < n → s.testBit v = true → ¬ Cov n N (andn s (2 ^ v))))) h) := by
    intro hc k
    induction k with
    | zero =>
      intro v hv hw
      obtain rfl : v = n := by omega
      refine ev_iload_n dX12_isMinimalCover_12 rfl ?_
      refine ev_aload_n dX12_isMinimalCover_13 rfl ?_
      refine ev_getIv (g.1) fl_X12_9 rfl rfl dX12_isMinimalCover_14 ?_
      refine ev_icmp_geN 51 dX12_isMinimalCover_17 (by decide) (by omega) (by omega) (fun c17 => ?_) (fun c17 => ?_)
      · refine ev_iconst (nI 1) dX12_isMinimalCover_51 rfl ?_
        refine ev_zret dX12_isMinimalCover_52 rfl rfl ?_
        rw [b01_t ⟨hc, hw⟩]; exact ⟨by with_reducible rfl, rfl⟩
      · omega
    | succ k ih =>
      intro v hv hw
      have t1 := tb_lt1 s v
      have a1 : andn s (2 ^ v) < 128 := andn_lt hs
      have e1 : 1 * 2 ^ v = 2 ^ v := Nat.one_mul _
      have p1 : 2 ^ v < 2 ^ 7 := pow_lt (by omega)
      have q1 := b01_lt (Cov n N (andn s (2 ^ v)))
      refine ev_iload_n dX12_isMinimalCover_12 rfl ?_
      refine ev_aload_n dX12_isMinimalCover_13 rfl ?_
      refine ev_getIv (g.1) fl_X12_9 rfl rfl dX12_isMinimalCover_14 ?_
      refine ev_icmp_geN 51 dX12_isMinimalCover_17 (by decide) (by omega) (by omega) (fun c17 => ?_) (fun c17 => ?_)
      · omega
      · refine ev_iload_n dX12_isMinimalCover_20 rfl ?_
        refine ev_iload_n dX12_isMinimalCover_21 rfl ?_
        refine ev_ishrN dX12_isMinimalCover_22 (by omega) (by omega) ?_
        refine ev_iconst (nI 1) dX12_isMinimalCover_23 rfl ?_
        refine ev_iandN dX12_isMinimalCover_24 ?_
        refine ev_iconst (nI 1) dX12_isMinimalCover_25 rfl ?_
        refine ev_icmp_neN 45 dX12_isMinimalCover_26 (by decide) (by omega) (by omega) (fun c26 => ?_) (fun c26 => ?_)
        · refine ev_inc2N dX12_isMinimalCover_45 (by decide) rfl ?_
          refine ev_goto 12 dX12_isMinimalCover_48 (by decide) ?_
          exact ih (v + 1) (by omega) (fun w h1 h2 => by
          by_cases e : w = v
          · subst e; rw [(tb_n1 _ _).mp c26] at h2; cases h2
          · exact hw w (by omega) h2)
        · refine ev_aload_n dX12_isMinimalCover_29 rfl ?_
          refine ev_iload_n dX12_isMinimalCover_30 rfl ?_
          refine ev_iconst (nI 1) dX12_isMinimalCover_31 rfl ?_
          refine ev_iload_n dX12_isMinimalCover_32 rfl ?_
          refine ev_ishlN dX12_isMinimalCover_33 (by omega) (by omega) ?_
          rw [e1]
          refine ev_iconst (-1) dX12_isMinimalCover_34 rfl ?_
          refine ev_ixor dX12_isMinimalCover_35 ?_
          refine ev_iandC dX12_isMinimalCover_36 ?_
          refine ev_callV (cl_isCover g ok a1) ok_X12_isCover ml_X12_122 rfl rfl rfl rfl (Nat.le_of_ble_eq_true rfl) dX12_isMinimalCover_37 (kI ?_)
          refine ev_if_eqN 45 dX12_isMinimalCover_40 (by decide) (by omega) (fun c40 => ?_) (fun c40 => ?_)
          · refine ev_inc2N dX12_isMinimalCover_45 (by decide) rfl ?_
            refine ev_goto 12 dX12_isMinimalCover_48 (by decide) ?_
            exact ih (v + 1) (by omega) (fun w h1 h2 => by
            by_cases e : w = v
            · subst e; exact b01_0.mp c40
            · exact hw w (by omega) h2)
          · refine ev_iconst (nI 0) dX12_isMinimalCover_43 rfl ?_
            refine ev_zret dX12_isMinimalCover_44 rfl rfl ?_
            rw [b01_f (fun q => q.2 v (by omega) ((tb_iff _ _).mp c26) (b01_1.mp (by omega)))]; exact ⟨by with_reducible rfl, rfl⟩
  refine ev_start 1 (lv := [some (.ref 67), some (.int (nI s)), none]) rfl (by decide) (Nat.le_of_ble_eq_true rfl) ?_
  refine ev_aload_n dX12_isMinimalCover_0 rfl ?_
  refine ev_iload_n dX12_isMinimalCover_1 rfl ?_
  refine ev_callV (cl_isCover g ok hs) ok_X12_isCover ml_X12_122 rfl rfl rfl rfl (Nat.le_of_ble_eq_true rfl) dX12_isMinimalCover_2 (kI ?_)
  refine ev_if_neN 10 dX12_isMinimalCover_5 (by decide) (by omega) (fun c5 => ?_) (fun c5 => ?_)
  · refine ev_iconst (nI 0) dX12_isMinimalCover_10 rfl ?_
    refine ev_ist2 dX12_isMinimalCover_11 (by decide) rfl ?_
    exact loop (b01_1.mp (by omega)) n 0 (by omega) (fun w h1 => absurd h1 (by omega))
  · refine ev_iconst (nI 0) dX12_isMinimalCover_8 rfl ?_
    refine ev_zret dX12_isMinimalCover_9 rfl rfl ?_
    rw [b01_f (fun q => b01_0.mp c5 q.1)]; exact ⟨by with_reducible rfl, rfl⟩
/-! reaching -/
def stp (N S : Nat) : Nat → Nat
  | 0 => S
  | u + 1 => if S.testBit u = true then stp N S u ||| nb N u else stp N S u
theorem stp_lt {N S : Nat} (hS : S < 128) : ∀ u, stp N S u < 128
  | 0 => hS
  | u + 1 => by
    unfold stp
    split
    · exact or_lt7 (stp_lt hS u) (nb_lt N u)
    · exact stp_lt hS u
def itr (n N : Nat) : Nat → Nat → Nat
  | 0, S => S
  | k + 1, S => itr n N k (stp N S n)
theorem itr_s (n N : Nat) : ∀ k S, itr n N (k + 1) S = stp N (itr n N k S) n
  | 0, S => rfl
  | k + 1, S => itr_s n N k (stp N S n)
theorem itr_lt {n N : Nat} : ∀ (k : Nat) {S : Nat}, S < 128 → itr n N k S < 128
  | 0, _, h => h
  | k + 1, _, h => itr_lt k (stp_lt h n)
theorem stp_bit {N S : Nat} : ∀ (n i : Nat), (stp N S n).testBit i = true ↔ S.testBit i = true ∨ ∃ u, u < n ∧ S.testBit u = true ∧ (nb N u).testBit i = true
  | 0, i => by
    constructor
    · intro h; exact Or.inl h
    · rintro (h | ⟨u, hu, -⟩)
      · exact h
      · exact absurd hu (by omega)
  | n + 1, i => by
    have ih := stp_bit (N := N) (S := S) n i
    unfold stp
    split
    · next hb =>
      rw [Nat.testBit_or, Bool.or_eq_true, ih]
      constructor
      · rintro ((h | ⟨u, h1, h2⟩) | h)
        · exact Or.inl h
        · exact Or.inr ⟨u, by omega, h2⟩
        · exact Or.inr ⟨n, by omega, hb, h⟩
      · rintro (h | ⟨u, h1, h2, h3⟩)
        · exact Or.inl (Or.inl h)
        · by_cases e : u = n
          · subst e; exact Or.inr h3
          · exact Or.inl (Or.inr ⟨u, by omega, h2, h3⟩)
    · next hb =>
      rw [ih]
      constructor
      · rintro (h | ⟨u, h1, h2⟩)
        · exact Or.inl h
        · exact Or.inr ⟨u, by omega, h2⟩
      · rintro (h | ⟨u, h1, h2, h3⟩)
        · exact Or.inl h
        · by_cases e : u = n
          · subst e; exact absurd h2 hb
          · exact Or.inr ⟨u, by omega, h2, h3⟩
theorem grow : ∀ a, a < 128 → ∀ b, b < 128 → a ||| b = b → a ≠ b → pop a < pop b := by decide +kernel
theorem full : ∀ n, n < 8 → ∀ a, a < 128 → a < 2 ^ n → n ≤ pop a → a = 2 ^ n - 1 := by decide +kernel
theorem pop_pow : ∀ v, v < 7 → pop (2 ^ v) = 1 := by decide +kernel
theorem itr_n {n N S : Nat} (ok : gOK n N) (hS : S < 2 ^ n) : ∀ k, itr n N k S < 2 ^ n := by
  intro k
  induction k generalizing S with
  | zero => exact hS
  | succ k ih =>
    refine ih (S := stp N S n) ?_
    apply Nat.lt_pow_two_of_testBit
    intro i hi
    cases hb : (stp N S n).testBit i with
    | false => rfl
    | true =>
      rcases (stp_bit n i).mp hb with h1 | ⟨u, h1, h2, h3⟩
      · rw [bit_out hS hi] at h1; cases h1
      · rw [bit_out (ok.nb_n (by have := ok.2.1; omega)) hi] at h3; cases h3
/-- n - 1 rounds are enough -/
theorem itr_fix {n N v : Nat} (ok : gOK n N) (hv : v < n) : stp N (itr n N (n - 1) (2 ^ v)) n = itr n N (n - 1) (2 ^ v) := by
  have hn := ok.2.1
  have h7 : 2 ^ v < 128 := pow_lt (k := 7) (by omega)
  have key : ∀ k, stp N (itr n N k (2 ^ v)) n = itr n N k (2 ^ v) ∨ k + 1 ≤ pop (itr n N k (2 ^ v)) := by
    intro k
    induction k with
    | zero => right; show 1 ≤ pop (2 ^ v); rw [pop_pow v (by omega)]; exact Nat.le_refl _
    | succ k ih =>
      rw [itr_s]
      rcases ih with h | h
      · left; rw [h, h]
      · by_cases e : stp N (itr n N k (2 ^ v)) n = itr n N k (2 ^ v)
        · left; rw [e, e]
        · right
          have hl := itr_lt (n := n) (N := N) k h7
          have := grow (itr n N k (2 ^ v)) hl (stp N (itr n N k (2 ^ v)) n) (stp_lt hl n) (by
            apply Nat.eq_of_testBit_eq
            intro i
            rw [Nat.testBit_or]
            cases hb : (itr n N k (2 ^ v)).testBit i with
            | false => rfl
            | true => rw [(stp_bit n i).mpr (Or.inl hb)]; rfl) (Ne.symm e)
          omega
  rcases key (n - 1) with h | h
  · exact h
  · have hl := itr_lt (n := n) (N := N) (n - 1) h7
    have hl2 := itr_n ok (S := 2 ^ v) (pow_lt hv) (n - 1)
    have e := full n (by omega) _ hl hl2 (by have := ok.1; omega)
    rw [e]
    refine set_ext (k := n) ?_ (by have := two_pos n; omega) (fun i hi => ?_)
    · have := itr_n ok (S := 2 ^ n - 1) (by have := two_pos n; omega) 1
      exact this
    · have : (2 ^ n - 1).testBit i = true := by rw [all_bit]; simp [hi]
      rw [this, (stp_bit n i).mpr (Or.inl this)]
theorem itr_stay {n N S k : Nat} (h : stp N (itr n N k S) n = itr n N k S) : ∀ j, itr n N (k + j) S = itr n N k S := by
  intro j
  induction j with
  | zero => rfl
  | succ j ih => rw [show k + (j + 1) = (k + j) + 1 by omega, itr_s, ih, h]
theorem itr_eq {n N v k : Nat} (ok : gOK n N) (hv : v < n) (h : stp N (itr n N k (2 ^ v)) n = itr n N k (2 ^ v)) : itr n N k (2 ^ v) = itr n N (n - 1) (2 ^ v) := by
  have h1 := itr_stay h (n - 1)
  have h2 := itr_stay (itr_fix ok hv) k
  rw [← h1, ← h2, Nat.add_comm]
end GRAPH2
