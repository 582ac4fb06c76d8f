section LQ6
variable {G : MG} {d : Nat} {h : MH}
def Col (n : Nat) (O : List Nat) (i v : Nat) : Prop := v < n ∧ ∃ k, k < i ∧ stpV n (O.getD k 0) (O.getD i 0) v
noncomputable def cUn (n : Nat) (O : List Nat) (i : Nat) : Nat := sumTo 7 (fun v => b01 (Col n O i v) * 4 ^ v)
theorem ex_cUn {n i v : Nat} {O : List Nat} (hv : v < 7) : ex (cUn n O i) v = b01 (Col n O i v) :=
  sum_dig (f := fun v => b01 (Col n O i v)) 7 (fun w _ => by have := b01_lt (Col n O i w); omega) v hv
theorem cUn_lt {n i : Nat} {O : List Nat} : cUn n O i < 16384 := sum_lt4 (f := fun v => b01 (Col n O i v)) 7 (fun w _ => by have := b01_lt (Col n O i w); omega)
theorem ex_pow {v w : Nat} (hv : v < 7) (hw : w < 7) : ex (4 ^ v) w = if w = v then 1 else 0 := by
  rw [← one_sum hv, sum_dig (f := fun w => if w = v then 1 else 0) 7 (fun i _ => by show (if i = v then 1 else 0) < 4; split <;> omega) w hw]
/-- the quotients are ready for power s and order S -/
def rdy (h : MH) (n N s : Nat) (S : List Nat) : Prop := h.1 26 5 = nI s ∧ hold (h.1 27) S ∧ isO n S ∧ rowIs h 28 (srt (gnL n N s) S) ∧ ∃ ko, kO h n N ko ∧ ∀ m, m < 4 ^ n → deg m = 2 * s → m < ko
theorem cl_isListed {n N ko m s : Nat} (ok : gOK n N) (k : kO h n N ko) (hm : m < ko) (hs : s ≤ 3) : Cl G d M_X2_isListedGenerator [.ref 4, .int (nI m), .int (nI s)] h (qI (nI (b01 (s ≤ ord n N m))) h) := by
  have h4 := four_n ok.2.1
  obtain ⟨k1, k2, k3⟩ := k
  have ol := ord_le ok (m := m)
  refine ev_start 0 (lv := [some (.ref 4), some (.int (nI m)), some (.int (nI s))]) rfl (by decide) (Nat.le_of_ble_eq_true rfl) ?_
  refine ev_iload_n dX2_isListedGenerator_0 rfl ?_
  refine ev_if_ltN 26 dX2_isListedGenerator_1 (by decide) (by omega) (fun c1 => ?_) (fun c1 => ?_)
  · exact c1.elim
  · refine ev_iload_n dX2_isListedGenerator_4 rfl ?_
    refine ev_aload_n dX2_isListedGenerator_5 rfl ?_
    refine ev_getIv (k2) fl_X2_47 rfl rfl dX2_isListedGenerator_6 ?_
    refine ev_icmp_geN 26 dX2_isListedGenerator_9 (by decide) (by omega) (by omega) (fun c9 => ?_) (fun c9 => ?_)
    · omega
    · refine ev_aload_n dX2_isListedGenerator_12 rfl ?_
      refine ev_getR fl_X2_17 rfl rfl dX2_isListedGenerator_13 ?_
      refine ev_iload_n dX2_isListedGenerator_16 rfl ?_
      refine ev_ialdv (k3 m hm) rfl dX2_isListedGenerator_17 (by omega) (by omega) ?_
      refine ev_iload_n dX2_isListedGenerator_18 rfl ?_
      refine ev_icmp_ltN 26 dX2_isListedGenerator_19 (by decide) (by omega) (by omega) (fun c19 => ?_) (fun c19 => ?_)
      · refine ev_iconst (nI 0) dX2_isListedGenerator_26 rfl ?_
        refine ev_zret dX2_isListedGenerator_27 rfl rfl ?_
        exact ⟨by rw [b01_f (by omega)], rfl⟩
      · refine ev_iconst (nI 1) dX2_isListedGenerator_22 rfl ?_
        refine ev_goto 27 dX2_isListedGenerator_23 (by decide) ?_
        refine ev_zret dX2_isListedGenerator_27 rfl rfl ?_
        exact ⟨by rw [b01_t (by omega)], rfl⟩
theorem cl_hasExchange {n N s g p : Nat} {S : List Nat} (gc : gC h n N) (ok : gOK n N) (r : rdy h n N s S) (hs : s ≤ 3) (hg : g < 4 ^ n) (hd : deg g = 2 * s) (hp : p < n) (h3 : ex g (S.getD p 0) < 3) : Cl G (d + 1) M_X4_hasExchange [.ref 26, .int (nI g), .int (nI p)] h (qI (nI (b01 (∃ q, p < q ∧ q < n ∧ 0 < ex g (S.getD q 0) ∧ s ≤ ord n N (xch g (S.getD p 0) (S.getD q 0))))) h) := by
  have hn := ok.2.1
  have h4 := four_n hn
  obtain ⟨r1, r2, o, r4, ko, kk, hko⟩ := r
  have hpv := o.2.2 _ (getD_mem (L := S) (i := p) (by rw [o.1]; exact hp))
  have hal := add_lt hn hg hpv h3
  have nl := o.1
  have loop : ∀ (k q : Nat), q + k = n → p < q → (∀ w, p < w → w < q → ¬ (0 < ex g (S.getD w 0) ∧ s ≤ ord n N (xch g (S.getD p 0) (S.getD w 0)))) → ∀ x5 : Option Value, Ev G (d + 1) M_X4_hasExchange 17 [some (.ref 26), some (.int (nI g)), some (.int (nI p)), some (.int (nI (g + 4 ^ S.getD p 0))), some (.int (nI q)), x5] [] h (qI (nI (b01 (∃ q, p < q ∧ q < n ∧ 0 < ex g (S.getD q 0) ∧ s ≤ ord n N (xch g (S.getD p 0) (S.getD q 0))))) h) := by
    intro k
    induction k with
    | zero =>
      intro q hq hpq hw x5
      refine ev_iload dX4_hasExchange_17 rfl ?_
      refine ev_aload_n dX4_hasExchange_19 rfl ?_
      refine ev_getR fl_X4_9 rfl rfl dX4_hasExchange_20 ?_
      refine ev_getIv (gc.1) fl_X4_59 rfl rfl dX4_hasExchange_23 ?_
      refine ev_icmp_geN 76 dX4_hasExchange_26 (by decide) (by omega) (by omega) (fun c26 => ?_) (fun c26 => ?_)
      · refine ev_iconst (nI 0) dX4_hasExchange_76 rfl ?_
        refine ev_zret dX4_hasExchange_77 rfl rfl ?_
        exact ⟨by rw [b01_f (fun ⟨w, a, b, c⟩ => hw w a (by omega) c)], rfl⟩
      · omega
    | succ k ih =>
      intro q hq hpq hw x5
      have hqS : q < S.length := by omega
      have hqv := o.2.2 _ (getD_mem hqS)
      have hne : S.getD p 0 ≠ S.getD q 0 := pw_getD o.2.1 hpq hqS
      have x1 := ex_lt g (S.getD q 0)
      have y := b01_lt (s ≤ ord n N (xch g (S.getD p 0) (S.getD q 0)))
      have nxt : ¬ (0 < ex g (S.getD q 0) ∧ s ≤ ord n N (xch g (S.getD p 0) (S.getD q 0))) → ∀ x5 : Option Value, Ev G (d + 1) M_X4_hasExchange 17 [some (.ref 26), some (.int (nI g)), some (.int (nI p)), some (.int (nI (g + 4 ^ S.getD p 0))), some (.int (nI (q + 1))), x5] [] h (qI (nI (b01 (∃ q, p < q ∧ q < n ∧ 0 < ex g (S.getD q 0) ∧ s ≤ ord n N (xch g (S.getD p 0) (S.getD q 0))))) h) := by
        intro z x5
        refine ih (q + 1) (by omega) (by omega) (fun w a b => ?_) x5
        by_cases c : w = q
        · subst c; exact z
        · exact hw w a (by omega)
      refine ev_iload dX4_hasExchange_17 rfl ?_
      refine ev_aload_n dX4_hasExchange_19 rfl ?_
      refine ev_getR fl_X4_9 rfl rfl dX4_hasExchange_20 ?_
      refine ev_getIv (gc.1) fl_X4_59 rfl rfl dX4_hasExchange_23 ?_
      refine ev_icmp_geN 76 dX4_hasExchange_26 (by decide) (by omega) (by omega) (fun c26 => ?_) (fun c26 => ?_)
      · omega
      · refine ev_aload_n dX4_hasExchange_29 rfl ?_
        refine ev_getR fl_X4_19 rfl rfl dX4_hasExchange_30 ?_
        refine ev_iload dX4_hasExchange_33 rfl ?_
        refine ev_ialdv (r2 q hqS) rfl dX4_hasExchange_35 (by omega) (by omega) ?_
        refine ev_ist5 dX4_hasExchange_36 (by decide) rfl ?_
        refine ev_iload_n dX4_hasExchange_38 rfl ?_
        refine ev_iload dX4_hasExchange_39 rfl ?_
        refine ev_callS (cl_exponentOf (by omega) (by omega)) ok_X6_exponentOf ml_X4_74 rfl rfl (Nat.le_of_ble_eq_true rfl) dX4_hasExchange_41 (kI ?_)
        refine ev_if_leN 70 dX4_hasExchange_44 (by decide) (by omega) (fun c44 => ?_) (fun c44 => ?_)
        · refine ev_inc4N dX4_hasExchange_70 (by decide) rfl ?_
          refine ev_goto 17 dX4_hasExchange_73 (by decide) ?_
          exact nxt (fun z => by omega) _
        · have hpos : 0 < ex g (S.getD q 0) := by omega
          have hle := ex_le_sub hpos
          have hm := hko _ (xch_lt (u := S.getD q 0) hn hg hpv h3) ((deg_xch hn hg (show S.getD p 0 < 7 by omega) (show S.getD q 0 < 7 by omega) hne h3 hpos).trans hd)
          refine ev_aload_n dX4_hasExchange_47 rfl ?_
          refine ev_getR fl_X4_15 rfl rfl dX4_hasExchange_48 ?_
          refine ev_iload_n dX4_hasExchange_51 rfl ?_
          refine ev_iload dX4_hasExchange_52 rfl ?_
          refine ev_callS (cl_unit (by omega)) ok_X6_unit ml_X4_87 rfl rfl (Nat.le_of_ble_eq_true rfl) dX4_hasExchange_54 (kI ?_)
          refine ev_isubN dX4_hasExchange_57 (Nat.le_trans hle (Nat.le_add_right _ _)) ?_
          refine ev_aload_n dX4_hasExchange_58 rfl ?_
          refine ev_getIv (r1) fl_X4_37 rfl rfl dX4_hasExchange_59 ?_
          refine ev_callV (cl_isListed ok kk hm hs) ok_X2_isListedGenerator ml_X4_91 rfl rfl rfl rfl (Nat.le_of_ble_eq_true rfl) dX4_hasExchange_62 (kI ?_)
          refine ev_if_eqN 70 dX4_hasExchange_65 (by decide) (by omega) (fun c65 => ?_) (fun c65 => ?_)
          · refine ev_inc4N dX4_hasExchange_70 (by decide) rfl ?_
            refine ev_goto 17 dX4_hasExchange_73 (by decide) ?_
            exact nxt (fun z => b01_0.mp c65 z.2) _
          · refine ev_iconst (nI 1) dX4_hasExchange_68 rfl ?_
            refine ev_zret dX4_hasExchange_69 rfl rfl ?_
            exact ⟨by rw [b01_t ⟨q, hpq, by omega, hpos, b01_1.mp (show b01 (s ≤ ord n N (xch g (S.getD p 0) (S.getD q 0))) = 1 by omega)⟩], rfl⟩
  refine ev_start 3 (lv := [some (.ref 26), some (.int (nI g)), some (.int (nI p)), none, none, none]) rfl (by decide) (Nat.le_of_ble_eq_true rfl) ?_
  refine ev_iload_n dX4_hasExchange_0 rfl ?_
  refine ev_aload_n dX4_hasExchange_1 rfl ?_
  refine ev_getR fl_X4_19 rfl rfl dX4_hasExchange_2 ?_
  refine ev_iload_n dX4_hasExchange_5 rfl ?_
  refine ev_ialdv (r2 p (by omega)) rfl dX4_hasExchange_6 (by omega) (by omega) ?_
  refine ev_callS (cl_unit (by omega)) ok_X6_unit ml_X4_87 rfl rfl (Nat.le_of_ble_eq_true rfl) dX4_hasExchange_7 (kI ?_)
  refine ev_iaddN dX4_hasExchange_10 ?_
  refine ev_ist3 dX4_hasExchange_11 (by decide) rfl ?_
  refine ev_iload_n dX4_hasExchange_12 rfl ?_
  refine ev_iconst (nI 1) dX4_hasExchange_13 rfl ?_
  refine ev_iaddN dX4_hasExchange_14 ?_
  refine ev_ist4 dX4_hasExchange_15 (by decide) rfl ?_
  exact loop (n - (p + 1)) (p + 1) (by omega) (by omega) (fun w a b => absurd b (by omega)) none
theorem cl_colonUnits {n N s i : Nat} {S : List Nat} (gc : gC h n N) (ok : gOK n N) (r : rdy h n N s S) (h1s : 1 ≤ s) (hs : s ≤ 3) (hi : i < (srt (gnL n N s) S).length) : Cl G (d + 2) M_X4_colonUnits [.ref 26, .int (nI i)] h (qI (nI (cUn n (srt (gnL n N s) S) i)) h) := by
  have hn := ok.2.1
  have h4 := four_n hn
  have hl : (srt (gnL n N s) S).length ≤ 728 := by rw [srt_len]; exact gnL_len hn h1s hs
  have ci := fun v hv => col_iff (v := v) (s := s) ok r.2.2.1 hi hv
  have hO : ∀ x, x ∈ srt (gnL n N s) S → x < 4 ^ n ∧ deg x = 2 * s ∧ s ≤ ord n N x := fun x hx => (selD_mem _).mp ((srt_mem S).mp hx)
  obtain ⟨r1, r2, o, r4, r5⟩ := id r
  have nl := o.1
  generalize hOO : srt (gnL n N s) S = O at *
  have hg := hO _ (getD_mem hi)
  have gv := r4.2 i hi
  generalize hgg : O.getD i 0 = g at *
  -- an exchange is a colon variable
  have xc : ∀ p, p < n → ((ex g (S.getD p 0) < 3 ∧ ∃ q, p < q ∧ q < n ∧ 0 < ex g (S.getD q 0) ∧ s ≤ ord n N (xch g (S.getD p 0) (S.getD q 0))) ↔ Col n O i (S.getD p 0)) := by
    intro p hp
    have hpv := o.2.2 _ (getD_mem (L := S) (i := p) (by omega))
    unfold Col
    rw [hgg, ci _ hpv]
    constructor
    · rintro ⟨a, q, b1, b2, b3, b4⟩
      exact ⟨hpv, a, S.getD q 0, ⟨p, q, b1, by omega, rfl, rfl⟩, b3, b4⟩
    · rintro ⟨-, a, u, ⟨p', q, b1, b2, b3, b4⟩, c1, c2⟩
      have e : p' = p := by
        apply Classical.byContradiction
        intro z
        by_cases c : p' < p
        · exact pw_getD o.2.1 c (show p < S.length by omega) b3
        · exact pw_getD o.2.1 (show p < p' by omega) (show p' < S.length by omega) b3.symm
      subst e
      subst b4
      exact ⟨a, q, b1, by omega, c1, c2⟩
  have loop : ∀ (k p acc : Nat), p + k = n → acc < 16384 → (∀ w, w < 7 → ex acc w = b01 (Col n O i w ∧ w ∈ S.take p)) → ∀ x5 : Option Value, Ev G (d + 2) M_X4_colonUnits 15 [some (.ref 26), some (.int (nI i)), some (.int (nI acc)), some (.int (nI g)), some (.int (nI p)), x5] [] h (qI (nI (cUn n O i)) h) := by
    intro k
    induction k with
    | zero =>
      intro p acc hp ha hw x5
      have e : acc = cUn n O i := ex_ext ha cUn_lt (fun w hw7 => by
        rw [hw w hw7, ex_cUn hw7, List.take_of_length_le (by omega)]
        exact b01_c ⟨fun z => z.1, fun z => ⟨z, isO_all o w z.1⟩⟩)
      subst e
      refine ev_iload dX4_colonUnits_15 rfl ?_
      refine ev_aload_n dX4_colonUnits_17 rfl ?_
      refine ev_getR fl_X4_9 rfl rfl dX4_colonUnits_18 ?_
      refine ev_getIv (gc.1) fl_X4_59 rfl rfl dX4_colonUnits_21 ?_
      refine ev_icmp_geN 70 dX4_colonUnits_24 (by decide) (by omega) (by omega) (fun c24 => ?_) (fun c24 => ?_)
      · refine ev_iload_n dX4_colonUnits_70 rfl ?_
        refine ev_iret dX4_colonUnits_71 rfl ?_
        exact ⟨by with_reducible rfl, rfl⟩
      · omega
    | succ k ih =>
      intro p acc hp ha hw x5
      have hpS : p < S.length := by omega
      have hpv := o.2.2 _ (getD_mem hpS)
      have x1 := ex_lt g (S.getD p 0)
      have xp := xc p (by omega)
      have y := b01_lt (∃ q, p < q ∧ q < n ∧ 0 < ex g (S.getD q 0) ∧ s ≤ ord n N (xch g (S.getD p 0) (S.getD q 0)))
      have skp : ¬ Col n O i (S.getD p 0) → ∀ x5 : Option Value, Ev G (d + 2) M_X4_colonUnits 15 [some (.ref 26), some (.int (nI i)), some (.int (nI acc)), some (.int (nI g)), some (.int (nI (p + 1))), x5] [] h (qI (nI (cUn n O i)) h) := by
        intro z x5
        refine ih (p + 1) acc (by omega) ha (fun w hw7 => ?_) x5
        rw [hw w hw7, take_snoc hpS]
        refine b01_c ⟨fun y => ⟨y.1, List.mem_append_left _ y.2⟩, fun y => ⟨y.1, ?_⟩⟩
        rcases List.mem_append.mp y.2 with q | q
        · exact q
        · rw [List.mem_singleton] at q; rw [q] at y; exact absurd y.1 z
      have tak : Col n O i (S.getD p 0) → ∀ x5 : Option Value, Ev G (d + 2) M_X4_colonUnits 15 [some (.ref 26), some (.int (nI i)), some (.int (nI (acc ||| 4 ^ S.getD p 0))), some (.int (nI g)), some (.int (nI (p + 1))), x5] [] h (qI (nI (cUn n O i)) h) := by
        intro z x5
        have hnot : S.getD p 0 ∉ S.take p := by
          intro hmem
          obtain ⟨j, hj, ej⟩ := getD_lt hmem
          rw [List.length_take] at hj
          rw [List.getD_eq_getElem?_getD, List.getElem?_take, if_pos (by omega), ← List.getD_eq_getElem?_getD] at ej
          exact pw_getD o.2.1 (show j < p by omega) hpS ej
        refine ih (p + 1) _ (by omega) (or_lt14 ha (Nat.lt_of_lt_of_le (Nat.pow_lt_pow_right (a := 4) (by decide) (show S.getD p 0 < 7 by omega)) (by decide))) (fun w hw7 => ?_) x5
        rw [ex_or, hw w hw7, ex_pow (by omega) hw7, take_snoc hpS]
        by_cases c : w = S.getD p 0
        · rw [if_pos c, b01_f (fun y => hnot (c ▸ y.2)), b01_t ⟨c ▸ z, List.mem_append_right _ (by rw [c]; exact List.mem_singleton.mpr rfl)⟩]; rfl
        · rw [if_neg c, Nat.or_zero]
          refine b01_c ⟨fun y => ⟨y.1, List.mem_append_left _ y.2⟩, fun y => ⟨y.1, ?_⟩⟩
          rcases List.mem_append.mp y.2 with q | q
          · exact q
          · rw [List.mem_singleton] at q; exact absurd q c
      refine ev_iload dX4_colonUnits_15 rfl ?_
      refine ev_aload_n dX4_colonUnits_17 rfl ?_
      refine ev_getR fl_X4_9 rfl rfl dX4_colonUnits_18 ?_
      refine ev_getIv (gc.1) fl_X4_59 rfl rfl dX4_colonUnits_21 ?_
      refine ev_icmp_geN 70 dX4_colonUnits_24 (by decide) (by omega) (by omega) (fun c24 => ?_) (fun c24 => ?_)
      · omega
      · refine ev_aload_n dX4_colonUnits_27 rfl ?_
        refine ev_getR fl_X4_19 rfl rfl dX4_colonUnits_28 ?_
        refine ev_iload dX4_colonUnits_31 rfl ?_
        refine ev_ialdv (r2 p hpS) rfl dX4_colonUnits_33 (by omega) (by omega) ?_
        refine ev_ist5 dX4_colonUnits_34 (by decide) rfl ?_
        refine ev_iload_n dX4_colonUnits_36 rfl ?_
        refine ev_iload dX4_colonUnits_37 rfl ?_
        refine ev_callS (cl_exponentOf (by omega) (by omega)) ok_X6_exponentOf ml_X4_74 rfl rfl (Nat.le_of_ble_eq_true rfl) dX4_colonUnits_39 (kI ?_)
        refine ev_iconst (nI 3) dX4_colonUnits_42 rfl ?_
        refine ev_icmp_geN 64 dX4_colonUnits_43 (by decide) (by omega) (by omega) (fun c43 => ?_) (fun c43 => ?_)
        · refine ev_inc4N dX4_colonUnits_64 (by decide) rfl ?_
          refine ev_goto 15 dX4_colonUnits_67 (by decide) ?_
          exact skp (fun z => by have := (xp.mpr z).1; omega) _
        · refine ev_aload_n dX4_colonUnits_46 rfl ?_
          refine ev_iload_n dX4_colonUnits_47 rfl ?_
          refine ev_iload dX4_colonUnits_48 rfl ?_
          refine ev_callV (cl_hasExchange gc ok r hs hg.1 hg.2.1 (by omega) (by omega)) ok_X4_hasExchange ml_X4_83 rfl rfl rfl rfl (Nat.le_of_ble_eq_true rfl) dX4_colonUnits_50 (kI ?_)
          refine ev_if_eqN 64 dX4_colonUnits_53 (by decide) (by omega) (fun c53 => ?_) (fun c53 => ?_)
          · refine ev_inc4N dX4_colonUnits_64 (by decide) rfl ?_
            refine ev_goto 15 dX4_colonUnits_67 (by decide) ?_
            exact skp (fun z => b01_0.mp c53 (xp.mpr z).2) _
          · refine ev_iload_n dX4_colonUnits_56 rfl ?_
            refine ev_iload dX4_colonUnits_57 rfl ?_
            refine ev_callS (cl_unit (by omega)) ok_X6_unit ml_X4_87 rfl rfl (Nat.le_of_ble_eq_true rfl) dX4_colonUnits_59 (kI ?_)
            refine ev_iorN dX4_colonUnits_62 ?_
            refine ev_ist2 dX4_colonUnits_63 (by decide) rfl ?_
            refine ev_inc4N dX4_colonUnits_64 (by decide) rfl ?_
            refine ev_goto 15 dX4_colonUnits_67 (by decide) ?_
            exact tak (xp.mp ⟨by omega, b01_1.mp (by omega)⟩) _
  refine ev_start 4 (lv := [some (.ref 26), some (.int (nI i)), none, none, none, none]) rfl (by decide) (Nat.le_of_ble_eq_true rfl) ?_
  refine ev_iconst (nI 0) dX4_colonUnits_0 rfl ?_
  refine ev_ist2 dX4_colonUnits_1 (by decide) rfl ?_
  refine ev_aload_n dX4_colonUnits_2 rfl ?_
  refine ev_getR fl_X4_30 rfl rfl dX4_colonUnits_3 ?_
  refine ev_getR fl_X4_71 rfl rfl dX4_colonUnits_6 ?_
  refine ev_iload_n dX4_colonUnits_9 rfl ?_
  refine ev_ialdv (gv) rfl dX4_colonUnits_10 (by omega) (by omega) ?_
  refine ev_ist3 dX4_colonUnits_11 (by decide) rfl ?_
  refine ev_iconst (nI 0) dX4_colonUnits_12 rfl ?_
  refine ev_ist4 dX4_colonUnits_13 (by decide) rfl ?_
  exact loop n 0 0 (by omega) (by decide) (fun w _ => by rw [show ex 0 w = 0 by unfold ex; simp, b01_f (fun z => by simp at z)]) none
end LQ6
