section LQ7
variable {G : MG} {d : Nat} {h : MH}
/-- the colon variables as a set -/
noncomputable def cSt (n : Nat) (O : List Nat) (i : Nat) : Nat := Classical.choose (bits_ex (fun v => @decide (Col n O i v) (Classical.propDecidable _)) 7)
theorem cSt_lt {n i : Nat} {O : List Nat} : cSt n O i < 128 := (Classical.choose_spec (bits_ex (fun v => @decide (Col n O i v) (Classical.propDecidable _)) 7)).1
theorem cSt_bit {n i v : Nat} {O : List Nat} (hv : v < 7) : (cSt n O i).testBit v = true ↔ Col n O i v := by
  have := (Classical.choose_spec (bits_ex (fun v => @decide (Col n O i v) (Classical.propDecidable _)) 7)).2 v hv
  unfold cSt
  rw [this]
  exact @decide_eq_true_iff _ (Classical.propDecidable _)
theorem bits_eq {a b : Nat} (ha : a < 128) (hb : b < 128) (q : ∀ v, v < 7 → (a.testBit v = true ↔ b.testBit v = true)) : a = b := by
  apply Nat.eq_of_testBit_eq
  intro i
  by_cases c : i < 7
  · have := q i c
    cases h1 : a.testBit i <;> cases h2 : b.testBit i <;> simp_all
  · rw [Nat.testBit_lt_two_pow (Nat.lt_of_lt_of_le ha (Nat.pow_le_pow_right (n := 2) (i := 7) (by decide) (by omega))), Nat.testBit_lt_two_pow (Nat.lt_of_lt_of_le hb (Nat.pow_le_pow_right (n := 2) (i := 7) (by decide) (by omega)))]
theorem or_bit {a v w : Nat} : (a ||| 2 ^ v).testBit w = true ↔ a.testBit w = true ∨ w = v := by
  rw [Nat.testBit_or, Nat.testBit_two_pow, Bool.or_eq_true, decide_eq_true_eq]
  exact or_congr_right ⟨fun e => e.symm, fun e => e.symm⟩
theorem pow7 {v : Nat} (hv : v < 7) : 2 ^ v < 128 := Nat.pow_lt_pow_right (a := 2) (n := 7) (by decide) hv
theorem cl_supportOf {n i : Nat} {O : List Nat} : Cl G (d + 1) M_X6_supportOf [.int (nI (cUn n O i))] h (qI (nI (cSt n O i)) h) := by
  have hu := cUn_lt (n := n) (i := i) (O := O)
  have loop : ∀ (k v acc : Nat), v + k = 7 → acc < 128 → (∀ w, w < 7 → (acc.testBit w = true ↔ Col n O i w ∧ w < v)) → Ev G (d + 1) M_X6_supportOf 4 [some (.int (nI (cUn n O i))), some (.int (nI acc)), some (.int (nI v))] [] h (qI (nI (cSt n O i)) h) := by
    intro k
    induction k with
    | zero =>
      intro v acc hv ha hw
      have e : acc = cSt n O i := bits_eq ha cSt_lt (fun w hw7 => by
        rw [hw w hw7, cSt_bit hw7]
        exact ⟨fun z => z.1, fun z => ⟨z, by omega⟩⟩)
      subst e
      refine ev_iload_n dX6_supportOf_4 rfl ?_
      refine ev_bipush (nI 7) dX6_supportOf_5 rfl ?_
      refine ev_icmp_geN 30 dX6_supportOf_7 (by decide) (by omega) (by omega) (fun c7 => ?_) (fun c7 => ?_)
      · refine ev_iload_n dX6_supportOf_30 rfl ?_
        refine ev_iret dX6_supportOf_31 rfl ?_
        exact ⟨by with_reducible rfl, rfl⟩
      · omega
    | succ k ih =>
      intro v acc hv ha hw
      have e1 := ex_cUn (n := n) (i := i) (O := O) (show v < 7 by omega)
      have y := b01_lt (Col n O i v)
      have p7 := pow7 (show v < 7 by omega)
      refine ev_iload_n dX6_supportOf_4 rfl ?_
      refine ev_bipush (nI 7) dX6_supportOf_5 rfl ?_
      refine ev_icmp_geN 30 dX6_supportOf_7 (by decide) (by omega) (by omega) (fun c7 => ?_) (fun c7 => ?_)
      · omega
      · refine ev_iload_n dX6_supportOf_10 rfl ?_
        refine ev_iload_n dX6_supportOf_11 rfl ?_
        refine ev_callS (cl_exponentOf (by omega) (by omega)) ok_X6_exponentOf ml_X6_21 rfl rfl (Nat.le_of_ble_eq_true rfl) dX6_supportOf_12 (kI ?_)
        refine ev_if_leN 24 dX6_supportOf_15 (by decide) (by omega) (fun c15 => ?_) (fun c15 => ?_)
        · refine ev_inc2N dX6_supportOf_24 (by decide) rfl ?_
          refine ev_goto 4 dX6_supportOf_27 (by decide) ?_
          refine ih (v + 1) acc (by omega) ha (fun w hw7 => (hw w hw7).trans ⟨fun z => ⟨z.1, by omega⟩, fun z => ⟨z.1, ?_⟩⟩)
          apply Nat.lt_of_le_of_ne (by omega)
          intro e; subst e
          exact b01_0.mp (by omega) z.1
        · refine ev_iload_n dX6_supportOf_18 rfl ?_
          refine ev_iconst (nI 1) dX6_supportOf_19 rfl ?_
          refine ev_iload_n dX6_supportOf_20 rfl ?_
          refine ev_ishlN dX6_supportOf_21 (by omega) (by rw [Nat.one_mul]; omega) ?_
          refine ev_iorN dX6_supportOf_22 ?_
          rw [Nat.one_mul]
          refine ev_ist1 dX6_supportOf_23 (by decide) rfl ?_
          refine ev_inc2N dX6_supportOf_24 (by decide) rfl ?_
          refine ev_goto 4 dX6_supportOf_27 (by decide) ?_
          refine ih (v + 1) _ (by omega) (or_lt7 ha p7) (fun w hw7 => ?_)
          rw [or_bit, hw w hw7]
          constructor
          · rintro (z | z)
            · exact ⟨z.1, by omega⟩
            · subst z; exact ⟨b01_1.mp (by omega), by omega⟩
          · rintro ⟨z1, z2⟩
            by_cases c : w = v
            · exact Or.inr c
            · exact Or.inl ⟨z1, by omega⟩
  refine ev_start 2 (lv := [some (.int (nI (cUn n O i))), none, none]) rfl (by decide) (Nat.le_of_ble_eq_true rfl) ?_
  refine ev_iconst (nI 0) dX6_supportOf_0 rfl ?_
  refine ev_ist1 dX6_supportOf_1 (by decide) rfl ?_
  refine ev_iconst (nI 0) dX6_supportOf_2 rfl ?_
  refine ev_ist2 dX6_supportOf_3 (by decide) rfl ?_
  exact loop 7 0 0 (by omega) (by decide) (fun w _ => by rw [Nat.zero_testBit]; exact ⟨fun z => Bool.noConfusion z, fun z => absurd z.2 (by omega)⟩)
def Lin (n : Nat) (O : List Nat) (i : Nat) : Prop := ∀ k, k < i → ∃ v, Col n O i v ∧ ex (O.getD i 0) v < ex (O.getD k 0) v
theorem exc_un {n a g i : Nat} {O : List Nat} (hn : n ≤ 7) : exc a g &&& cUn n O i = 0 ↔ ¬ ∃ v, Col n O i v ∧ ex g v < ex a v := by
  have hl : exc a g &&& cUn n O i < 16384 := and_lt' cUn_lt
  constructor
  · rintro e ⟨v, h1, h2⟩
    have hv : v < 7 := by have := h1.1; omega
    have := ex_and (exc a g) (cUn n O i) v
    rw [e, ex_exc hv, ex_cUn hv, if_pos h2, b01_t h1, show ex 0 v = 0 by unfold ex; simp] at this
    exact absurd this (by decide)
  · intro z
    refine ex7 hl (fun w hw => ?_)
    rw [ex_and, ex_exc hw, ex_cUn hw]
    by_cases c : ex g w < ex a w
    · rw [b01_f (fun y => z ⟨w, y, c⟩)]; exact Nat.and_zero _
    · rw [if_neg c]; exact Nat.zero_and _
theorem cl_isLinearAt {n N s i : Nat} {S : List Nat} (gc : gC h n N) (ok : gOK n N) (r : rdy h n N s S) (h1s : 1 ≤ s) (hs : s ≤ 3) (hi : i < (srt (gnL n N s) S).length) : Cl G (d + 3) M_X4_isLinearAt [.ref 26, .int (nI i)] h (qI (nI (b01 (Lin n (srt (gnL n N s) S) i))) h) := by
  have hn := ok.2.1
  have h4 := four_n hn
  have hl : (srt (gnL n N s) S).length ≤ 728 := by rw [srt_len]; exact gnL_len hn h1s hs
  have hcu := fun d => cl_colonUnits (G := G) (d := d) gc ok r h1s hs hi
  have hO : ∀ x, x ∈ srt (gnL n N s) S → x < 16384 := fun x hx => by have := ((selD_mem _).mp ((srt_mem S).mp hx)).1; omega
  have r4 := r.2.2.2.1
  generalize srt (gnL n N s) S = O at *
  have hg := hO _ (getD_mem hi)
  have gv := r4.2 i hi
  have loop : ∀ (k e : Nat), e + k = i → (∀ w, w < e → ∃ v, Col n O i v ∧ ex (O.getD i 0) v < ex (O.getD w 0) v) → Ev G (d + 3) M_X4_isLinearAt 19 [some (.ref 26), some (.int (nI i)), some (.int (nI (O.getD i 0))), some (.int (nI (cUn n O i))), some (.int (nI e))] [] h (qI (nI (b01 (Lin n O i))) h) := by
    intro k
    induction k with
    | zero =>
      intro e he hw
      obtain rfl : e = i := by omega
      refine ev_iload dX4_isLinearAt_19 rfl ?_
      refine ev_iload_n dX4_isLinearAt_21 rfl ?_
      refine ev_icmp_geN 52 dX4_isLinearAt_22 (by decide) (by omega) (by omega) (fun c22 => ?_) (fun c22 => ?_)
      · refine ev_iconst (nI 1) dX4_isLinearAt_52 rfl ?_
        refine ev_zret dX4_isLinearAt_53 rfl rfl ?_
        exact ⟨by rw [b01_t (show Lin n O e from hw)], rfl⟩
      · omega
    | succ k ih =>
      intro e he hw
      have ha := hO _ (getD_mem (show e < O.length by omega))
      have hlt : exc (O.getD e 0) (O.getD i 0) &&& cUn n O i < 16384 := and_lt' cUn_lt
      have eu := exc_un (a := O.getD e 0) (g := O.getD i 0) (O := O) (i := i) hn
      refine ev_iload dX4_isLinearAt_19 rfl ?_
      refine ev_iload_n dX4_isLinearAt_21 rfl ?_
      refine ev_icmp_geN 52 dX4_isLinearAt_22 (by decide) (by omega) (by omega) (fun c22 => ?_) (fun c22 => ?_)
      · omega
      · refine ev_aload_n dX4_isLinearAt_25 rfl ?_
        refine ev_getR fl_X4_30 rfl rfl dX4_isLinearAt_26 ?_
        refine ev_getR fl_X4_71 rfl rfl dX4_isLinearAt_29 ?_
        refine ev_iload dX4_isLinearAt_32 rfl ?_
        refine ev_ialdv (r4.2 e (by omega)) rfl dX4_isLinearAt_34 (by omega) (by omega) ?_
        refine ev_iload_n dX4_isLinearAt_35 rfl ?_
        refine ev_callS (cl_exceeding ha hg) ok_X6_exceeding ml_X4_97 rfl rfl (Nat.le_of_ble_eq_true rfl) dX4_isLinearAt_36 (kI ?_)
        refine ev_iload_n dX4_isLinearAt_39 rfl ?_
        refine ev_iandN dX4_isLinearAt_40 ?_
        refine ev_if_neN 46 dX4_isLinearAt_41 (by decide) (by omega) (fun c41 => ?_) (fun c41 => ?_)
        · refine ev_inc4N dX4_isLinearAt_46 (by decide) rfl ?_
          refine ev_goto 19 dX4_isLinearAt_49 (by decide) ?_
          refine ih (e + 1) (by omega) (fun w h1 => ?_)
          by_cases c : w = e
          · subst c; exact Classical.byContradiction (fun z => c41 (eu.mpr z))
          · exact hw w (by omega)
        · refine ev_iconst (nI 0) dX4_isLinearAt_44 rfl ?_
          refine ev_zret dX4_isLinearAt_45 rfl rfl ?_
          exact ⟨by rw [b01_f (fun z => eu.mp (by omega) (z e (by omega)))], rfl⟩
  refine ev_start 3 (lv := [some (.ref 26), some (.int (nI i)), none, none, none]) rfl (by decide) (Nat.le_of_ble_eq_true rfl) ?_
  refine ev_aload_n dX4_isLinearAt_0 rfl ?_
  refine ev_getR fl_X4_30 rfl rfl dX4_isLinearAt_1 ?_
  refine ev_getR fl_X4_71 rfl rfl dX4_isLinearAt_4 ?_
  refine ev_iload_n dX4_isLinearAt_7 rfl ?_
  refine ev_ialdv (gv) rfl dX4_isLinearAt_8 (by omega) (by omega) ?_
  refine ev_ist2 dX4_isLinearAt_9 (by decide) rfl ?_
  refine ev_aload_n dX4_isLinearAt_10 rfl ?_
  refine ev_iload_n dX4_isLinearAt_11 rfl ?_
  refine ev_callV (hcu _) ok_X4_colonUnits ml_X4_94 rfl rfl rfl rfl (Nat.le_of_ble_eq_true rfl) dX4_isLinearAt_12 (kI ?_)
  refine ev_ist3 dX4_isLinearAt_15 (by decide) rfl ?_
  refine ev_iconst (nI 0) dX4_isLinearAt_16 rfl ?_
  refine ev_ist4 dX4_isLinearAt_17 (by decide) rfl ?_
  exact loop i 0 (by omega) (fun w h1 => absurd h1 (by omega))
theorem cl_firstNonLinearC {n N s : Nat} {S : List Nat} (gc : gC h n N) (ok : gOK n N) (r : rdy h n N s S) (h1s : 1 ≤ s) (hs : s ≤ 3) : Cl G (d + 4) M_X4_firstNonLinear [.ref 26] h (qI (fnd (fun i => ¬ Lin n (srt (gnL n N s) S) i) (srt (gnL n N s) S).length) h) := by
  have hn := ok.2.1
  have hl : (srt (gnL n N s) S).length ≤ 728 := by rw [srt_len]; exact gnL_len hn h1s hs
  have hcl := fun i hi => cl_isLinearAt (G := G) (d := d) (i := i) gc ok r h1s hs hi
  have r4 := r.2.2.2.1
  generalize srt (gnL n N s) S = O at *
  generalize hF : fnd (fun i => ¬ Lin n O i) O.length = A
  have loop : ∀ (k i : Nat), i + k = O.length → srch (fun i => ¬ Lin n O i) O.length 0 = srch (fun i => ¬ Lin n O i) k i → Ev G (d + 4) M_X4_firstNonLinear 2 [some (.ref 26), some (.int (nI i))] [] h (qI A h) := by
    intro k
    induction k with
    | zero =>
      intro i hi hw
      have hA : A = -2 := by rw [← hF]; unfold fnd; rw [hw]; exact if_neg (by show ¬ i < O.length; omega)
      rw [hA]
      refine ev_iload_n dX4_firstNonLinear_2 rfl ?_
      refine ev_aload_n dX4_firstNonLinear_3 rfl ?_
      refine ev_getR fl_X4_30 rfl rfl dX4_firstNonLinear_4 ?_
      refine ev_getIv (r4.1) fl_X4_64 rfl rfl dX4_firstNonLinear_7 ?_
      refine ev_icmp_geN 29 dX4_firstNonLinear_10 (by decide) (by omega) (by omega) (fun c10 => ?_) (fun c10 => ?_)
      · refine ev_bipush (-2) dX4_firstNonLinear_29 rfl ?_
        refine ev_iret dX4_firstNonLinear_31 rfl ?_
        exact ⟨by with_reducible rfl, rfl⟩
      · omega
    | succ k ih =>
      intro i hi hw
      have y := b01_lt (Lin n O i)
      refine ev_iload_n dX4_firstNonLinear_2 rfl ?_
      refine ev_aload_n dX4_firstNonLinear_3 rfl ?_
      refine ev_getR fl_X4_30 rfl rfl dX4_firstNonLinear_4 ?_
      refine ev_getIv (r4.1) fl_X4_64 rfl rfl dX4_firstNonLinear_7 ?_
      refine ev_icmp_geN 29 dX4_firstNonLinear_10 (by decide) (by omega) (by omega) (fun c10 => ?_) (fun c10 => ?_)
      · omega
      · refine ev_aload_n dX4_firstNonLinear_13 rfl ?_
        refine ev_iload_n dX4_firstNonLinear_14 rfl ?_
        refine ev_callV (hcl i (by omega)) ok_X4_isLinearAt ml_X4_100 rfl rfl rfl rfl (Nat.le_of_ble_eq_true rfl) dX4_firstNonLinear_15 (kI ?_)
        refine ev_if_neN 23 dX4_firstNonLinear_18 (by decide) (by omega) (fun c18 => ?_) (fun c18 => ?_)
        · refine ev_inc1N dX4_firstNonLinear_23 (by decide) rfl ?_
          refine ev_goto 2 dX4_firstNonLinear_26 (by decide) ?_
          exact ih (i + 1) (by omega) (by rw [hw, srch_f (fun z => z (b01_1.mp (by omega)))])
        · refine ev_iload_n dX4_firstNonLinear_21 rfl ?_
          refine ev_iret dX4_firstNonLinear_22 rfl ?_
          have hP : ¬ Lin n O i := b01_0.mp (by omega)
          have hA : A = nI i := by rw [← hF]; unfold fnd; rw [hw, srch_t hP]; exact if_pos (by omega)
          exact ⟨by rw [hA], rfl⟩
  refine ev_start 1 (lv := [some (.ref 26), none]) rfl (by decide) (Nat.le_of_ble_eq_true rfl) ?_
  refine ev_iconst (nI 0) dX4_firstNonLinear_0 rfl ?_
  refine ev_ist1 dX4_firstNonLinear_1 (by decide) rfl ?_
  exact loop O.length 0 (by omega) rfl
end LQ7
