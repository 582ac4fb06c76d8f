section GEN
variable {G : MG} {d : Nat} {h : MH}
abbrev dnI (k : Nat) : Int32 := nI k + Int32.ofInt (-1)
theorem dnI_s (k : Nat) : dnI (k + 1) = nI k := pk_m1 k
theorem dnI_0 : dnI 0 < 0 := by decide
theorem cnt_chunk (B : Nat → Bool) : ∀ k, cntB B (128 * k) = sumTo k (fun i => cntB (fun x => B (128 * i + x)) 128)
  | 0 => rfl
  | k + 1 => by
    rw [show 128 * (k + 1) = 128 * k + 128 by omega, cntB_add, cnt_chunk B k]
    rfl
def dgB (t m : Nat) : Bool := Nat.beq (deg m) t
theorem dg2 : cntB (dgB 2) 16384 ≤ 728 := by
  rw [show 16384 = 128 * 128 from rfl, cnt_chunk]; decide +kernel
theorem dg4 : cntB (dgB 4) 16384 ≤ 728 := by
  rw [show 16384 = 128 * 128 from rfl, cnt_chunk]; decide +kernel
theorem dg6 : cntB (dgB 6) 16384 ≤ 728 := by
  rw [show 16384 = 128 * 128 from rfl, cnt_chunk]; decide +kernel
theorem gnL_mem {n N s m : Nat} : m ∈ gnL n N s ↔ m < 4 ^ n ∧ deg m = 2 * s ∧ s ≤ ord n N m := selD_mem _
theorem gnL_len {n N s : Nat} (hn : n ≤ 7) (h1 : 1 ≤ s) (h3 : s ≤ 3) : (gnL n N s).length ≤ 728 := by
  have h4 := four_n hn
  have key : (gnL n N s).length ≤ cntB (dgB (2 * s)) 16384 := pigeon 16384 _ (selD_nd _) (fun x hx => by
    obtain ⟨a, b, -⟩ := gnL_mem.mp hx
    exact ⟨by omega, by rw [dgB, Nat.beq_eq]; exact b⟩)
  rcases (show s = 1 ∨ s = 2 ∨ s = 3 by omega) with rfl | rfl | rfl
  · exact Nat.le_trans key dg2
  · exact Nat.le_trans key dg4
  · exact Nat.le_trans key dg6
theorem rowG {k : Nat} (hk : k < 3) : isRow (14 + 2 * k) 728 := by
  rcases (show k = 0 ∨ k = 1 ∨ k = 2 by omega) with rfl | rfl | rfl
  · exact row_14
  · exact row_16
  · exact row_18
theorem rowS {k : Nat} (hk : k < 3) : isRow (20 + 2 * k) 2128 := by
  rcases (show k = 0 ∨ k = 1 ∨ k = 2 by omega) with rfl | rfl | rfl
  · exact row_20
  · exact row_22
  · exact row_24
theorem elG {k : Nat} (hk : k < 3) : ([14, 16, 18] : List Nat)[k]? = some (14 + 2 * k) := by
  rcases (show k = 0 ∨ k = 1 ∨ k = 2 by omega) with rfl | rfl | rfl <;> rfl
theorem elS {k : Nat} (hk : k < 3) : ([20, 22, 24] : List Nat)[k]? = some (20 + 2 * k) := by
  rcases (show k = 0 ∨ k = 1 ∨ k = 2 by omega) with rfl | rfl | rfl <;> rfl
/-- a row whose flag is down may be written -/
theorem cI_rowG {h h' : MH} {n N k : Nat} (c : cI h n N) (hk : k < 3) (hf : h.1 11 k = nI 0) (s : ∀ q, q ≠ 14 + 2 * k → q ≠ 14 + 2 * k + 1 → h'.1 q = h.1 q) : cI h' n N := by
  obtain ⟨⟨ko, ⟨a1, a2, a3⟩, a4⟩, b, c3⟩ := c
  refine ⟨⟨ko, ⟨a1, by rw [s 4 (by omega) (by omega)]; exact a2, fun j hj => by rw [s 5 (by omega) (by omega)]; exact a3 j hj⟩, fun i hi => ?_⟩, ?_, fun i hi => ?_⟩
  · by_cases e : i = k
    · subst e; left; rw [s 11 (by omega) (by omega)]; exact hf
    · rcases a4 i hi with q | ⟨q1, q2, q3⟩
      · left; rw [s 11 (by omega) (by omega)]; exact q
      · right
        exact ⟨by rw [s 11 (by omega) (by omega)]; exact q1, ⟨by rw [s _ (by omega) (by omega)]; exact q2.1, by rw [s _ (by omega) (by omega)]; exact q2.2⟩, q3⟩
  · rcases b with q | ⟨q1, q2, q3, q4, q5⟩
    · left; rw [s 4 (by omega) (by omega)]; exact q
    · right
      exact ⟨by rw [s 4 (by omega) (by omega)]; exact q1, by rw [s 6 (by omega) (by omega)]; exact q2, by rw [s 7 (by omega) (by omega)]; exact q3, by rw [s 8 (by omega) (by omega)]; exact q4, by rw [s 9 (by omega) (by omega)]; exact q5⟩
  · rcases c3 i hi with q | ⟨q1, q2⟩
    · left; rw [s 13 (by omega) (by omega)]; exact q
    · right
      exact ⟨by rw [s 13 (by omega) (by omega)]; exact q1, ⟨by rw [s _ (by omega) (by omega)]; exact q2.1, by rw [s _ (by omega) (by omega)]; exact q2.2⟩⟩
theorem cI_rowS {h h' : MH} {n N k : Nat} (c : cI h n N) (hk : k < 3) (hf : h.1 13 k = nI 0) (s : ∀ q, q ≠ 20 + 2 * k → q ≠ 20 + 2 * k + 1 → h'.1 q = h.1 q) : cI h' n N := by
  obtain ⟨⟨ko, ⟨a1, a2, a3⟩, a4⟩, b, c3⟩ := c
  refine ⟨⟨ko, ⟨a1, by rw [s 4 (by omega) (by omega)]; exact a2, fun j hj => by rw [s 5 (by omega) (by omega)]; exact a3 j hj⟩, fun i hi => ?_⟩, ?_, fun i hi => ?_⟩
  · rcases a4 i hi with q | ⟨q1, q2, q3⟩
    · left; rw [s 11 (by omega) (by omega)]; exact q
    · right
      exact ⟨by rw [s 11 (by omega) (by omega)]; exact q1, ⟨by rw [s _ (by omega) (by omega)]; exact q2.1, by rw [s _ (by omega) (by omega)]; exact q2.2⟩, q3⟩
  · rcases b with q | ⟨q1, q2, q3, q4, q5⟩
    · left; rw [s 4 (by omega) (by omega)]; exact q
    · right
      exact ⟨by rw [s 4 (by omega) (by omega)]; exact q1, by rw [s 6 (by omega) (by omega)]; exact q2, by rw [s 7 (by omega) (by omega)]; exact q3, by rw [s 8 (by omega) (by omega)]; exact q4, by rw [s 9 (by omega) (by omega)]; exact q5⟩
  · by_cases e : i = k
    · subst e; left; rw [s 13 (by omega) (by omega)]; exact hf
    · rcases c3 i hi with q | ⟨q1, q2⟩
      · left; rw [s 13 (by omega) (by omega)]; exact q
      · right
        exact ⟨by rw [s 13 (by omega) (by omega)]; exact q1, ⟨by rw [s _ (by omega) (by omega)]; exact q2.1, by rw [s _ (by omega) (by omega)]; exact q2.2⟩⟩
/-- the generators of the power k + 1: afterwards they are listed, and all orders of their degree are known -/
def gKn (h : MH) (n N k : Nat) : Prop := h.1 11 k = nI 1 ∧ rowIs h (14 + 2 * k) (gnL n N (k + 1)) ∧ ∃ ko, kO h n N ko ∧ ∀ m, m < 4 ^ n → deg m = 2 * (k + 1) → m < ko
theorem cl_generators {n N k : Nat} (g : gC h n N) (ok : gOK n N) (c : cI h n N) (hk : k < 3) : Cl G (d + 3) M_X2_generators [.ref 4, .int (nI (k + 1))] h (fun rv h' => rv = some (.ref (14 + 2 * k)) ∧ iq n N h h' ∧ cI h' n N ∧ gKn h' n N k) := by
  have hn := ok.2.1
  have h4 := four_n hn
  have h41 := four_pos n
  have e1 : k + 1 - 1 = k := by omega
  obtain ⟨hp, ha, hcap⟩ := rowG hk
  have hlen := gnL_len (N := N) hn (show 1 ≤ k + 1 by omega) (by omega)
  obtain ⟨⟨ko, k0, a4⟩, -, -⟩ := id c
  rcases a4 k hk with hf | ⟨hf, hrow, hko⟩
  · -- to be listed
    have loop : ∀ (q : Nat) (L : List Nat) (h1 : MH), q ≤ 4 ^ n → iq n N h h1 → cI h1 n N → h1.1 11 k = nI 0 → rowIs h1 (14 + 2 * k) L → L ++ selD (fun m => deg m = 2 * (k + 1) ∧ k + 1 ≤ ord n N m) q = gnL n N (k + 1) → (∃ ko, kO h1 n N ko ∧ ∀ m, q ≤ m → m < 4 ^ n → deg m = 2 * (k + 1) → m < ko) → Ev G (d + 3) M_X2_generators 33 [some (.ref 4), some (.int (nI (k + 1))), some (.ref (14 + 2 * k)), some (.int (dnI q))] [] h1 (fun rv h' => rv = some (.ref (14 + 2 * k)) ∧ iq n N h h' ∧ cI h' n N ∧ gKn h' n N k) := by
      intro q
      induction q with
      | zero =>
        intro L h1 hq hi c1 hf1 hr hL hko
        have hL' : L = gnL n N (k + 1) := by rw [← hL]; simp [selD]
        subst hL'
        obtain ⟨ko1, k1, k2⟩ := hko
        have kk : ∀ i, i ≠ 11 → (m_put h1 11 k (nI 1)).1 i = h1.1 i := fun i hi => mp_k hi
        refine ev_iload_n dX2_generators_33 rfl ?_
        refine ev_if_lt 68 dX2_generators_34 (by decide) (fun c34 => ?_) (fun c34 => ?_)
        · refine ev_aload_n dX2_generators_68 rfl ?_
          refine ev_getR fl_X2_37 rfl rfl dX2_generators_69 ?_
          refine ev_iload_n dX2_generators_72 rfl ?_
          refine ev_iconst (nI 1) dX2_generators_73 rfl ?_
          refine ev_isubN dX2_generators_74 (by omega) ?_
          rw [e1]
          refine ev_iconst (nI 1) dX2_generators_75 rfl ?_
          refine ev_zastN rfl dX2_generators_76 (by omega) (by omega) rfl ?_
          refine ev_aload_n dX2_generators_77 rfl ?_
          refine ev_aret dX2_generators_78 rfl ?_
          have hr2 : rowIs (m_put h1 11 k (nI 1)) (14 + 2 * k) (gnL n N (k + 1)) := ⟨by rw [kk _ (by omega)]; exact hr.1, by rw [kk _ (by omega)]; exact hr.2⟩
          have k3 : kO (m_put h1 11 k (nI 1)) n N ko1 := ⟨k1.1, by rw [kk 4 (by decide)]; exact k1.2.1, fun j hj => by rw [kk 5 (by decide)]; exact k1.2.2 j hj⟩
          refine ⟨rfl, hi.tr (iq_of (same_put (by simp)) (by rw [kk 4 (by decide)]) (kk 5 (by decide))), ?_, mp_eq _ _ _ _, hr2, ko1, k3, fun m h1' h2' => k2 m (Nat.zero_le _) h1' h2'⟩
          obtain ⟨⟨ko2, z1, z2⟩, b, c3⟩ := c1
          refine ⟨⟨ko1, k3, fun i hi => ?_⟩, ?_, fun i hi => ?_⟩
          · by_cases e : i = k
            · subst e; right; exact ⟨mp_eq _ _ _ _, hr2, fun m h1' h2' => k2 m (Nat.zero_le _) h1' h2'⟩
            · have eko : ko2 = ko1 := (nI_eq (by have := z1.1; omega) (by have := k1.1; omega)).mp (z1.2.1.symm.trans k1.2.1)
              subst eko
              rcases z2 i hi with w | ⟨w1, w2, w3⟩
              · left; rw [mp_j e]; exact w
              · right; exact ⟨by rw [mp_j e]; exact w1, ⟨by rw [kk _ (by omega)]; exact w2.1, by rw [kk _ (by omega)]; exact w2.2⟩, w3⟩
          · rcases b with w | ⟨w1, w2, w3, w4, w5⟩
            · left; rw [kk 4 (by decide)]; exact w
            · right; exact ⟨by rw [kk 4 (by decide)]; exact w1, by rw [kk 6 (by decide)]; exact w2, by rw [kk 7 (by decide)]; exact w3, by rw [kk 8 (by decide)]; exact w4, by rw [kk 9 (by decide)]; exact w5⟩
          · rcases c3 i hi with w | ⟨w1, w2⟩
            · left; rw [kk 13 (by decide)]; exact w
            · right; exact ⟨by rw [kk 13 (by decide)]; exact w1, ⟨by rw [kk _ (by omega)]; exact w2.1, by rw [kk _ (by omega)]; exact w2.2⟩⟩
        · exact absurd dnI_0 c34
      | succ q ih =>
        intro L h1 hq hi c1 hf1 hr hL hko
        rw [dnI_s]
        have g1 := gC_iq g hi
        have dl := deg_le (m := q)
        have ob := ord_le ok (m := q)
        refine ev_iload_n dX2_generators_33 rfl ?_
        refine ev_if_ltN 68 dX2_generators_34 (by decide) (by omega) (fun c34 => ?_) (fun c34 => ?_)
        · exact c34.elim
        · refine ev_iload_n dX2_generators_37 rfl ?_
          refine ev_callS (cl_degreeOf (by omega)) ok_X6_degreeOf ml_X2_119 rfl rfl (Nat.le_of_ble_eq_true rfl) dX2_generators_38 (kI ?_)
          refine ev_iconst (nI 2) dX2_generators_41 rfl ?_
          refine ev_iload_n dX2_generators_42 rfl ?_
          refine ev_imulN dX2_generators_43 ?_
          refine ev_icmp_neN 62 dX2_generators_44 (by decide) (by omega) (by omega) (fun c44 => ?_) (fun c44 => ?_)
          · refine ev_inc3 dX2_generators_62 rfl (by decide) rfl ?_
            refine ev_goto 33 dX2_generators_65 (by decide) ?_
            rw [selD_f (fun z => c44 z.1)] at hL
            obtain ⟨ko1, z1, z2⟩ := hko
            refine ih L h1 (by omega) hi c1 hf1 hr hL ⟨ko1, z1, fun m h1' h2' h3' => z2 m ?_ h2' h3'⟩
            by_cases e : m = q
            · subst e; exact absurd h3' c44
            · omega
          · refine ev_aload_n dX2_generators_47 rfl ?_
            refine ev_iload_n dX2_generators_48 rfl ?_
            refine ev_callV (cl_po g1 ok c1 (by omega)) ok_X2_powerOrderOf ml_X2_125 rfl rfl rfl rfl (Nat.le_of_ble_eq_true rfl) dX2_generators_49 ?_
            rintro rv h2 ⟨rfl, sm, sj, c2, ko2, y1, y2, y3⟩
            have hi2 : iq n N h h2 := hi.tr ⟨sm.mono (fun k hk => by omega), fun ko0 q => ⟨ko2, y3 ko0 q, y2⟩⟩
            have hf2 : h2.1 11 k = nI 0 := by rw [(sm 11 (by decide)).1]; exact hf1
            have hr2 : rowIs h2 (14 + 2 * k) L := ⟨by rw [(sm _ (by omega)).1]; exact hr.1, by rw [(sm _ (by omega)).1]; exact hr.2⟩
            have hko2 : ∃ ko, kO h2 n N ko ∧ ∀ m, q ≤ m → m < 4 ^ n → deg m = 2 * (k + 1) → m < ko := by
              obtain ⟨ko1, z1, z2⟩ := hko
              refine ⟨ko2, y2, fun m h1' h2' h3' => ?_⟩
              by_cases e : m = q
              · subst e; exact y1
              · have := z2 m (by omega) h2' h3'
                have := y3 ko1 z1
                omega
            refine ev_iload_n dX2_generators_52 rfl ?_
            refine ev_icmp_ltN 62 dX2_generators_53 (by decide) (by omega) (by omega) (fun c53 => ?_) (fun c53 => ?_)
            · refine ev_inc3 dX2_generators_62 rfl (by decide) rfl ?_
              refine ev_goto 33 dX2_generators_65 (by decide) ?_
              rw [selD_f (fun z => absurd z.2 (by omega))] at hL
              exact ih L h2 (by omega) hi2 c2 hf2 hr2 hL hko2
            · have hP : deg q = 2 * (k + 1) ∧ k + 1 ≤ ord n N q := ⟨by omega, by omega⟩
              rw [selD_t hP] at hL
              have hlt : L.length < 728 := by
                have := congrArg List.length hL
                simp at this; omega
              refine ev_aload_n dX2_generators_56 rfl ?_
              refine ev_iload_n dX2_generators_57 rfl ?_
              refine ev_callV (cl_add (rowG hk) hr2.1 hlt) ok_X7_add ml_X2_100 hp rfl rfl rfl (Nat.le_of_ble_eq_true rfl) dX2_generators_58 (kI ?_)
              refine ev_pop dX2_generators_61 rfl ?_
              refine ev_inc3 dX2_generators_62 rfl (by decide) rfl ?_
              refine ev_goto 33 dX2_generators_65 (by decide) ?_
              have kk : ∀ i, i ≠ 14 + 2 * k → i ≠ 14 + 2 * k + 1 → (rowAdd h2 (14 + 2 * k) L.length (nI q)).1 i = h2.1 i := fun i h1 h2 => ra_k h1 h2
              obtain ⟨ko1, z1, z2⟩ := hko2
              refine ih (L ++ [q]) _ (by omega) (hi2.tr (iq_of (fun i hi => ⟨kk i (by omega) (by omega), rfl⟩) (by rw [kk 4 (by omega) (by omega)]) (kk 5 (by omega) (by omega)))) (cI_rowG c2 hk hf2 kk) (by rw [kk 11 (by omega) (by omega)]; exact hf2) ⟨by rw [ra_cnt]; simp, by rw [ra_arr]; exact hold_snoc hr2.2⟩ (by rw [List.append_assoc]; exact hL) ⟨ko1, ⟨z1.1, by rw [kk 4 (by omega) (by omega)]; exact z1.2.1, fun j hj => by rw [kk 5 (by omega) (by omega)]; exact z1.2.2 j hj⟩, z2⟩
    refine ev_start 2 (lv := [some (.ref 4), some (.int (nI (k + 1))), none, none]) rfl (by decide) (Nat.le_of_ble_eq_true rfl) ?_
    refine ev_aload_n dX2_generators_0 rfl ?_
    refine ev_getR fl_X2_33 rfl rfl dX2_generators_1 ?_
    refine ev_iload_n dX2_generators_4 rfl ?_
    refine ev_iconst (nI 1) dX2_generators_5 rfl ?_
    refine ev_isubN dX2_generators_6 (by omega) ?_
    rw [e1]
    refine ev_aaldN (kd := 0) rfl dX2_generators_7 (by decide) (by omega) (by omega) (elG hk) ?_
    refine ev_ast2 dX2_generators_8 (by decide) rfl ?_
    refine ev_aload_n dX2_generators_9 rfl ?_
    refine ev_getR fl_X2_37 rfl rfl dX2_generators_10 ?_
    refine ev_iload_n dX2_generators_13 rfl ?_
    refine ev_iconst (nI 1) dX2_generators_14 rfl ?_
    refine ev_isubN dX2_generators_15 (by omega) ?_
    rw [e1]
    refine ev_zaldN rfl dX2_generators_16 (by omega) (by omega) ?_
    rw [hf]
    refine ev_if_neN 77 dX2_generators_17 (by decide) (by omega) (fun c17 => ?_) (fun c17 => ?_)
    · exact absurd rfl c17
    · refine ev_aload_n dX2_generators_20 rfl ?_
      refine ev_iconst (nI 0) dX2_generators_21 rfl ?_
      refine ev_putI fp_X2_89 hp rfl rfl rfl dX2_generators_22 ?_
      refine ev_aload_n dX2_generators_25 rfl ?_
      refine ev_getR fl_X2_9 rfl rfl dX2_generators_26 ?_
      refine ev_callV (cl_greatestCode (show gC (m_put h (14 + 2 * k) 1 (nI 0)) n N from ⟨by rw [mp_k (by omega)]; exact g.1, g.2⟩) hn) ok_X1_greatestCode ml_X2_122 rfl rfl rfl rfl (Nat.le_of_ble_eq_true rfl) dX2_generators_29 (kI ?_)
      refine ev_ist3 dX2_generators_32 (by decide) rfl ?_
      have kk : ∀ i, i ≠ 14 + 2 * k → i ≠ 14 + 2 * k + 1 → (m_put h (14 + 2 * k) 1 (nI 0)).1 i = h.1 i := fun i h1 _ => mp_k h1
      have e2 : nI (4 ^ n - 1) = dnI (4 ^ n) := by
        obtain ⟨t, ht⟩ : ∃ t, 4 ^ n = t + 1 := ⟨4 ^ n - 1, by omega⟩
        rw [ht, dnI_s]; rfl
      rw [e2]
      exact loop (4 ^ n) [] _ (Nat.le_refl _) (iq_of (fun i hi => ⟨kk i (by omega) (by omega), rfl⟩) (by rw [kk 4 (by omega) (by omega)]) (kk 5 (by omega) (by omega))) (cI_rowG c hk hf kk) (by rw [kk 11 (by omega) (by omega)]; exact hf) ⟨by rw [mp_eq]; rfl, hold_nil _⟩ rfl ⟨ko, ⟨k0.1, by rw [kk 4 (by omega) (by omega)]; exact k0.2.1, fun j hj => by rw [kk 5 (by omega) (by omega)]; exact k0.2.2 j hj⟩, fun m h1 h2 => absurd h1 (by omega)⟩
  · skip
    refine ev_start 2 (lv := [some (.ref 4), some (.int (nI (k + 1))), none, none]) rfl (by decide) (Nat.le_of_ble_eq_true rfl) ?_
    refine ev_aload_n dX2_generators_0 rfl ?_
    refine ev_getR fl_X2_33 rfl rfl dX2_generators_1 ?_
    refine ev_iload_n dX2_generators_4 rfl ?_
    refine ev_iconst (nI 1) dX2_generators_5 rfl ?_
    refine ev_isubN dX2_generators_6 (by omega) ?_
    rw [e1]
    refine ev_aaldN (kd := 0) rfl dX2_generators_7 (by decide) (by omega) (by omega) (elG hk) ?_
    refine ev_ast2 dX2_generators_8 (by decide) rfl ?_
    refine ev_aload_n dX2_generators_9 rfl ?_
    refine ev_getR fl_X2_37 rfl rfl dX2_generators_10 ?_
    refine ev_iload_n dX2_generators_13 rfl ?_
    refine ev_iconst (nI 1) dX2_generators_14 rfl ?_
    refine ev_isubN dX2_generators_15 (by omega) ?_
    rw [e1]
    refine ev_zaldN rfl dX2_generators_16 (by omega) (by omega) ?_
    rw [hf]
    refine ev_if_neN 77 dX2_generators_17 (by decide) (by omega) (fun c17 => ?_) (fun c17 => ?_)
    · refine ev_aload_n dX2_generators_77 rfl ?_
      refine ev_aret dX2_generators_78 rfl ?_
      exact ⟨rfl, iq.rf, c, hf, hrow, ko, k0, hko⟩
    · exact absurd c17 (by decide)
end GEN
