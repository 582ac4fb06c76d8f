section MODEL2
variable {G : MG} {d : Nat} {h : MH}
/-- what a query of the reference may change: its tables and its scratch -/
def scrP (k : Nat) : Prop := k = 70 ∨ k = 71 ∨ k = 72 ∨ k = 73 ∨ k = 74 ∨ k = 75 ∨ k = 76 ∨ k = 79 ∨ k = 81 ∨ k = 82
def scrF (j : Nat) : Prop := j = 5 ∨ j = 7 ∨ j = 11 ∨ j = 13 ∨ j = 22 ∨ j = 25
def ms (h h' : MH) : Prop := mod (fun k => ¬ scrP k) (fun j => ¬ scrF j) h h'
theorem ms_mq {h h' : MH} (a : mq h h') : ms h h' := a.mono (fun k hk => by simp only [scrP] at hk; omega) (fun j hj => by simp only [scrF] at hj; omega)
theorem gM_ms {h h' : MH} {n N : Nat} (g : gM h n N) (a : ms h h') : gM h' n N := ⟨by rw [a.2 0 (by simp [scrF])]; exact g.1, fun v hv => by rw [(a.1 68 (by decide) (by simp [scrP])).1]; exact g.2 v hv⟩
noncomputable def vl (n N b m : Nat) : Nat := if b = 0 then ord n N m else so n N m
theorem vl_le {n N b m : Nat} (ok : gOK n N) : vl n N b m ≤ 21 := by
  unfold vl; split
  · have := ord_le ok (m := m); omega
  · exact so_le n N m
theorem cl_isIn {n N m s b : Nat} (ok : gOK n N) (t : tM h n N) (hm : m < 4 ^ n) (hs : s ≤ 3) (hb : b < 2) : Cl G d M_X12_isIn [.ref 67, .int (nI m), .int (nI s), .int (nI b)] h (qI (nI (b01 (s ≤ vl n N b m))) h) := by
  have h4 := four_n ok.2.1
  have v1 := ord_le ok (m := m)
  have v2 := so_le n N m
  obtain ⟨-, -, t2, t3⟩ := t
  rcases (show b = 0 ∨ b = 1 by omega) with rfl | rfl
  · skip
    refine ev_start 0 (lv := [some (.ref 67), some (.int (nI m)), some (.int (nI s)), some (.int (nI 0))]) rfl (by decide) (Nat.le_of_ble_eq_true rfl) ?_
    refine ev_iload_n dX12_isIn_0 rfl ?_
    refine ev_if_eqN 13 dX12_isIn_1 (by decide) (by omega) (fun c1 => ?_) (fun c1 => ?_)
    · refine ev_aload_n dX12_isIn_13 rfl ?_
      refine ev_getR fl_X12_32 rfl rfl dX12_isIn_14 ?_
      refine ev_iload_n dX12_isIn_17 rfl ?_
      refine ev_ialdv (t2 m hm) rfl dX12_isIn_18 (by omega) (by omega) ?_
      refine ev_iload_n dX12_isIn_19 rfl ?_
      refine ev_icmp_ltN 27 dX12_isIn_20 (by decide) (by omega) (by omega) (fun c20 => ?_) (fun c20 => ?_)
      · refine ev_iconst (nI 0) dX12_isIn_27 rfl ?_
        refine ev_zret dX12_isIn_28 rfl rfl ?_
        exact ⟨by rw [b01_f (show ¬ s ≤ vl n N 0 m from fun q => absurd (show s ≤ ord n N m from q) (by omega))], rfl⟩
      · refine ev_iconst (nI 1) dX12_isIn_23 rfl ?_
        refine ev_goto 28 dX12_isIn_24 (by decide) ?_
        refine ev_zret dX12_isIn_28 rfl rfl ?_
        exact ⟨by rw [b01_t (show s ≤ vl n N 0 m from (show s ≤ ord n N m by omega))], rfl⟩
    · exact absurd rfl c1
  · skip
    refine ev_start 0 (lv := [some (.ref 67), some (.int (nI m)), some (.int (nI s)), some (.int (nI 1))]) rfl (by decide) (Nat.le_of_ble_eq_true rfl) ?_
    refine ev_iload_n dX12_isIn_0 rfl ?_
    refine ev_if_eqN 13 dX12_isIn_1 (by decide) (by omega) (fun c1 => ?_) (fun c1 => ?_)
    · exact absurd c1 (by decide)
    · refine ev_aload_n dX12_isIn_4 rfl ?_
      refine ev_getR fl_X12_35 rfl rfl dX12_isIn_5 ?_
      refine ev_iload_n dX12_isIn_8 rfl ?_
      refine ev_ialdv (t3 m hm) rfl dX12_isIn_9 (by omega) (by omega) ?_
      refine ev_goto 19 dX12_isIn_10 (by decide) ?_
      refine ev_iload_n dX12_isIn_19 rfl ?_
      refine ev_icmp_ltN 27 dX12_isIn_20 (by decide) (by omega) (by omega) (fun c20 => ?_) (fun c20 => ?_)
      · refine ev_iconst (nI 0) dX12_isIn_27 rfl ?_
        refine ev_zret dX12_isIn_28 rfl rfl ?_
        exact ⟨by rw [b01_f (show ¬ s ≤ vl n N 1 m from fun q => absurd (show s ≤ so n N m from q) (by omega))], rfl⟩
      · refine ev_iconst (nI 1) dX12_isIn_23 rfl ?_
        refine ev_goto 28 dX12_isIn_24 (by decide) ?_
        refine ev_zret dX12_isIn_28 rfl rfl ?_
        exact ⟨by rw [b01_t (show s ≤ vl n N 1 m from (show s ≤ so n N m by omega))], rfl⟩
def GN (n N b s m : Nat) : Prop := s ≤ vl n N b m ∧ ∀ v, v < n → 0 < ex m v → ¬ s ≤ vl n N b (m - 4 ^ v)
theorem GN_1 {n N s m : Nat} : GN n N 1 s m ↔ SG n N s m := Iff.rfl
theorem GN_0 {n N s m : Nat} (ok : gOK n N) (hm : m < 4 ^ n) : GN n N 0 s m ↔ deg m = 2 * s ∧ s ≤ ord n N m := by
  have hn := ok.2.1
  show (s ≤ ord n N m ∧ ∀ v, v < n → 0 < ex m v → ¬ s ≤ ord n N (m - 4 ^ v)) ↔ _
  constructor
  · rintro ⟨h1, h2⟩
    refine ⟨?_, h1⟩
    have hc := (ord_iff ok s).mp h1
    have hd := can_deg ok hc
    apply Classical.byContradiction
    intro hne
    obtain ⟨es, e1, e2, e3⟩ := hc
    have hs := inc_sum ok es e2
    have : ∃ v, v < 7 ∧ inc es v < ex m v := by
      apply Classical.byContradiction
      intro z
      have hz : ∀ v, v < 7 → inc es v = ex m v := fun v hv => by
        have := e3 v
        apply Classical.byContradiction
        intro w
        exact z ⟨v, hv, by omega⟩
      have := hz 0 (by decide)
      have := hz 1 (by decide)
      have := hz 2 (by decide)
      have := hz 3 (by decide)
      have := hz 4 (by decide)
      have := hz 5 (by decide)
      have := hz 6 (by decide)
      unfold deg at hne; omega
    obtain ⟨v, hv, hlt⟩ := this
    have ev : 0 < ex m v := by omega
    have hvn : v < n := Nat.lt_of_not_le (fun z => by rw [ex_big hm z] at ev; omega)
    refine h2 v hvn ev ((ord_iff ok s).mpr ⟨es, e1, e2, fun w => ?_⟩)
    rw [ex_sub ev]
    split
    · next e => subst e; omega
    · exact e3 w
  · rintro ⟨h1, h2⟩
    refine ⟨h2, fun v hv ev q => ?_⟩
    have := can_deg ok ((ord_iff ok s).mp q)
    have := deg_sub (show v < 7 by omega) ev
    omega
theorem cl_isGenerator {n N m s b : Nat} (g : gM h n N) (ok : gOK n N) (t : tM h n N) (hm : m < 4 ^ n) (hs : s ≤ 3) (hb : b < 2) : Cl G (d + 1) M_X12_isGenerator [.ref 67, .int (nI m), .int (nI s), .int (nI b)] h (qI (nI (b01 (GN n N b s m))) h) := by
  have hn := ok.2.1
  have h4 := four_n hn
  have q0 := b01_lt (s ≤ vl n N b m)
  have eS : ∀ v : Nat, 1 * 2 ^ (2 * v) = 4 ^ v := fun v => by rw [Nat.one_mul, pow4]
  have pS : ∀ v : Nat, v < 7 → 4 ^ v < 2 ^ 32 := fun v hv => Nat.lt_of_lt_of_le (Nat.pow_lt_pow_right (a := 4) (by decide) hv) (by decide)
  have loop : s ≤ vl n N b m → ∀ (k v : Nat), v + k = n → (∀ w, w < v → 0 < ex m w → ¬ s ≤ vl n N b (m - 4 ^ w)) → Ev G (d + 1) M_X12_isGenerator 15 [some (.ref 67), some (.int (nI m)), some (.int (nI s)), some (.int (nI b)), some (.int (nI v))] [] h (qI (nI (b01 (GN n N b s m))) h) := by
    intro h0 k
    induction k with
    | zero =>
      intro v hv hw
      obtain rfl : v = n := by omega
      refine ev_iload dX12_isGenerator_15 rfl ?_
      refine ev_aload_n dX12_isGenerator_17 rfl ?_
      refine ev_getIv (g.1) fl_X12_9 rfl rfl dX12_isGenerator_18 ?_
      refine ev_icmp_geN 58 dX12_isGenerator_21 (by decide) (by omega) (by omega) (fun c21 => ?_) (fun c21 => ?_)
      · refine ev_iconst (nI 1) dX12_isGenerator_58 rfl ?_
        refine ev_zret dX12_isGenerator_59 rfl rfl ?_
        exact ⟨by rw [b01_t (show GN v N b s m from ⟨h0, hw⟩)], rfl⟩
      · omega
    | succ k ih =>
      intro v hv hw
      have x1 := ex_lt m v
      have q1 := b01_lt (s ≤ vl n N b (m - 4 ^ v))
      have p1 := pS v (by omega)
      have z1 : 0 < 4 ^ v := Nat.pow_pos (by decide)
      refine ev_iload dX12_isGenerator_15 rfl ?_
      refine ev_aload_n dX12_isGenerator_17 rfl ?_
      refine ev_getIv (g.1) fl_X12_9 rfl rfl dX12_isGenerator_18 ?_
      refine ev_icmp_geN 58 dX12_isGenerator_21 (by decide) (by omega) (by omega) (fun c21 => ?_) (fun c21 => ?_)
      · omega
      · refine ev_iload_n dX12_isGenerator_24 rfl ?_
        refine ev_iload dX12_isGenerator_25 rfl ?_
        refine ev_callS (cl_exponentOfM (by omega) (by omega)) ok_X12_exponentOf ml_X12_128 rfl rfl (Nat.le_of_ble_eq_true rfl) dX12_isGenerator_27 (kI ?_)
        refine ev_if_leN 52 dX12_isGenerator_30 (by decide) (by omega) (fun c30 => ?_) (fun c30 => ?_)
        · refine ev_inc4N dX12_isGenerator_52 (by decide) rfl ?_
          refine ev_goto 15 dX12_isGenerator_55 (by decide) ?_
          exact ih (v + 1) (by omega) (fun w h1 h2 => by
          by_cases e : w = v
          · subst e; exact absurd h2 (by omega)
          · exact hw w (by omega) h2)
        · have hle := ex_le_sub (show 0 < ex m v by omega)
          refine ev_aload_n dX12_isGenerator_33 rfl ?_
          refine ev_iload_n dX12_isGenerator_34 rfl ?_
          refine ev_iconst (nI 1) dX12_isGenerator_35 rfl ?_
          refine ev_iconst (nI 2) dX12_isGenerator_36 rfl ?_
          refine ev_iload dX12_isGenerator_37 rfl ?_
          refine ev_imulN dX12_isGenerator_39 ?_
          refine ev_ishlN dX12_isGenerator_40 (by omega) (by rw [eS]; exact p1) ?_
          rw [eS]
          refine ev_isubN dX12_isGenerator_41 (by omega) ?_
          refine ev_iload_n dX12_isGenerator_42 rfl ?_
          refine ev_iload_n dX12_isGenerator_43 rfl ?_
          refine ev_callV (cl_isIn ok t (by omega) hs hb) ok_X12_isIn ml_X12_173 rfl rfl rfl rfl (Nat.le_of_ble_eq_true rfl) dX12_isGenerator_44 (kI ?_)
          refine ev_if_eqN 52 dX12_isGenerator_47 (by decide) (by omega) (fun c47 => ?_) (fun c47 => ?_)
          · refine ev_inc4N dX12_isGenerator_52 (by decide) rfl ?_
            refine ev_goto 15 dX12_isGenerator_55 (by decide) ?_
            exact ih (v + 1) (by omega) (fun w h1 h2 => by
            by_cases e : w = v
            · subst e; exact b01_0.mp c47
            · exact hw w (by omega) h2)
          · refine ev_iconst (nI 0) dX12_isGenerator_50 rfl ?_
            refine ev_zret dX12_isGenerator_51 rfl rfl ?_
            exact ⟨by rw [b01_f (show ¬ GN n N b s m from fun q => q.2 v (by omega) (by omega) (b01_1.mp (by omega)))], rfl⟩
  refine ev_start 1 (lv := [some (.ref 67), some (.int (nI m)), some (.int (nI s)), some (.int (nI b)), none]) rfl (by decide) (Nat.le_of_ble_eq_true rfl) ?_
  refine ev_aload_n dX12_isGenerator_0 rfl ?_
  refine ev_iload_n dX12_isGenerator_1 rfl ?_
  refine ev_iload_n dX12_isGenerator_2 rfl ?_
  refine ev_iload_n dX12_isGenerator_3 rfl ?_
  refine ev_callV (cl_isIn ok t hm hs hb) ok_X12_isIn ml_X12_173 rfl rfl rfl rfl (Nat.le_of_ble_eq_true rfl) dX12_isGenerator_4 (kI ?_)
  refine ev_if_neN 12 dX12_isGenerator_7 (by decide) (by omega) (fun c7 => ?_) (fun c7 => ?_)
  · refine ev_iconst (nI 0) dX12_isGenerator_12 rfl ?_
    refine ev_ist4 dX12_isGenerator_13 (by decide) rfl ?_
    exact loop (b01_1.mp (by omega)) n 0 (by omega) (fun w h1 => absurd h1 (by omega))
  · refine ev_iconst (nI 0) dX12_isGenerator_10 rfl ?_
    refine ev_zret dX12_isGenerator_11 rfl rfl ?_
    exact ⟨by rw [b01_f (show ¬ GN n N b s m from fun q => b01_0.mp c7 q.1)], rfl⟩
noncomputable def gL (n N b s : Nat) : List Nat := selD (GN n N b s) (4 ^ n)
theorem gL_0 {n N s : Nat} (ok : gOK n N) : gL n N 0 s = gnL n N s := selD_c _ (fun m hm => GN_0 ok hm)
theorem gL_1 {n N s : Nat} : gL n N 1 s = sgL n N s := rfl
theorem gL_len {n N b s : Nat} (ok : gOK n N) : (gL n N b s).length ≤ 16384 := by
  have h4 := four_n ok.2.1
  have := pigeon (B := fun _ => true) 16384 (gL n N b s) (selD_nd _) (fun x hx => ⟨by have := ((selD_mem _).mp hx).1; omega, rfl⟩)
  refine Nat.le_trans this ?_
  have : ∀ k, cntB (fun _ => true) k ≤ k := by
    intro k
    induction k with
    | zero => exact Nat.le_refl _
    | succ k ih => show cntB (fun _ => true) k + 1 ≤ k + 1; omega
  exact this 16384
def gLM (h : MH) (L : List Nat) : Prop := h.1 67 13 = nI L.length ∧ hold (h.1 75) L
theorem cl_findGenerators {n N s b : Nat} (g : gM h n N) (ok : gOK n N) (c : cacheM h n N) (hs : s ≤ 3) (hb : b < 2) : Cl G (d + 3) M_X12_findGenerators [.ref 67, .int (nI s), .int (nI b)] h (fun rv h' => rv = none ∧ mod (fun k => k ≠ 71 ∧ k ≠ 72 ∧ k ≠ 73 ∧ k ≠ 75) (fun j => j ≠ 5 ∧ j ≠ 7 ∧ j ≠ 13) h h' ∧ tM h' n N ∧ gLM h' (gL n N b s)) := by
  have hn := ok.2.1
  have h4 := four_n hn
  have h41 := four_pos n
  have hlen := gL_len (b := b) (s := s) ok
  have loop : ∀ (q : Nat) (L : List Nat) (h1 : MH), q ≤ 4 ^ n → mod (fun k => k ≠ 71 ∧ k ≠ 72 ∧ k ≠ 73 ∧ k ≠ 75) (fun j => j ≠ 5 ∧ j ≠ 7 ∧ j ≠ 13) h h1 → tM h1 n N → gLM h1 L → L ++ selD (GN n N b s) q = gL n N b s → Ev G (d + 3) M_X12_findGenerators 16 [some (.ref 67), some (.int (nI s)), some (.int (nI b)), some (.int (dnI q))] [] h1 (fun rv h' => rv = none ∧ mod (fun k => k ≠ 71 ∧ k ≠ 72 ∧ k ≠ 73 ∧ k ≠ 75) (fun j => j ≠ 5 ∧ j ≠ 7 ∧ j ≠ 13) h h' ∧ tM h' n N ∧ gLM h' (gL n N b s)) := by
    intro q
    induction q with
    | zero =>
      intro L h1 hq m1 t1 hr hL
      have hL' : L = gL n N b s := by rw [← hL]; simp [selD]
      subst hL'
      refine ev_iload_n dX12_findGenerators_16 rfl ?_
      refine ev_if_lt 56 dX12_findGenerators_17 (by decide) (fun c17 => ?_) (fun c17 => ?_)
      · refine ev_ret dX12_findGenerators_56 rfl ?_
        exact ⟨rfl, m1, t1, hr⟩
      · exact absurd dnI_0 c17
    | succ q ih =>
      intro L h1 hq m1 t1 hr hL
      rw [dnI_s]
      have g1 : gM h1 n N := ⟨by rw [m1.2 0 (by decide)]; exact g.1, fun v hv => by rw [(m1.1 68 (by decide) (by decide)).1]; exact g.2 v hv⟩
      have q1 := b01_lt (GN n N b s q)
      refine ev_iload_n dX12_findGenerators_16 rfl ?_
      refine ev_if_ltN 56 dX12_findGenerators_17 (by decide) (by omega) (fun c17 => ?_) (fun c17 => ?_)
      · exact c17.elim
      · refine ev_aload_n dX12_findGenerators_20 rfl ?_
        refine ev_iload_n dX12_findGenerators_21 rfl ?_
        refine ev_iload_n dX12_findGenerators_22 rfl ?_
        refine ev_iload_n dX12_findGenerators_23 rfl ?_
        refine ev_callV (cl_isGenerator g1 ok t1 (by omega) hs hb) ok_X12_isGenerator ml_X12_180 rfl rfl rfl rfl (Nat.le_of_ble_eq_true rfl) dX12_findGenerators_24 (kI ?_)
        refine ev_if_eqN 50 dX12_findGenerators_27 (by decide) (by omega) (fun c27 => ?_) (fun c27 => ?_)
        · refine ev_inc3 dX12_findGenerators_50 rfl (by decide) rfl ?_
          refine ev_goto 16 dX12_findGenerators_53 (by decide) ?_
          rw [selD_f (b01_0.mp c27)] at hL
          exact ih L h1 (by omega) m1 t1 hr hL
        · have hP : GN n N b s q := b01_1.mp (by omega)
          rw [selD_t hP] at hL
          have hlt : L.length < 16384 := by
            have := congrArg List.length hL
            simp at this; omega
          refine ev_aload_n dX12_findGenerators_30 rfl ?_
          refine ev_getR fl_X12_41 rfl rfl dX12_findGenerators_31 ?_
          refine ev_aload_n dX12_findGenerators_34 rfl ?_
          refine ev_getIv (hr.1) fl_X12_177 rfl rfl dX12_findGenerators_35 ?_
          refine ev_iload_n dX12_findGenerators_38 rfl ?_
          refine ev_iastN rfl dX12_findGenerators_39 (by omega) (by omega) ?_
          refine ev_aload_n dX12_findGenerators_40 rfl ?_
          refine ev_dup dX12_findGenerators_41 rfl ?_
          refine ev_getIv ((show _ = nI L.length by rw [mp_k (by decide)]; exact hr.1)) fl_X12_177 rfl rfl dX12_findGenerators_42 ?_
          refine ev_iconst (nI 1) dX12_findGenerators_45 rfl ?_
          refine ev_iaddN dX12_findGenerators_46 ?_
          refine ev_putI fp_X12_177 rfl rfl rfl rfl dX12_findGenerators_47 ?_
          refine ev_inc3 dX12_findGenerators_50 rfl (by decide) rfl ?_
          refine ev_goto 16 dX12_findGenerators_53 (by decide) ?_
          obtain ⟨w1, w2, w3, w4⟩ := t1
          refine ih (L ++ [q]) _ (by omega) ((m1.tr (mod_p (by simp) (by decide))).tr (mod_f (by simp))) ⟨?_, ⟨?_, ?_⟩, fun m hm => ?_, fun m hm => ?_⟩ ⟨?_, ?_⟩ (by rw [List.append_assoc]; exact hL)
          · rw [mp_j (by decide), mp_k (by decide)]; exact w1
          · rw [mp_j (by decide), mp_k (by decide)]; exact w2.1
          · rw [mp_k (by decide), mp_k (by decide)]; exact w2.2
          · rw [mp_k (by decide), mp_k (by decide)]; exact w3 m hm
          · rw [mp_k (by decide), mp_k (by decide)]; exact w4 m hm
          · rw [mp_eq]; simp
          · rw [mp_k (by decide)]
            have : (m_put h1 75 L.length (nI q)).1 75 = upd (h1.1 75) L.length (nI q) := ma_eq _ _ _
            rw [this]; exact hold_snoc hr.2
  refine ev_start 1 (lv := [some (.ref 67), some (.int (nI s)), some (.int (nI b)), none]) rfl (by decide) (Nat.le_of_ble_eq_true rfl) ?_
  refine ev_aload_n dX12_findGenerators_0 rfl ?_
  refine ev_callV (cl_update g ok c) ok_X12_update ml_X12_144 rfl rfl rfl rfl (Nat.le_of_ble_eq_true rfl) dX12_findGenerators_1 ?_
  rintro rv h1 ⟨rfl, m1, t1⟩
  have g1 : gM (m_put h1 67 13 (nI 0)) n N := ⟨by rw [mp_j (by decide), m1.2 0 (by decide)]; exact g.1, fun v hv => by rw [mp_k (by decide), (m1.1 68 (by decide) (by decide)).1]; exact g.2 v hv⟩
  refine ev_aload_n dX12_findGenerators_4 rfl ?_
  refine ev_iconst (nI 0) dX12_findGenerators_5 rfl ?_
  refine ev_putI fp_X12_177 rfl rfl rfl rfl dX12_findGenerators_6 ?_
  refine ev_aload_n dX12_findGenerators_9 rfl ?_
  refine ev_callV (cl_codeCount g1 hn) ok_X12_codeCount ml_X12_125 rfl rfl rfl rfl (Nat.le_of_ble_eq_true rfl) dX12_findGenerators_10 (kI ?_)
  refine ev_iconst (nI 1) dX12_findGenerators_13 rfl ?_
  refine ev_isubN dX12_findGenerators_14 (by omega) ?_
  refine ev_ist3 dX12_findGenerators_15 (by decide) rfl ?_
  have e2 : nI (4 ^ n - 1) = dnI (4 ^ n) := by
    obtain ⟨t, ht⟩ : ∃ t, 4 ^ n = t + 1 := ⟨4 ^ n - 1, by omega⟩
    rw [ht, dnI_s]; rfl
  rw [e2]
  obtain ⟨w1, w2, w3, w4⟩ := t1
  refine loop (4 ^ n) [] _ (Nat.le_refl _) ((m1.mono (fun _ z => ⟨z.1, z.2.1, z.2.2.1⟩) (fun _ z => ⟨z.1, z.2.1⟩)).tr (mod_f (by simp))) ⟨?_, ⟨?_, ?_⟩, fun m hm => ?_, fun m hm => ?_⟩ ⟨?_, hold_nil _⟩ rfl
  · rw [mp_j (by decide)]; exact w1
  · rw [mp_j (by decide)]; exact w2.1
  · rw [mp_k (by decide)]; exact w2.2
  · rw [mp_k (by decide)]; exact w3 m hm
  · rw [mp_k (by decide)]; exact w4 m hm
  · rw [mp_eq]; rfl
end MODEL2
