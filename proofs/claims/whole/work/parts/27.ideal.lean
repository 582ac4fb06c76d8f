section IDEAL
variable {G : MG} {d : Nat} {h : MH}
def rowIs (h : MH) (p : Nat) (L : List Nat) : Prop := h.1 p 1 = nI L.length ∧ hold (h.1 (p + 1)) L
noncomputable def gnL (n N s : Nat) : List Nat := selD (fun m => deg m = 2 * s ∧ s ≤ ord n N m) (4 ^ n)
def SG (n N s m : Nat) : Prop := s ≤ so n N m ∧ ∀ v, v < n → 0 < ex m v → ¬ s ≤ so n N (m - 4 ^ v)
noncomputable def sgL (n N s : Nat) : List Nat := selD (SG n N s) (4 ^ n)
/-- what is known of the ideal is right -/
def cI (h : MH) (n N : Nat) : Prop :=
  (∃ ko, kO h n N ko ∧ ∀ k, k < 3 → h.1 11 k = nI 0 ∨ (h.1 11 k = nI 1 ∧ rowIs h (14 + 2 * k) (gnL n N (k + 1)) ∧ ∀ m, m < 4 ^ n → deg m = 2 * (k + 1) → m < ko)) ∧
  (h.1 4 5 = nI 0 ∨ kC h n N) ∧
  (∀ k, k < 3 → h.1 13 k = nI 0 ∨ (h.1 13 k = nI 1 ∧ rowIs h (20 + 2 * k) (sgL n N (k + 1))))
theorem cI_fresh {n N : Nat} (f : fresh h) : cI h n N := by
  obtain ⟨f1, f2, f3, -⟩ := f
  exact ⟨⟨0, ⟨Nat.zero_le _, f1, fun j hj => absurd hj (by omega)⟩, fun k hk => Or.inl (f3 k hk).1⟩, Or.inl f2, fun k hk => Or.inl (f3 k hk).2⟩
/-- only the ideal's own places have changed -/
def iq (n N : Nat) (h h' : MH) : Prop := same (fun k => k < 4 ∨ 25 < k) h h' ∧ ∀ ko, kO h n N ko → ∃ ko', ko ≤ ko' ∧ kO h' n N ko'
theorem iq.rf {n N : Nat} {h : MH} : iq n N h h := ⟨same.rf, fun ko q => ⟨ko, Nat.le_refl _, q⟩⟩
theorem iq.tr {n N : Nat} {h h1 h2 : MH} (a : iq n N h h1) (b : iq n N h1 h2) : iq n N h h2 := ⟨a.1.tr b.1, fun ko q => by
  obtain ⟨k1, l1, q1⟩ := a.2 ko q
  obtain ⟨k2, l2, q2⟩ := b.2 k1 q1
  exact ⟨k2, Nat.le_trans l1 l2, q2⟩⟩
theorem iq_of {n N : Nat} {h h' : MH} (a : same (fun k => k < 4 ∨ 25 < k) h h') (b : h'.1 4 2 = h.1 4 2) (c : h'.1 5 = h.1 5) : iq n N h h' := ⟨a, fun ko q => ⟨ko, Nat.le_refl _, q.1, by rw [b]; exact q.2.1, fun j hj => by rw [c]; exact q.2.2 j hj⟩⟩
theorem cI_same {h h' : MH} {n N : Nat} (c : cI h n N) (s : ∀ k, 4 ≤ k → k ≤ 25 → h'.1 k = h.1 k) : cI h' n N := by
  obtain ⟨⟨ko, ⟨a1, a2, a3⟩, a4⟩, b, c⟩ := c
  refine ⟨⟨ko, ⟨a1, by rw [s 4 (by decide) (by decide)]; exact a2, fun j hj => by rw [s 5 (by decide) (by decide)]; exact a3 j hj⟩, fun k hk => ?_⟩, ?_, fun k hk => ?_⟩
  · rcases a4 k hk with q | ⟨q1, q2, q3⟩
    · left; rw [s 11 (by decide) (by decide)]; exact q
    · right
      exact ⟨by rw [s 11 (by decide) (by decide)]; exact q1, ⟨by rw [s _ (by omega) (by omega)]; exact q2.1, by rw [s _ (by omega) (by omega)]; exact q2.2⟩, q3⟩
  · rcases b with q | ⟨q1, q2, q3, q4, q5⟩
    · left; rw [s 4 (by decide) (by decide)]; exact q
    · right
      exact ⟨by rw [s 4 (by decide) (by decide)]; exact q1, by rw [s 6 (by decide) (by decide)]; exact q2, by rw [s 7 (by decide) (by decide)]; exact q3, by rw [s 8 (by decide) (by decide)]; exact q4, by rw [s 9 (by decide) (by decide)]; exact q5⟩
  · rcases c k hk with q | ⟨q1, q2⟩
    · left; rw [s 13 (by decide) (by decide)]; exact q
    · right
      exact ⟨by rw [s 13 (by decide) (by decide)]; exact q1, ⟨by rw [s _ (by omega) (by omega)]; exact q2.1, by rw [s _ (by omega) (by omega)]; exact q2.2⟩⟩
theorem gC_iq {h h' : MH} {n N : Nat} (g : gC h n N) (q : iq n N h h') : gC h' n N := ⟨by rw [(q.1 1 (by omega)).1]; exact g.1, by rw [(q.1 1 (by omega)).2]; exact g.2⟩
/-- powerOrderOf in the ideal -/
theorem cl_po {n N m : Nat} (g : gC h n N) (ok : gOK n N) (c : cI h n N) (hm : m < 4 ^ n) : Cl G (d + 2) M_X2_powerOrderOf [.ref 4, .int (nI m)] h (fun rv h' => rv = some (.int (nI (ord n N m))) ∧ same (fun k => k ≠ 4 ∧ k ≠ 5) h h' ∧ (∀ j, j ≠ 2 → h'.1 4 j = h.1 4 j) ∧ cI h' n N ∧ ∃ ko, m < ko ∧ kO h' n N ko ∧ ∀ ko0, kO h n N ko0 → ko0 ≤ ko) := by
  obtain ⟨⟨ko, k0, a4⟩, b, c3⟩ := c
  refine m_Cl_mono (cl_powerOrderOf g ok k0 hm) ?_
  rintro rv h' ⟨rfl, f, rfl, k1⟩
  have sm : same (fun k => k ≠ 4 ∧ k ≠ 5) h (aH h 4 2 5 (max ko (m + 1)) f) := same_aH (by simp) (by simp)
  have kk : ∀ k, k ≠ 4 → k ≠ 5 → (aH h 4 2 5 (max ko (m + 1)) f).1 k = h.1 k := fun k h1 h2 => aH_k h1 h2
  refine ⟨rfl, sm, fun j hj => aH_j (by decide) hj, ⟨⟨_, k1, fun k hk => ?_⟩, ?_, fun k hk => ?_⟩, _, by omega, k1, fun ko0 q => ?_⟩
  · rcases a4 k hk with q | ⟨q1, q2, q3⟩
    · left; rw [kk 11 (by decide) (by decide)]; exact q
    · right
      exact ⟨by rw [kk 11 (by decide) (by decide)]; exact q1, ⟨by rw [kk _ (by omega) (by omega)]; exact q2.1, by rw [kk _ (by omega) (by omega)]; exact q2.2⟩, fun m' h1 h2 => by have := q3 m' h1 h2; omega⟩
  · rcases b with q | ⟨q1, q2, q3, q4, q5⟩
    · left; rw [aH_j (by decide) (by decide)]; exact q
    · right
      exact ⟨by rw [aH_j (by decide) (by decide)]; exact q1, by rw [kk 6 (by decide) (by decide)]; exact q2, by rw [kk 7 (by decide) (by decide)]; exact q3, by rw [kk 8 (by decide) (by decide)]; exact q4, by rw [kk 9 (by decide) (by decide)]; exact q5⟩
  · rcases c3 k hk with q | ⟨q1, q2⟩
    · left; rw [kk 13 (by decide) (by decide)]; exact q
    · right
      exact ⟨by rw [kk 13 (by decide) (by decide)]; exact q1, ⟨by rw [kk _ (by omega) (by omega)]; exact q2.1, by rw [kk _ (by omega) (by omega)]; exact q2.2⟩⟩
  · have h4 := four_n ok.2.1
    have e := k0.2.1.symm.trans q.2.1
    have := (nI_eq (by have := k0.1; omega) (by have := q.1; omega)).mp e
    omega
/-- minimalCovers in the ideal -/
theorem cl_mc {n N : Nat} (g : gC h n N) (ok : gOK n N) (c : cI h n N) : Cl G (d + 2) M_X2_minimalCovers [.ref 4] h (fun rv h' => rv = some (.ref 6) ∧ same (fun k => k ≠ 4 ∧ k ≠ 6 ∧ k ≠ 7 ∧ k ≠ 8 ∧ k ≠ 9) h h' ∧ (∀ j, j ≠ 5 → h'.1 4 j = h.1 4 j) ∧ cI h' n N ∧ kC h' n N) := by
  obtain ⟨⟨ko, ⟨a1, a2, a3⟩, a4⟩, b, c3⟩ := id c
  rcases b with q | q
  · refine m_Cl_mono (cl_minimalCovers_n g ok q) ?_
    rintro rv h' ⟨rfl, sm, sj, kc⟩
    refine ⟨rfl, sm, sj, ⟨⟨ko, ⟨a1, by rw [sj 2 (by decide)]; exact a2, fun j hj => by rw [(sm 5 (by decide)).1]; exact a3 j hj⟩, fun k hk => ?_⟩, Or.inr kc, fun k hk => ?_⟩, kc⟩
    · rcases a4 k hk with q | ⟨q1, q2, q3⟩
      · left; rw [(sm 11 (by decide)).1]; exact q
      · right
        exact ⟨by rw [(sm 11 (by decide)).1]; exact q1, ⟨by rw [(sm _ (by omega)).1]; exact q2.1, by rw [(sm _ (by omega)).1]; exact q2.2⟩, q3⟩
    · rcases c3 k hk with q | ⟨q1, q2⟩
      · left; rw [(sm 13 (by decide)).1]; exact q
      · right
        exact ⟨by rw [(sm 13 (by decide)).1]; exact q1, ⟨by rw [(sm _ (by omega)).1]; exact q2.1, by rw [(sm _ (by omega)).1]; exact q2.2⟩⟩
  · refine m_Cl_mono (cl_minimalCovers_k (n := n) (N := N) q.1) ?_
    rintro rv h' ⟨rfl, rfl⟩
    exact ⟨rfl, same.rf, fun _ _ => rfl, c, q⟩
theorem cl_so {n N m : Nat} (g : gC h n N) (ok : gOK n N) (c : cI h n N) (hm : m < 4 ^ n) : Cl G (d + 3) M_X2_symbolicOrderOf [.ref 4, .int (nI m)] h (fun rv h' => rv = some (.int (nI (so n N m))) ∧ same (fun k => k ≠ 4 ∧ k ≠ 6 ∧ k ≠ 7 ∧ k ≠ 8 ∧ k ≠ 9) h h' ∧ (∀ j, j ≠ 5 → h'.1 4 j = h.1 4 j) ∧ cI h' n N) := by
  refine ev_start 3 (lv := [some (.ref 4), some (.int (nI m)), none, none, none]) rfl (by decide) (Nat.le_of_ble_eq_true rfl) ?_
  refine ev_bipush (nI 21) dX2_symbolicOrderOf_0 rfl ?_
  refine ev_ist2 dX2_symbolicOrderOf_2 (by decide) rfl ?_
  refine ev_aload_n dX2_symbolicOrderOf_3 rfl ?_
  refine ev_callV (cl_mc g ok c) ok_X2_minimalCovers ml_X2_106 rfl rfl rfl rfl (Nat.le_of_ble_eq_true rfl) dX2_symbolicOrderOf_4 ?_
  rintro rv h1 ⟨rfl, sm, sj, c1, kc⟩
  refine ev_getIv (kc.2.1) fl_X2_89 rfl rfl dX2_symbolicOrderOf_7 ?_
  refine ev_ist3 dX2_symbolicOrderOf_10 (by decide) rfl ?_
  refine ev_iconst (nI 0) dX2_symbolicOrderOf_11 rfl ?_
  refine ev_ist4 dX2_symbolicOrderOf_12 (by decide) rfl ?_
  refine ev_mono ?_ (so_loop ok kc hm)
  rintro rv h2 ⟨rfl, rfl⟩
  exact ⟨rfl, sm, sj, c1⟩
/-! the heights -/
def mxf (f : Nat → Nat) : List Nat → Nat → Nat
  | [], b => b
  | c :: l, b => mxf f l (max b (f c))
theorem mxf_app (f : Nat → Nat) (a : List Nat) (c b : Nat) : mxf f (a ++ [c]) b = max (mxf f a b) (f c) := by
  induction a generalizing b with
  | nil => rfl
  | cons x a ih => exact ih _
theorem pop_le : ∀ x, x < 128 → pop x ≤ 7 := by decide +kernel
theorem mxf_le {f : Nat → Nat} {B : Nat} : ∀ (l : List Nat) (b : Nat), b ≤ B → (∀ c, c ∈ l → f c ≤ B) → mxf f l b ≤ B
  | [], _, h, _ => h
  | c :: l, b, h, hc => mxf_le l _ (by have := hc c List.mem_cons_self; omega) (fun x hx => hc x (List.mem_cons_of_mem _ hx))
theorem cl_smallestCoverSize {n N : Nat} (g : gC h n N) (ok : gOK n N) (c : cI h n N) : Cl G (d + 3) M_X2_smallestCoverSize [.ref 4] h (fun rv h' => rv = some (.int (nI (mnf pop (cvL n N) 7))) ∧ iq n N h h' ∧ cI h' n N) := by
  have l35 := cvL_len ok
  have loop : ∀ (h1 : MH), kC h1 n N → ∀ (k i : Nat), i + k = (cvL n N).length → Ev G (d + 3) M_X2_smallestCoverSize 10 [some (.ref 4), some (.int (nI (mnf pop ((cvL n N).take i) 7))), some (.ref 6), some (.int (nI i))] [] h1 (qI (nI (mnf pop (cvL n N) 7)) h1) := by
    rintro h1 ⟨k1, k2, k3, k4, k5⟩ k
    induction k with
    | zero =>
      intro i hi
      rw [List.take_of_length_le (by omega)]
      refine ev_iload_n dX2_smallestCoverSize_10 rfl ?_
      refine ev_aload_n dX2_smallestCoverSize_11 rfl ?_
      refine ev_getIv (k2) fl_X2_89 rfl rfl dX2_smallestCoverSize_12 ?_
      refine ev_icmp_geN 38 dX2_smallestCoverSize_15 (by decide) (by omega) (by omega) (fun c15 => ?_) (fun c15 => ?_)
      · refine ev_iload_n dX2_smallestCoverSize_38 rfl ?_
        refine ev_iret dX2_smallestCoverSize_39 rfl ?_
        exact ⟨by with_reducible rfl, rfl⟩
      · omega
    | succ k ih =>
      intro i hi
      have hb : mnf pop ((cvL n N).take i) 7 ≤ 7 := ((mnf_le _ _ _ _).mp (Nat.le_refl _)).1
      have hv := k3 i (by omega)
      have hc := cvL_lt ok (getD_mem (L := cvL n N) (i := i) (by omega))
      have pl := pop_le _ hc
      have q := ih (i + 1) (by omega)
      rw [take_snoc (by omega), mnf_app] at q
      refine ev_iload_n dX2_smallestCoverSize_10 rfl ?_
      refine ev_aload_n dX2_smallestCoverSize_11 rfl ?_
      refine ev_getIv (k2) fl_X2_89 rfl rfl dX2_smallestCoverSize_12 ?_
      refine ev_icmp_geN 38 dX2_smallestCoverSize_15 (by decide) (by omega) (by omega) (fun c15 => ?_) (fun c15 => ?_)
      · omega
      · refine ev_iload_n dX2_smallestCoverSize_18 rfl ?_
        refine ev_aload_n dX2_smallestCoverSize_19 rfl ?_
        refine ev_getR fl_X2_110 rfl rfl dX2_smallestCoverSize_20 ?_
        refine ev_iload_n dX2_smallestCoverSize_23 rfl ?_
        refine ev_ialdv (hv) rfl dX2_smallestCoverSize_24 (by omega) (by omega) ?_
        refine ev_callS (cl_bc (by omega)) ok_J6_bitCount_0f7a4 ml_X2_113 rfl rfl (Nat.le_of_ble_eq_true rfl) dX2_smallestCoverSize_25 (kI ?_)
        refine ev_minN ml_X2_116 (Nat.le_of_ble_eq_true rfl) dX2_smallestCoverSize_28 (by omega) (by omega) ?_
        refine ev_ist1 dX2_smallestCoverSize_31 (by decide) rfl ?_
        refine ev_inc3N dX2_smallestCoverSize_32 (by decide) rfl ?_
        refine ev_goto 10 dX2_smallestCoverSize_35 (by decide) ?_
        exact q
  refine ev_start 3 (lv := [some (.ref 4), none, none, none]) rfl (by decide) (Nat.le_of_ble_eq_true rfl) ?_
  refine ev_bipush (nI 7) dX2_smallestCoverSize_0 rfl ?_
  refine ev_ist1 dX2_smallestCoverSize_2 (by decide) rfl ?_
  refine ev_aload_n dX2_smallestCoverSize_3 rfl ?_
  refine ev_callV (cl_mc g ok c) ok_X2_minimalCovers ml_X2_106 rfl rfl rfl rfl (Nat.le_of_ble_eq_true rfl) dX2_smallestCoverSize_4 ?_
  rintro rv h1 ⟨rfl, sm, sj, c1, kc⟩
  refine ev_ast2 dX2_smallestCoverSize_7 (by decide) rfl ?_
  refine ev_iconst (nI 0) dX2_smallestCoverSize_8 rfl ?_
  refine ev_ist3 dX2_smallestCoverSize_9 (by decide) rfl ?_
  refine ev_mono ?_ (loop h1 kc (cvL n N).length 0 (by omega))
  rintro rv h2 ⟨rfl, rfl⟩
  exact ⟨rfl, iq_of (sm.mono (fun k hk => by omega)) (sj 2 (by decide)) (sm 5 (by decide)).1, c1⟩
theorem cl_largestCoverSize {n N : Nat} (g : gC h n N) (ok : gOK n N) (c : cI h n N) : Cl G (d + 3) M_X2_largestCoverSize [.ref 4] h (fun rv h' => rv = some (.int (nI (mxf pop (cvL n N) 0))) ∧ iq n N h h' ∧ cI h' n N) := by
  have l35 := cvL_len ok
  have loop : ∀ (h1 : MH), kC h1 n N → ∀ (k i : Nat), i + k = (cvL n N).length → Ev G (d + 3) M_X2_largestCoverSize 9 [some (.ref 4), some (.int (nI (mxf pop ((cvL n N).take i) 0))), some (.ref 6), some (.int (nI i))] [] h1 (qI (nI (mxf pop (cvL n N) 0)) h1) := by
    rintro h1 ⟨k1, k2, k3, k4, k5⟩ k
    induction k with
    | zero =>
      intro i hi
      rw [List.take_of_length_le (by omega)]
      refine ev_iload_n dX2_largestCoverSize_9 rfl ?_
      refine ev_aload_n dX2_largestCoverSize_10 rfl ?_
      refine ev_getIv (k2) fl_X2_89 rfl rfl dX2_largestCoverSize_11 ?_
      refine ev_icmp_geN 37 dX2_largestCoverSize_14 (by decide) (by omega) (by omega) (fun c14 => ?_) (fun c14 => ?_)
      · refine ev_iload_n dX2_largestCoverSize_37 rfl ?_
        refine ev_iret dX2_largestCoverSize_38 rfl ?_
        exact ⟨by with_reducible rfl, rfl⟩
      · omega
    | succ k ih =>
      intro i hi
      have hb : mxf pop ((cvL n N).take i) 0 ≤ 7 := mxf_le _ _ (by omega) (fun x hx => pop_le x (cvL_lt ok (List.mem_of_mem_take hx)))
      have hv := k3 i (by omega)
      have hc := cvL_lt ok (getD_mem (L := cvL n N) (i := i) (by omega))
      have pl := pop_le _ hc
      have q := ih (i + 1) (by omega)
      rw [take_snoc (by omega), mxf_app] at q
      refine ev_iload_n dX2_largestCoverSize_9 rfl ?_
      refine ev_aload_n dX2_largestCoverSize_10 rfl ?_
      refine ev_getIv (k2) fl_X2_89 rfl rfl dX2_largestCoverSize_11 ?_
      refine ev_icmp_geN 37 dX2_largestCoverSize_14 (by decide) (by omega) (by omega) (fun c14 => ?_) (fun c14 => ?_)
      · omega
      · refine ev_iload_n dX2_largestCoverSize_17 rfl ?_
        refine ev_aload_n dX2_largestCoverSize_18 rfl ?_
        refine ev_getR fl_X2_110 rfl rfl dX2_largestCoverSize_19 ?_
        refine ev_iload_n dX2_largestCoverSize_22 rfl ?_
        refine ev_ialdv (hv) rfl dX2_largestCoverSize_23 (by omega) (by omega) ?_
        refine ev_callS (cl_bc (by omega)) ok_J6_bitCount_0f7a4 ml_X2_113 rfl rfl (Nat.le_of_ble_eq_true rfl) dX2_largestCoverSize_24 (kI ?_)
        refine ev_maxN ml_X2_59 (Nat.le_of_ble_eq_true rfl) dX2_largestCoverSize_27 (by omega) (by omega) ?_
        refine ev_ist1 dX2_largestCoverSize_30 (by decide) rfl ?_
        refine ev_inc3N dX2_largestCoverSize_31 (by decide) rfl ?_
        refine ev_goto 9 dX2_largestCoverSize_34 (by decide) ?_
        exact q
  refine ev_start 3 (lv := [some (.ref 4), none, none, none]) rfl (by decide) (Nat.le_of_ble_eq_true rfl) ?_
  refine ev_iconst (nI 0) dX2_largestCoverSize_0 rfl ?_
  refine ev_ist1 dX2_largestCoverSize_1 (by decide) rfl ?_
  refine ev_aload_n dX2_largestCoverSize_2 rfl ?_
  refine ev_callV (cl_mc g ok c) ok_X2_minimalCovers ml_X2_106 rfl rfl rfl rfl (Nat.le_of_ble_eq_true rfl) dX2_largestCoverSize_3 ?_
  rintro rv h1 ⟨rfl, sm, sj, c1, kc⟩
  refine ev_ast2 dX2_largestCoverSize_6 (by decide) rfl ?_
  refine ev_iconst (nI 0) dX2_largestCoverSize_7 rfl ?_
  refine ev_ist3 dX2_largestCoverSize_8 (by decide) rfl ?_
  refine ev_mono ?_ (loop h1 kc (cvL n N).length 0 (by omega))
  rintro rv h2 ⟨rfl, rfl⟩
  exact ⟨rfl, iq_of (sm.mono (fun k hk => by omega)) (sj 2 (by decide)) (sm 5 (by decide)).1, c1⟩
end IDEAL
