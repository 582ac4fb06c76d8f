section Q2
variable {G : MG} {d : Nat} {h : MH}
theorem cl_powerOrderC {n N : Nat} {x : Int32} (g : gC h n N) (ok : gOK n N) (c : cI h n N) : Cl G (d + 3) M_X11_powerOrder [.ref 0, .int x] h (fun rv h' => rv = some (.int (aIn x (4 ^ n) (fun m => nI (ord n N m)))) ∧ iq n N h h' ∧ cI h' n N) := by
  have hn := ok.2.1
  have h4 := four_n hn
  by_cases hx : inR x (4 ^ n)
  · obtain ⟨j, hj, rfl⟩ := hx
    have q1 := b01_t (show inR (nI j) (4 ^ n) from ⟨j, hj, rfl⟩)
    rw [aIn_t hj (by omega)]
    refine ev_start 0 (lv := [some (.ref 0), some (.int (nI j))]) rfl (by decide) (Nat.le_of_ble_eq_true rfl) ?_
    refine ev_aload_n dX11_powerOrder_0 rfl ?_
    refine ev_iload_n dX11_powerOrder_1 rfl ?_
    refine ev_callV (cl_isCodeC g hn) ok_X11_isCode ml_X11_168 rfl rfl rfl rfl (Nat.le_of_ble_eq_true rfl) dX11_powerOrder_2 (kI ?_)
    refine ev_if_eqN 19 dX11_powerOrder_5 (by decide) (by omega) (fun c5 => ?_) (fun c5 => ?_)
    · omega
    · refine ev_aload_n dX11_powerOrder_8 rfl ?_
      refine ev_getR fl_X11_23 rfl rfl dX11_powerOrder_9 ?_
      refine ev_iload_n dX11_powerOrder_12 rfl ?_
      refine ev_callV (cl_po g ok c hj) ok_X2_powerOrderOf ml_X11_140 rfl rfl rfl rfl (Nat.le_of_ble_eq_true rfl) dX11_powerOrder_13 ?_
      rintro rv h1 ⟨rfl, sm, sj, c1, ko, k1, k2, k3⟩
      refine ev_goto 20 dX11_powerOrder_16 (by decide) ?_
      refine ev_iret dX11_powerOrder_20 rfl ?_
      exact ⟨rfl, ⟨sm.mono (fun k hk => by omega), fun ko0 q => ⟨ko, k3 ko0 q, k2⟩⟩, c1⟩
  · have q1 := b01_f hx
    rw [aIn_f hx]
    refine ev_start 0 (lv := [some (.ref 0), some (.int x)]) rfl (by decide) (Nat.le_of_ble_eq_true rfl) ?_
    refine ev_aload_n dX11_powerOrder_0 rfl ?_
    refine ev_iload_n dX11_powerOrder_1 rfl ?_
    refine ev_callV (cl_isCodeC g hn) ok_X11_isCode ml_X11_168 rfl rfl rfl rfl (Nat.le_of_ble_eq_true rfl) dX11_powerOrder_2 (kI ?_)
    refine ev_if_eqN 19 dX11_powerOrder_5 (by decide) (by omega) (fun c5 => ?_) (fun c5 => ?_)
    · refine ev_iconst (-1) dX11_powerOrder_19 rfl ?_
      refine ev_iret dX11_powerOrder_20 rfl ?_
      exact ⟨rfl, iq.rf, c⟩
    · omega
theorem cl_symbolicOrderC {n N : Nat} {x : Int32} (g : gC h n N) (ok : gOK n N) (c : cI h n N) : Cl G (d + 4) M_X11_symbolicOrder [.ref 0, .int x] h (fun rv h' => rv = some (.int (aIn x (4 ^ n) (fun m => nI (so n N m)))) ∧ iq n N h h' ∧ cI h' n N) := by
  have hn := ok.2.1
  have h4 := four_n hn
  by_cases hx : inR x (4 ^ n)
  · obtain ⟨j, hj, rfl⟩ := hx
    have q1 := b01_t (show inR (nI j) (4 ^ n) from ⟨j, hj, rfl⟩)
    rw [aIn_t hj (by omega)]
    refine ev_start 0 (lv := [some (.ref 0), some (.int (nI j))]) rfl (by decide) (Nat.le_of_ble_eq_true rfl) ?_
    refine ev_aload_n dX11_symbolicOrder_0 rfl ?_
    refine ev_iload_n dX11_symbolicOrder_1 rfl ?_
    refine ev_callV (cl_isCodeC g hn) ok_X11_isCode ml_X11_168 rfl rfl rfl rfl (Nat.le_of_ble_eq_true rfl) dX11_symbolicOrder_2 (kI ?_)
    refine ev_if_eqN 19 dX11_symbolicOrder_5 (by decide) (by omega) (fun c5 => ?_) (fun c5 => ?_)
    · omega
    · refine ev_aload_n dX11_symbolicOrder_8 rfl ?_
      refine ev_getR fl_X11_23 rfl rfl dX11_symbolicOrder_9 ?_
      refine ev_iload_n dX11_symbolicOrder_12 rfl ?_
      refine ev_callV (cl_so g ok c hj) ok_X2_symbolicOrderOf ml_X11_178 rfl rfl rfl rfl (Nat.le_of_ble_eq_true rfl) dX11_symbolicOrder_13 ?_
      rintro rv h1 ⟨rfl, sm, sj, c1⟩
      refine ev_goto 20 dX11_symbolicOrder_16 (by decide) ?_
      refine ev_iret dX11_symbolicOrder_20 rfl ?_
      exact ⟨rfl, iq_of (sm.mono (fun k hk => by omega)) (sj 2 (by decide)) (sm 5 (by decide)).1, c1⟩
  · have q1 := b01_f hx
    rw [aIn_f hx]
    refine ev_start 0 (lv := [some (.ref 0), some (.int x)]) rfl (by decide) (Nat.le_of_ble_eq_true rfl) ?_
    refine ev_aload_n dX11_symbolicOrder_0 rfl ?_
    refine ev_iload_n dX11_symbolicOrder_1 rfl ?_
    refine ev_callV (cl_isCodeC g hn) ok_X11_isCode ml_X11_168 rfl rfl rfl rfl (Nat.le_of_ble_eq_true rfl) dX11_symbolicOrder_2 (kI ?_)
    refine ev_if_eqN 19 dX11_symbolicOrder_5 (by decide) (by omega) (fun c5 => ?_) (fun c5 => ?_)
    · refine ev_iconst (-1) dX11_symbolicOrder_19 rfl ?_
      refine ev_iret dX11_symbolicOrder_20 rfl ?_
      exact ⟨rfl, iq.rf, c⟩
    · omega
theorem gM_mq {h h' : MH} {n N : Nat} (g : gM h n N) (a : mq h h') : gM h' n N := gM_ms g (ms_mq a)
theorem cl_powerOrderM {n N : Nat} {x : Int32} (g : gM h n N) (ok : gOK n N) (c : cacheM h n N) : Cl G (d + 3) M_X12_powerOrder [.ref 67, .int x] h (fun rv h' => rv = some (.int (aIn x (4 ^ n) (fun m => nI (ord n N m)))) ∧ ms h h' ∧ cacheM h' n N) := by
  have hn := ok.2.1
  have h4 := four_n hn
  by_cases hx : inR x (4 ^ n)
  · obtain ⟨j, hj, rfl⟩ := hx
    have q1 := b01_t (show inR (nI j) (4 ^ n) from ⟨j, hj, rfl⟩)
    rw [aIn_t hj (by omega)]
    refine ev_start 0 (lv := [some (.ref 67), some (.int (nI j))]) rfl (by decide) (Nat.le_of_ble_eq_true rfl) ?_
    refine ev_aload_n dX12_powerOrder_0 rfl ?_
    refine ev_callV (cl_update g ok c) ok_X12_update ml_X12_144 rfl rfl rfl rfl (Nat.le_of_ble_eq_true rfl) dX12_powerOrder_1 ?_
    rintro rv h1 ⟨rfl, m1, t1⟩
    refine ev_aload_n dX12_powerOrder_4 rfl ?_
    refine ev_iload_n dX12_powerOrder_5 rfl ?_
    refine ev_callV (cl_isCodeM (gM_mq g m1) hn) ok_X12_isCode ml_X12_160 rfl rfl rfl rfl (Nat.le_of_ble_eq_true rfl) dX12_powerOrder_6 (kI ?_)
    refine ev_if_eqN 21 dX12_powerOrder_9 (by decide) (by omega) (fun c9 => ?_) (fun c9 => ?_)
    · omega
    · refine ev_aload_n dX12_powerOrder_12 rfl ?_
      refine ev_getR fl_X12_32 rfl rfl dX12_powerOrder_13 ?_
      refine ev_iload_n dX12_powerOrder_16 rfl ?_
      refine ev_ialdv (t1.2.2.1 j hj) rfl dX12_powerOrder_17 (by omega) (by omega) ?_
      refine ev_goto 22 dX12_powerOrder_18 (by decide) ?_
      refine ev_iret dX12_powerOrder_22 rfl ?_
      exact ⟨rfl, ms_mq m1, Or.inr t1⟩
  · have q1 := b01_f hx
    rw [aIn_f hx]
    refine ev_start 0 (lv := [some (.ref 67), some (.int x)]) rfl (by decide) (Nat.le_of_ble_eq_true rfl) ?_
    refine ev_aload_n dX12_powerOrder_0 rfl ?_
    refine ev_callV (cl_update g ok c) ok_X12_update ml_X12_144 rfl rfl rfl rfl (Nat.le_of_ble_eq_true rfl) dX12_powerOrder_1 ?_
    rintro rv h1 ⟨rfl, m1, t1⟩
    refine ev_aload_n dX12_powerOrder_4 rfl ?_
    refine ev_iload_n dX12_powerOrder_5 rfl ?_
    refine ev_callV (cl_isCodeM (gM_mq g m1) hn) ok_X12_isCode ml_X12_160 rfl rfl rfl rfl (Nat.le_of_ble_eq_true rfl) dX12_powerOrder_6 (kI ?_)
    refine ev_if_eqN 21 dX12_powerOrder_9 (by decide) (by omega) (fun c9 => ?_) (fun c9 => ?_)
    · refine ev_iconst (-1) dX12_powerOrder_21 rfl ?_
      refine ev_iret dX12_powerOrder_22 rfl ?_
      exact ⟨rfl, ms_mq m1, Or.inr t1⟩
    · omega
theorem cl_symbolicOrderM {n N : Nat} {x : Int32} (g : gM h n N) (ok : gOK n N) (c : cacheM h n N) : Cl G (d + 3) M_X12_symbolicOrder [.ref 67, .int x] h (fun rv h' => rv = some (.int (aIn x (4 ^ n) (fun m => nI (so n N m)))) ∧ ms h h' ∧ cacheM h' n N) := by
  have hn := ok.2.1
  have h4 := four_n hn
  by_cases hx : inR x (4 ^ n)
  · obtain ⟨j, hj, rfl⟩ := hx
    have q1 := b01_t (show inR (nI j) (4 ^ n) from ⟨j, hj, rfl⟩)
    rw [aIn_t hj (by omega)]
    refine ev_start 0 (lv := [some (.ref 67), some (.int (nI j))]) rfl (by decide) (Nat.le_of_ble_eq_true rfl) ?_
    refine ev_aload_n dX12_symbolicOrder_0 rfl ?_
    refine ev_callV (cl_update g ok c) ok_X12_update ml_X12_144 rfl rfl rfl rfl (Nat.le_of_ble_eq_true rfl) dX12_symbolicOrder_1 ?_
    rintro rv h1 ⟨rfl, m1, t1⟩
    refine ev_aload_n dX12_symbolicOrder_4 rfl ?_
    refine ev_iload_n dX12_symbolicOrder_5 rfl ?_
    refine ev_callV (cl_isCodeM (gM_mq g m1) hn) ok_X12_isCode ml_X12_160 rfl rfl rfl rfl (Nat.le_of_ble_eq_true rfl) dX12_symbolicOrder_6 (kI ?_)
    refine ev_if_eqN 21 dX12_symbolicOrder_9 (by decide) (by omega) (fun c9 => ?_) (fun c9 => ?_)
    · omega
    · refine ev_aload_n dX12_symbolicOrder_12 rfl ?_
      refine ev_getR fl_X12_35 rfl rfl dX12_symbolicOrder_13 ?_
      refine ev_iload_n dX12_symbolicOrder_16 rfl ?_
      refine ev_ialdv (t1.2.2.2 j hj) rfl dX12_symbolicOrder_17 (by omega) (by omega) ?_
      refine ev_goto 22 dX12_symbolicOrder_18 (by decide) ?_
      refine ev_iret dX12_symbolicOrder_22 rfl ?_
      exact ⟨rfl, ms_mq m1, Or.inr t1⟩
  · have q1 := b01_f hx
    rw [aIn_f hx]
    refine ev_start 0 (lv := [some (.ref 67), some (.int x)]) rfl (by decide) (Nat.le_of_ble_eq_true rfl) ?_
    refine ev_aload_n dX12_symbolicOrder_0 rfl ?_
    refine ev_callV (cl_update g ok c) ok_X12_update ml_X12_144 rfl rfl rfl rfl (Nat.le_of_ble_eq_true rfl) dX12_symbolicOrder_1 ?_
    rintro rv h1 ⟨rfl, m1, t1⟩
    refine ev_aload_n dX12_symbolicOrder_4 rfl ?_
    refine ev_iload_n dX12_symbolicOrder_5 rfl ?_
    refine ev_callV (cl_isCodeM (gM_mq g m1) hn) ok_X12_isCode ml_X12_160 rfl rfl rfl rfl (Nat.le_of_ble_eq_true rfl) dX12_symbolicOrder_6 (kI ?_)
    refine ev_if_eqN 21 dX12_symbolicOrder_9 (by decide) (by omega) (fun c9 => ?_) (fun c9 => ?_)
    · refine ev_iconst (-1) dX12_symbolicOrder_21 rfl ?_
      refine ev_iret dX12_symbolicOrder_22 rfl ?_
      exact ⟨rfl, ms_mq m1, Or.inr t1⟩
    · omega
theorem bits_ex (f : Nat → Bool) : ∀ k, ∃ X, X < 2 ^ k ∧ ∀ i, i < k → X.testBit i = f i
  | 0 => ⟨0, by decide, fun i hi => absurd hi (by omega)⟩
  | k + 1 => by
    obtain ⟨X, h1, h2⟩ := bits_ex f k
    have p1 : 2 ^ (k + 1) = 2 * 2 ^ k := by rw [Nat.pow_succ]; omega
    cases hf : f k with
    | false =>
      refine ⟨X, by omega, fun i hi => ?_⟩
      by_cases e : i = k
      · subst e; rw [hf]; exact Nat.testBit_lt_two_pow h1
      · exact h2 i (by omega)
    | true =>
      refine ⟨X ||| 2 ^ k, Nat.or_lt_two_pow (by omega) (by omega), fun i hi => ?_⟩
      rw [Nat.testBit_or, Nat.testBit_two_pow]
      by_cases e : i = k
      · subst e; rw [hf]; simp
      · rw [h2 i (by omega)]; simp [show ¬ k = i from fun z => e z.symm]
theorem MP_ex (P : Nat → Nat → Prop) : ∃ X, MP X P := by
  obtain ⟨X, h1, h2⟩ := bits_ex (fun i => @decide (P (i / 7) (i % 7)) (Classical.propDecidable _)) 49
  refine ⟨X, h1, fun u v hu hv => ?_⟩
  rw [nb_bit _ _ _ hv, h2 _ (by omega), show (7 * u + v) / 7 = u by omega, show (7 * u + v) % 7 = v by omega]
  exact @decide_eq_true_iff _ (Classical.propDecidable _)
noncomputable def eE (n N c : Nat) : Nat := Classical.choose (MP_ex (fun u v => u < n ∧ v < n ∧ u ≠ v ∧ ((nb N u).testBit v = true ↔ c ≠ 1)))
theorem eE_ok (n N c : Nat) : cE n N c (eE n N c) := Classical.choose_spec (MP_ex _)
theorem eE_uniq {n N c E : Nat} (a : cE n N c E) : E = eE n N c := MP_uniq a (eE_ok n N c)
noncomputable def elX (n N c : Nat) : List Nat := elL n (eE n N c) n (2 ^ n - 1)
theorem elX_len {n N c : Nat} (hn : n ≤ 7) : (elX n N c).length ≤ n := elL_len n _ n _
theorem el_C {n N c : Nat} {h h' : MH} {rv : Option Value} (q : ∃ E f, cE n N c E ∧ rv = some (.ref 2) ∧ h' = aH h 2 1 3 (elL n E n (2 ^ n - 1)).length f ∧ hold f (elL n E n (2 ^ n - 1))) : rv = some (.ref 2) ∧ same (fun k => k ≠ 2 ∧ k ≠ 3) h h' ∧ rowIs h' 2 (elX n N c) := by
  obtain ⟨E, f, hE, rfl, rfl, hf⟩ := q
  obtain rfl := eE_uniq hE
  exact ⟨rfl, same_aH (by decide) (by decide), aH_cnt (by decide), by rw [aH_arr]; exact hf⟩
theorem el_M {n N c : Nat} {h h' : MH} {rv : Option Value} (q : ∃ f, rv = none ∧ h' = aH h 67 11 74 (elX n N c).length f ∧ hold f (elX n N c)) : rv = none ∧ ms h h' ∧ (∀ k, k ≠ 67 → k ≠ 74 → h'.1 k = h.1 k) ∧ (∀ j, j ≠ 11 → h'.1 67 j = h.1 67 j) ∧ h'.1 67 11 = nI (elX n N c).length ∧ hold (h'.1 74) (elX n N c) := by
  obtain ⟨f, rfl, rfl, hf⟩ := q
  exact ⟨rfl, ⟨fun k h1 h2 => ⟨aH_k h1 (fun e => h2 (by simp [scrP, e])), rfl⟩, fun j hj => aH_j (by decide) (fun e => hj (by simp [scrF, e]))⟩, fun k h1 h2 => aH_k h1 h2, fun j hj => aH_j (by decide) hj, aH_cnt (by decide), by rw [aH_arr]; exact hf⟩
theorem cacheM_el {n N : Nat} {h h' : MH} (c : cacheM h n N) (a : ∀ k, k ≠ 67 → k ≠ 74 → h'.1 k = h.1 k) (b : ∀ j, j ≠ 11 → h'.1 67 j = h.1 67 j) : cacheM h' n N := by
  rcases c with q | ⟨w1, w2, w3, w4⟩
  · left; rw [b 5 (by decide)]; exact q
  · right
    exact ⟨by rw [b 5 (by decide)]; exact w1, ⟨by rw [b 7 (by decide)]; exact w2.1, by rw [a 71 (by decide) (by decide)]; exact w2.2⟩, by rw [a 72 (by decide) (by decide)]; exact w3, by rw [a 73 (by decide) (by decide)]; exact w4⟩
theorem cl_eliminationLengthC {n N : Nat} {x : Int32} (g : gC h n N) (ok : gOK n N) : Cl G (d + 4) M_X11_eliminationLength [.ref 0, .int x] h (fun rv h' => rv = some (.int (aIn x 2 (fun c => nI (elX n N c).length))) ∧ same (fun k => k ≠ 2 ∧ k ≠ 3) h h') := by
  by_cases hx : inR x 2
  · obtain ⟨j, hj, rfl⟩ := hx
    have q1 := b01_t (show inR (nI j) 2 from ⟨j, hj, rfl⟩)
    rw [aIn_t hj (by omega)]
    refine ev_start 0 (lv := [some (.ref 0), some (.int (nI j))]) rfl (by decide) (Nat.le_of_ble_eq_true rfl) ?_
    refine ev_iload_n dX11_eliminationLength_0 rfl ?_
    refine ev_callS (cl_isFlag) ok_X11_isFlag ml_X11_161 rfl rfl (Nat.le_of_ble_eq_true rfl) dX11_eliminationLength_1 (kI ?_)
    refine ev_if_eqN 21 dX11_eliminationLength_4 (by decide) (by omega) (fun c4 => ?_) (fun c4 => ?_)
    · omega
    · refine ev_aload_n dX11_eliminationLength_7 rfl ?_
      refine ev_getR fl_X11_14 rfl rfl dX11_eliminationLength_8 ?_
      refine ev_iload_n dX11_eliminationLength_11 rfl ?_
      refine ev_callV (cl_elimination g ok (by omega)) ok_X1_elimination ml_X11_164 rfl rfl rfl rfl (Nat.le_of_ble_eq_true rfl) dX11_eliminationLength_12 ?_
      rintro rv h1 qq
      obtain ⟨rfl, sm, r1⟩ := el_C qq
      refine ev_getIv (r1.1) fl_X11_148 rfl rfl dX11_eliminationLength_15 ?_
      refine ev_goto 22 dX11_eliminationLength_18 (by decide) ?_
      refine ev_iret dX11_eliminationLength_22 rfl ?_
      exact ⟨rfl, sm⟩
  · have q1 := b01_f hx
    rw [aIn_f hx]
    refine ev_start 0 (lv := [some (.ref 0), some (.int x)]) rfl (by decide) (Nat.le_of_ble_eq_true rfl) ?_
    refine ev_iload_n dX11_eliminationLength_0 rfl ?_
    refine ev_callS (cl_isFlag) ok_X11_isFlag ml_X11_161 rfl rfl (Nat.le_of_ble_eq_true rfl) dX11_eliminationLength_1 (kI ?_)
    refine ev_if_eqN 21 dX11_eliminationLength_4 (by decide) (by omega) (fun c4 => ?_) (fun c4 => ?_)
    · refine ev_iconst (-1) dX11_eliminationLength_21 rfl ?_
      refine ev_iret dX11_eliminationLength_22 rfl ?_
      exact ⟨rfl, same.rf⟩
    · omega
theorem cl_eliminatedC {n N : Nat} {x y : Int32} (g : gC h n N) (ok : gOK n N) : Cl G (d + 4) M_X11_eliminated [.ref 0, .int x, .int y] h (fun rv h' => rv = some (.int (aIn x 2 (fun c => itL (elX n N c) y))) ∧ same (fun k => k ≠ 2 ∧ k ≠ 3) h h') := by
  have hn := ok.2.1
  by_cases hx : inR x 2
  · obtain ⟨j, hj, rfl⟩ := hx
    have q1 := b01_t (show inR (nI j) 2 from ⟨j, hj, rfl⟩)
    have hl := elX_len (N := N) (c := j) hn
    rw [aIn_t hj (by omega)]
    refine ev_start 0 (lv := [some (.ref 0), some (.int (nI j)), some (.int y)]) rfl (by decide) (Nat.le_of_ble_eq_true rfl) ?_
    refine ev_iload_n dX11_eliminated_0 rfl ?_
    refine ev_callS (cl_isFlag) ok_X11_isFlag ml_X11_161 rfl rfl (Nat.le_of_ble_eq_true rfl) dX11_eliminated_1 (kI ?_)
    refine ev_if_eqN 22 dX11_eliminated_4 (by decide) (by omega) (fun c4 => ?_) (fun c4 => ?_)
    · omega
    · refine ev_aload_n dX11_eliminated_7 rfl ?_
      refine ev_getR fl_X11_14 rfl rfl dX11_eliminated_8 ?_
      refine ev_iload_n dX11_eliminated_11 rfl ?_
      refine ev_callV (cl_elimination g ok (by omega)) ok_X1_elimination ml_X11_164 rfl rfl rfl rfl (Nat.le_of_ble_eq_true rfl) dX11_eliminated_12 ?_
      rintro rv h1 qq
      obtain ⟨rfl, sm, r1⟩ := el_C qq
      refine ev_iload_n dX11_eliminated_15 rfl ?_
      refine ev_callS (cl_itemOrError row_2 r1.1 (by omega)) ok_X11_itemOrError ml_X11_151 rfl rfl (Nat.le_of_ble_eq_true rfl) dX11_eliminated_16 (kI ?_)
      rw [itL_hold (by omega) r1.2]
      refine ev_goto 23 dX11_eliminated_19 (by decide) ?_
      refine ev_iret dX11_eliminated_23 rfl ?_
      exact ⟨rfl, sm⟩
  · have q1 := b01_f hx
    rw [aIn_f hx]
    refine ev_start 0 (lv := [some (.ref 0), some (.int x), some (.int y)]) rfl (by decide) (Nat.le_of_ble_eq_true rfl) ?_
    refine ev_iload_n dX11_eliminated_0 rfl ?_
    refine ev_callS (cl_isFlag) ok_X11_isFlag ml_X11_161 rfl rfl (Nat.le_of_ble_eq_true rfl) dX11_eliminated_1 (kI ?_)
    refine ev_if_eqN 22 dX11_eliminated_4 (by decide) (by omega) (fun c4 => ?_) (fun c4 => ?_)
    · refine ev_iconst (-1) dX11_eliminated_22 rfl ?_
      refine ev_iret dX11_eliminated_23 rfl ?_
      exact ⟨rfl, same.rf⟩
    · omega
theorem cl_isChordalC {n N : Nat} {x : Int32} (g : gC h n N) (ok : gOK n N) : Cl G (d + 4) M_X11_isChordal [.ref 0, .int x] h (fun rv h' => rv = some (.int (aIn x 2 (fun c => nI (b01 ((elX n N c).length = n))))) ∧ same (fun k => k ≠ 2 ∧ k ≠ 3) h h') := by
  have hn := ok.2.1
  by_cases hx : inR x 2
  · obtain ⟨j, hj, rfl⟩ := hx
    have q1 := b01_t (show inR (nI j) 2 from ⟨j, hj, rfl⟩)
    have hl := elX_len (N := N) (c := j) hn
    rw [aIn_t hj (by omega)]
    refine ev_start 0 (lv := [some (.ref 0), some (.int (nI j))]) rfl (by decide) (Nat.le_of_ble_eq_true rfl) ?_
    refine ev_iload_n dX11_isChordal_0 rfl ?_
    refine ev_callS (cl_isFlag) ok_X11_isFlag ml_X11_161 rfl rfl (Nat.le_of_ble_eq_true rfl) dX11_isChordal_1 (kI ?_)
    refine ev_if_neN 9 dX11_isChordal_4 (by decide) (by omega) (fun c4 => ?_) (fun c4 => ?_)
    · refine ev_aload_n dX11_isChordal_9 rfl ?_
      refine ev_getR fl_X11_14 rfl rfl dX11_isChordal_10 ?_
      refine ev_iload_n dX11_isChordal_13 rfl ?_
      refine ev_callV (cl_elimination g ok (by omega)) ok_X1_elimination ml_X11_164 rfl rfl rfl rfl (Nat.le_of_ble_eq_true rfl) dX11_isChordal_14 ?_
      rintro rv h1 qq
      obtain ⟨rfl, sm, r1⟩ := el_C qq
      refine ev_getIv (r1.1) fl_X11_148 rfl rfl dX11_isChordal_17 ?_
      refine ev_aload_n dX11_isChordal_20 rfl ?_
      refine ev_getR fl_X11_14 rfl rfl dX11_isChordal_21 ?_
      refine ev_getIv ((show h1.1 1 0 = nI n by rw [(sm 1 (by decide)).1]; exact g.1)) fl_X11_78 rfl rfl dX11_isChordal_24 ?_
      refine ev_icmp_neN 34 dX11_isChordal_27 (by decide) (by omega) (by omega) (fun c27 => ?_) (fun c27 => ?_)
      · refine ev_iconst (nI 0) dX11_isChordal_34 rfl ?_
        refine ev_iret dX11_isChordal_35 rfl ?_
        exact ⟨by rw [b01_f c27], sm⟩
      · refine ev_iconst (nI 1) dX11_isChordal_30 rfl ?_
        refine ev_goto 35 dX11_isChordal_31 (by decide) ?_
        refine ev_iret dX11_isChordal_35 rfl ?_
        exact ⟨by rw [b01_t (show (elX n N j).length = n by omega)], sm⟩
    · omega
  · have q1 := b01_f hx
    rw [aIn_f hx]
    refine ev_start 0 (lv := [some (.ref 0), some (.int x)]) rfl (by decide) (Nat.le_of_ble_eq_true rfl) ?_
    refine ev_iload_n dX11_isChordal_0 rfl ?_
    refine ev_callS (cl_isFlag) ok_X11_isFlag ml_X11_161 rfl rfl (Nat.le_of_ble_eq_true rfl) dX11_isChordal_1 (kI ?_)
    refine ev_if_neN 9 dX11_isChordal_4 (by decide) (by omega) (fun c4 => ?_) (fun c4 => ?_)
    · omega
    · refine ev_iconst (-1) dX11_isChordal_7 rfl ?_
      refine ev_iret dX11_isChordal_8 rfl ?_
      exact ⟨rfl, same.rf⟩
theorem rg_flag {x : Int32} : rg x 0 1 ↔ inR x 2 := ⟨fun ⟨j, _, b, c⟩ => ⟨j, by omega, c⟩, fun ⟨j, b, c⟩ => ⟨j, by omega, by omega, c⟩⟩
theorem cl_eliminationLengthM {n N : Nat} {x : Int32} (g : gM h n N) (ok : gOK n N) (c : cacheM h n N) : Cl G (d + 4) M_X12_eliminationLength [.ref 67, .int x] h (fun rv h' => rv = some (.int (aIn x 2 (fun c => nI (elX n N c).length))) ∧ ms h h' ∧ cacheM h' n N) := by
  by_cases hx : inR x 2
  · have q1 := b01_t (rg_flag.mpr hx)
    obtain ⟨j, hj, rfl⟩ := hx
    rw [aIn_t hj (by omega)]
    refine ev_start 0 (lv := [some (.ref 67), some (.int (nI j))]) rfl (by decide) (Nat.le_of_ble_eq_true rfl) ?_
    refine ev_iload_n dX12_eliminationLength_0 rfl ?_
    refine ev_i2l dX12_eliminationLength_1 rfl ?_
    refine ev_lconst (lN 0) dX12_eliminationLength_2 rfl ?_
    refine ev_lconst (lN 1) dX12_eliminationLength_3 rfl ?_
    refine ev_callS (cl_btw (a := 0) (b := 1) rfl rfl (by decide) (by decide)) ok_X12_isBetween ml_X12_79 rfl rfl (Nat.le_of_ble_eq_true rfl) dX12_eliminationLength_4 (kI ?_)
    refine ev_if_neN 12 dX12_eliminationLength_7 (by decide) (by omega) (fun c7 => ?_) (fun c7 => ?_)
    · refine ev_aload_n dX12_eliminationLength_12 rfl ?_
      refine ev_iload_n dX12_eliminationLength_13 rfl ?_
      refine ev_callV (cl_eliminate g ok (eE_ok n N j) (by omega)) ok_X12_eliminate ml_X12_156 rfl rfl rfl rfl (Nat.le_of_ble_eq_true rfl) dX12_eliminationLength_14 ?_
      rintro rv h1 qq
      obtain ⟨rfl, sm, s1, s2, r1, r2⟩ := el_M qq
      refine ev_aload_n dX12_eliminationLength_17 rfl ?_
      refine ev_getIv (r1) fl_X12_150 rfl rfl dX12_eliminationLength_18 ?_
      refine ev_iret dX12_eliminationLength_21 rfl ?_
      exact ⟨rfl, sm, cacheM_el c s1 s2⟩
    · omega
  · have q1 := b01_f (fun z => hx (rg_flag.mp z))
    rw [aIn_f hx]
    refine ev_start 0 (lv := [some (.ref 67), some (.int x)]) rfl (by decide) (Nat.le_of_ble_eq_true rfl) ?_
    refine ev_iload_n dX12_eliminationLength_0 rfl ?_
    refine ev_i2l dX12_eliminationLength_1 rfl ?_
    refine ev_lconst (lN 0) dX12_eliminationLength_2 rfl ?_
    refine ev_lconst (lN 1) dX12_eliminationLength_3 rfl ?_
    refine ev_callS (cl_btw (a := 0) (b := 1) rfl rfl (by decide) (by decide)) ok_X12_isBetween ml_X12_79 rfl rfl (Nat.le_of_ble_eq_true rfl) dX12_eliminationLength_4 (kI ?_)
    refine ev_if_neN 12 dX12_eliminationLength_7 (by decide) (by omega) (fun c7 => ?_) (fun c7 => ?_)
    · omega
    · refine ev_iconst (-1) dX12_eliminationLength_10 rfl ?_
      refine ev_iret dX12_eliminationLength_11 rfl ?_
      exact ⟨rfl, mod.rf, c⟩
theorem cl_eliminatedM {n N : Nat} {x y : Int32} (g : gM h n N) (ok : gOK n N) (c : cacheM h n N) : Cl G (d + 4) M_X12_eliminated [.ref 67, .int x, .int y] h (fun rv h' => rv = some (.int (aIn x 2 (fun c => itL (elX n N c) y))) ∧ ms h h' ∧ cacheM h' n N) := by
  have hn := ok.2.1
  by_cases hx : inR x 2
  · have q1 := b01_t (rg_flag.mpr hx)
    obtain ⟨j, hj, rfl⟩ := hx
    have hl := elX_len (N := N) (c := j) hn
    rw [aIn_t hj (by omega)]
    by_cases hy : inR y (elX n N j).length
    · obtain ⟨i, hi, rfl⟩ := hy
      rw [show itL (elX n N j) (nI i) = nI ((elX n N j).getD i 0) from itemE_in hi (by omega)]
      refine ev_start 0 (lv := [some (.ref 67), some (.int (nI j)), some (.int (nI i))]) rfl (by decide) (Nat.le_of_ble_eq_true rfl) ?_
      refine ev_iload_n dX12_eliminated_0 rfl ?_
      refine ev_i2l dX12_eliminated_1 rfl ?_
      refine ev_lconst (lN 0) dX12_eliminated_2 rfl ?_
      refine ev_lconst (lN 1) dX12_eliminated_3 rfl ?_
      refine ev_callS (cl_btw (a := 0) (b := 1) rfl rfl (by decide) (by decide)) ok_X12_isBetween ml_X12_79 rfl rfl (Nat.le_of_ble_eq_true rfl) dX12_eliminated_4 (kI ?_)
      refine ev_if_eqN 14 dX12_eliminated_7 (by decide) (by omega) (fun c7 => ?_) (fun c7 => ?_)
      · omega
      · refine ev_iload_n dX12_eliminated_10 rfl ?_
        refine ev_if_geN 16 dX12_eliminated_11 (by decide) (by omega) (fun c11 => ?_) (fun c11 => ?_)
        · refine ev_aload_n dX12_eliminated_16 rfl ?_
          refine ev_iload_n dX12_eliminated_17 rfl ?_
          refine ev_callV (cl_eliminate g ok (eE_ok n N j) (by omega)) ok_X12_eliminate ml_X12_156 rfl rfl rfl rfl (Nat.le_of_ble_eq_true rfl) dX12_eliminated_18 ?_
          rintro rv h1 qq
          obtain ⟨rfl, sm, s1, s2, r1, r2⟩ := el_M qq
          refine ev_iload_n dX12_eliminated_21 rfl ?_
          refine ev_aload_n dX12_eliminated_22 rfl ?_
          refine ev_getIv (r1) fl_X12_150 rfl rfl dX12_eliminated_23 ?_
          refine ev_icmp_geN 38 dX12_eliminated_26 (by decide) (by omega) (by omega) (fun c26 => ?_) (fun c26 => ?_)
          · omega
          · refine ev_aload_n dX12_eliminated_29 rfl ?_
            refine ev_getR fl_X12_38 rfl rfl dX12_eliminated_30 ?_
            refine ev_iload_n dX12_eliminated_33 rfl ?_
            refine ev_ialdv (r2 i hi) rfl dX12_eliminated_34 (by omega) (by omega) ?_
            refine ev_goto 40 dX12_eliminated_35 (by decide) ?_
            refine ev_iret dX12_eliminated_40 rfl ?_
            exact ⟨rfl, sm, cacheM_el c s1 s2⟩
        · exact c11.elim
    · skip
      refine ev_start 0 (lv := [some (.ref 67), some (.int (nI j)), some (.int y)]) rfl (by decide) (Nat.le_of_ble_eq_true rfl) ?_
      refine ev_iload_n dX12_eliminated_0 rfl ?_
      refine ev_i2l dX12_eliminated_1 rfl ?_
      refine ev_lconst (lN 0) dX12_eliminated_2 rfl ?_
      refine ev_lconst (lN 1) dX12_eliminated_3 rfl ?_
      refine ev_callS (cl_btw (a := 0) (b := 1) rfl rfl (by decide) (by decide)) ok_X12_isBetween ml_X12_79 rfl rfl (Nat.le_of_ble_eq_true rfl) dX12_eliminated_4 (kI ?_)
      refine ev_if_eqN 14 dX12_eliminated_7 (by decide) (by omega) (fun c7 => ?_) (fun c7 => ?_)
      · omega
      · refine ev_iload_n dX12_eliminated_10 rfl ?_
        refine ev_if_ge 16 dX12_eliminated_11 (by decide) (fun c11 => ?_) (fun c11 => ?_)
        · refine ev_aload_n dX12_eliminated_16 rfl ?_
          refine ev_iload_n dX12_eliminated_17 rfl ?_
          refine ev_callV (cl_eliminate g ok (eE_ok n N j) (by omega)) ok_X12_eliminate ml_X12_156 rfl rfl rfl rfl (Nat.le_of_ble_eq_true rfl) dX12_eliminated_18 ?_
          rintro rv h1 qq
          obtain ⟨rfl, sm, s1, s2, r1, r2⟩ := el_M qq
          refine ev_iload_n dX12_eliminated_21 rfl ?_
          refine ev_aload_n dX12_eliminated_22 rfl ?_
          refine ev_getIv (r1) fl_X12_150 rfl rfl dX12_eliminated_23 ?_
          refine ev_icmp_ge 38 dX12_eliminated_26 (by decide) (fun c26 => ?_) (fun c26 => ?_)
          · refine ev_bipush (-2) dX12_eliminated_38 rfl ?_
            refine ev_iret dX12_eliminated_40 rfl ?_
            exact ⟨by rw [show itL (elX n N j) y = -2 from itemE_out (Int32.not_lt.mpr c11) (Int32.not_lt.mpr c26)], sm, cacheM_el c s1 s2⟩
          · exact absurd (inR_of (by omega) (Int32.not_lt.mpr c11) c26) hy
        · refine ev_iconst (-1) dX12_eliminated_14 rfl ?_
          refine ev_iret dX12_eliminated_15 rfl ?_
          exact ⟨by rw [show itL (elX n N j) y = -1 from itemE_neg (Int32.not_le.mp c11)], mod.rf, c⟩
  · have q1 := b01_f (fun z => hx (rg_flag.mp z))
    rw [aIn_f hx]
    refine ev_start 0 (lv := [some (.ref 67), some (.int x), some (.int y)]) rfl (by decide) (Nat.le_of_ble_eq_true rfl) ?_
    refine ev_iload_n dX12_eliminated_0 rfl ?_
    refine ev_i2l dX12_eliminated_1 rfl ?_
    refine ev_lconst (lN 0) dX12_eliminated_2 rfl ?_
    refine ev_lconst (lN 1) dX12_eliminated_3 rfl ?_
    refine ev_callS (cl_btw (a := 0) (b := 1) rfl rfl (by decide) (by decide)) ok_X12_isBetween ml_X12_79 rfl rfl (Nat.le_of_ble_eq_true rfl) dX12_eliminated_4 (kI ?_)
    refine ev_if_eqN 14 dX12_eliminated_7 (by decide) (by omega) (fun c7 => ?_) (fun c7 => ?_)
    · refine ev_iconst (-1) dX12_eliminated_14 rfl ?_
      refine ev_iret dX12_eliminated_15 rfl ?_
      exact ⟨rfl, mod.rf, c⟩
    · omega
theorem cl_isChordalM {n N : Nat} {x : Int32} (g : gM h n N) (ok : gOK n N) (c : cacheM h n N) : Cl G (d + 4) M_X12_isChordal [.ref 67, .int x] h (fun rv h' => rv = some (.int (aIn x 2 (fun c => nI (b01 ((elX n N c).length = n))))) ∧ ms h h' ∧ cacheM h' n N) := by
  have hn := ok.2.1
  by_cases hx : inR x 2
  · have q1 := b01_t (rg_flag.mpr hx)
    obtain ⟨j, hj, rfl⟩ := hx
    have hl := elX_len (N := N) (c := j) hn
    rw [aIn_t hj (by omega)]
    refine ev_start 0 (lv := [some (.ref 67), some (.int (nI j))]) rfl (by decide) (Nat.le_of_ble_eq_true rfl) ?_
    refine ev_iload_n dX12_isChordal_0 rfl ?_
    refine ev_i2l dX12_isChordal_1 rfl ?_
    refine ev_lconst (lN 0) dX12_isChordal_2 rfl ?_
    refine ev_lconst (lN 1) dX12_isChordal_3 rfl ?_
    refine ev_callS (cl_btw (a := 0) (b := 1) rfl rfl (by decide) (by decide)) ok_X12_isBetween ml_X12_79 rfl rfl (Nat.le_of_ble_eq_true rfl) dX12_isChordal_4 (kI ?_)
    refine ev_if_neN 12 dX12_isChordal_7 (by decide) (by omega) (fun c7 => ?_) (fun c7 => ?_)
    · refine ev_aload_n dX12_isChordal_12 rfl ?_
      refine ev_iload_n dX12_isChordal_13 rfl ?_
      refine ev_callV (cl_eliminate g ok (eE_ok n N j) (by omega)) ok_X12_eliminate ml_X12_156 rfl rfl rfl rfl (Nat.le_of_ble_eq_true rfl) dX12_isChordal_14 ?_
      rintro rv h1 qq
      obtain ⟨rfl, sm, s1, s2, r1, r2⟩ := el_M qq
      refine ev_aload_n dX12_isChordal_17 rfl ?_
      refine ev_getIv (r1) fl_X12_150 rfl rfl dX12_isChordal_18 ?_
      refine ev_aload_n dX12_isChordal_21 rfl ?_
      refine ev_getIv ((show h1.1 67 0 = nI n by rw [s2 0 (by decide)]; exact g.1)) fl_X12_9 rfl rfl dX12_isChordal_22 ?_
      refine ev_icmp_neN 32 dX12_isChordal_25 (by decide) (by omega) (by omega) (fun c25 => ?_) (fun c25 => ?_)
      · refine ev_iconst (nI 0) dX12_isChordal_32 rfl ?_
        refine ev_iret dX12_isChordal_33 rfl ?_
        exact ⟨by rw [b01_f c25], sm, cacheM_el c s1 s2⟩
      · refine ev_iconst (nI 1) dX12_isChordal_28 rfl ?_
        refine ev_goto 33 dX12_isChordal_29 (by decide) ?_
        refine ev_iret dX12_isChordal_33 rfl ?_
        exact ⟨by rw [b01_t (show (elX n N j).length = n by omega)], sm, cacheM_el c s1 s2⟩
    · omega
  · have q1 := b01_f (fun z => hx (rg_flag.mp z))
    rw [aIn_f hx]
    refine ev_start 0 (lv := [some (.ref 67), some (.int x)]) rfl (by decide) (Nat.le_of_ble_eq_true rfl) ?_
    refine ev_iload_n dX12_isChordal_0 rfl ?_
    refine ev_i2l dX12_isChordal_1 rfl ?_
    refine ev_lconst (lN 0) dX12_isChordal_2 rfl ?_
    refine ev_lconst (lN 1) dX12_isChordal_3 rfl ?_
    refine ev_callS (cl_btw (a := 0) (b := 1) rfl rfl (by decide) (by decide)) ok_X12_isBetween ml_X12_79 rfl rfl (Nat.le_of_ble_eq_true rfl) dX12_isChordal_4 (kI ?_)
    refine ev_if_neN 12 dX12_isChordal_7 (by decide) (by omega) (fun c7 => ?_) (fun c7 => ?_)
    · omega
    · refine ev_iconst (-1) dX12_isChordal_10 rfl ?_
      refine ev_iret dX12_isChordal_11 rfl ?_
      exact ⟨rfl, mod.rf, c⟩
end Q2
