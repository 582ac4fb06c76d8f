section LQB
variable {G : MG} {d : Nat} {h : MH}
theorem ms_76 {h : MH} {f : Nat → Int32} : ms h (m_putA h 76 f) := ⟨fun k _ hk => ⟨ma_k (fun e => hk (by simp [scrP, e])), rfl⟩, fun j _ => by rw [ma_k (by decide)]⟩
theorem cacheM_76 {h : MH} {f : Nat → Int32} {n N : Nat} (c : cacheM h n N) : cacheM (m_putA h 76 f) n N := by
  rcases c with q | ⟨w1, w2, w3, w4⟩
  · left; rw [ma_k (by decide)]; exact q
  · right
    exact ⟨by rw [ma_k (by decide)]; exact w1, ⟨by rw [ma_k (by decide)]; exact w2.1, by rw [ma_k (by decide)]; exact w2.2⟩, by rw [ma_k (by decide)]; exact w3, by rw [ma_k (by decide)]; exact w4⟩
theorem cl_orderError {n N : Nat} {x y z : Int32} (gm : gM h n N) (ok : gOK n N) (c : cacheM h n N) : Cl G (d + 5) M_X12_orderError [.ref 67, .int x, .int y, .int z] h (fun rv h' => ∃ r, rv = some (.int r) ∧ (ms h h' ∧ cacheM h' n N) ∧ erP n N x y z r (fun s S => gLM h' (ordL n N s S))) := by
  have hn := ok.2.1
  by_cases hx : rg x 1 3
  · have q1 := b01_t hx
    obtain ⟨k, hk, rfl⟩ := rg_p hx
    have y1 := b01_lt (rdO n y ≠ none)
    refine ev_start 0 (lv := [some (.ref 67), some (.int (nI (k + 1))), some (.int y), some (.int z)]) rfl (by decide) (Nat.le_of_ble_eq_true rfl) ?_
    refine ev_iload_n dX12_orderError_0 rfl ?_
    refine ev_callS (cl_isPowerM) ok_X12_isPower ml_X12_185 rfl rfl (Nat.le_of_ble_eq_true rfl) dX12_orderError_1 (kI ?_)
    refine ev_if_eqN 19 dX12_orderError_4 (by decide) (by omega) (fun c4 => ?_) (fun c4 => ?_)
    · omega
    · refine ev_aload_n dX12_orderError_7 rfl ?_
      refine ev_iload_n dX12_orderError_8 rfl ?_
      refine ev_callV (cl_readOrder gm ok) ok_X12_readOrder ml_X12_214 rfl rfl rfl rfl (Nat.le_of_ble_eq_true rfl) dX12_orderError_9 ?_
      rintro rv h1 ⟨f, rfl, rfl, hf⟩
      refine ev_if_eqN 19 dX12_orderError_12 (by decide) (by omega) (fun c12 => ?_) (fun c12 => ?_)
      · refine ev_iconst (-1) dX12_orderError_19 rfl ?_
        refine ev_iret dX12_orderError_20 rfl ?_
        exact ⟨_, rfl, ⟨ms_76, cacheM_76 c⟩, Or.inl ⟨Or.inr (Or.inr (Classical.not_not.mp (b01_0.mp (show b01 (rdO n y ≠ none) = 0 by omega)))), rfl⟩⟩
      · obtain ⟨S, hS⟩ := Option.ne_none_iff_exists'.mp (b01_1.mp (show b01 (rdO n y ≠ none) = 1 by omega))
        have o := rdO_isO hS
        have ll := ordL_len (S := S) ok hk
        refine ev_iload_n dX12_orderError_15 rfl ?_
        refine ev_if_ge 21 dX12_orderError_16 (by decide) (fun c16 => ?_) (fun c16 => ?_)
        · refine ev_aload_n dX12_orderError_21 rfl ?_
          refine ev_iload_n dX12_orderError_22 rfl ?_
          refine ev_callV (cl_sortGenerators (gM_ms gm ms_76) ok (cacheM_76 c) (by omega) (by rw [ma_eq]; exact hf S hS) o) ok_X12_sortGenerators ml_X12_217 rfl rfl rfl rfl (Nat.le_of_ble_eq_true rfl) dX12_orderError_23 ?_
          rintro rv h2 ⟨rfl, m2, t2, l2⟩
          refine ev_iload_n dX12_orderError_26 rfl ?_
          refine ev_aload_n dX12_orderError_27 rfl ?_
          refine ev_getIv (l2.1) fl_X12_177 rfl rfl dX12_orderError_28 ?_
          refine ev_icmp_ge 38 dX12_orderError_31 (by decide) (fun c31 => ?_) (fun c31 => ?_)
          · refine ev_bipush (-2) dX12_orderError_38 rfl ?_
            refine ev_iret dX12_orderError_40 rfl ?_
            exact ⟨_, rfl, ⟨ms_76.tr (ms_gen m2), Or.inr t2⟩, Or.inr ⟨k, S, hk, rfl, hS, Int32.not_lt.mpr c16, l2, Or.inr ⟨inR_ge (by omega) c31, rfl⟩⟩⟩
          · refine ev_iconst (nI 0) dX12_orderError_34 rfl ?_
            refine ev_goto 40 dX12_orderError_35 (by decide) ?_
            refine ev_iret dX12_orderError_40 rfl ?_
            exact ⟨_, rfl, ⟨ms_76.tr (ms_gen m2), Or.inr t2⟩, Or.inr ⟨k, S, hk, rfl, hS, Int32.not_lt.mpr c16, l2, Or.inl ⟨inR_of (by omega) (Int32.not_lt.mpr c16) c31, rfl⟩⟩⟩
        · refine ev_iconst (-1) dX12_orderError_19 rfl ?_
          refine ev_iret dX12_orderError_20 rfl ?_
          exact ⟨_, rfl, ⟨ms_76, cacheM_76 c⟩, Or.inl ⟨Or.inl (Int32.not_le.mp c16), rfl⟩⟩
  · have q1 := b01_f hx
    refine ev_start 0 (lv := [some (.ref 67), some (.int x), some (.int y), some (.int z)]) rfl (by decide) (Nat.le_of_ble_eq_true rfl) ?_
    refine ev_iload_n dX12_orderError_0 rfl ?_
    refine ev_callS (cl_isPowerM) ok_X12_isPower ml_X12_185 rfl rfl (Nat.le_of_ble_eq_true rfl) dX12_orderError_1 (kI ?_)
    refine ev_if_eqN 19 dX12_orderError_4 (by decide) (by omega) (fun c4 => ?_) (fun c4 => ?_)
    · refine ev_iconst (-1) dX12_orderError_19 rfl ?_
      refine ev_iret dX12_orderError_20 rfl ?_
      exact ⟨_, rfl, ⟨mod.rf, c⟩, Or.inl ⟨Or.inr (Or.inl hx), rfl⟩⟩
    · omega
theorem cl_orderedGeneratorM {n N : Nat} {x y z : Int32} (gm : gM h n N) (ok : gOK n N) (c : cacheM h n N) : Cl G (d + 6) M_X12_orderedGenerator [.ref 67, .int x, .int y, .int z] h (fun rv h' => rv = some (.int (aOrd n N x y z (fun O j => nI (O.getD j 0)))) ∧ ms h h' ∧ cacheM h' n N) := by
  have hn := ok.2.1
  have good : ∀ (k : Nat) (S : List Nat) (j : Nat) (h1 : MH), k < 3 → gLM h1 (ordL n N (k + 1) S) → j < (ordL n N (k + 1) S).length → rdO n y = some S → (ms h h1 ∧ cacheM h1 n N) → Ev G (d + 6) M_X12_orderedGenerator 19 [some (.ref 67), some (.int (nI (k + 1))), some (.int y), some (.int (nI j)), some (.int 0)] [] h1 (fun rv h' => rv = some (.int (aOrd n N (nI (k + 1)) y (nI j) (fun O j => nI (O.getD j 0)))) ∧ ms h h' ∧ cacheM h' n N) := by
    intro k S j h1 hk hr hj hS lf
    have ll := ordL_len (S := S) ok hk
    have yl := b01_lt (Lin n (ordL n N (k + 1) S) j)
    rw [aOrd_ok ok hk hS hj]
    refine ev_aload_n dX12_orderedGenerator_19 rfl ?_
    refine ev_getR fl_X12_41 rfl rfl dX12_orderedGenerator_20 ?_
    refine ev_iload_n dX12_orderedGenerator_23 rfl ?_
    refine ev_ialdv (hr.2 j hj) rfl dX12_orderedGenerator_24 (by omega) (by omega) ?_
    refine ev_iret dX12_orderedGenerator_25 rfl ?_
    exact ⟨rfl, lf⟩
  refine ev_start 1 (lv := [some (.ref 67), some (.int x), some (.int y), some (.int z), none]) rfl (by decide) (Nat.le_of_ble_eq_true rfl) ?_
  refine ev_aload_n dX12_orderedGenerator_0 rfl ?_
  refine ev_iload_n dX12_orderedGenerator_1 rfl ?_
  refine ev_iload_n dX12_orderedGenerator_2 rfl ?_
  refine ev_iload_n dX12_orderedGenerator_3 rfl ?_
  refine ev_callV (cl_orderError gm ok c) ok_X12_orderError ml_X12_220 rfl rfl rfl rfl (Nat.le_of_ble_eq_true rfl) dX12_orderedGenerator_4 ?_
  rintro rv h1 ⟨r, rfl, lf, e⟩
  refine ev_ist4 dX12_orderedGenerator_7 (by decide) rfl ?_
  refine ev_iload dX12_orderedGenerator_9 rfl ?_
  refine ev_if_eq 19 dX12_orderedGenerator_11 (by decide) (fun c11 => ?_) (fun c11 => ?_)
  · obtain ⟨k, S, j, hk, rfl, hS, hr, hj, rfl⟩ := erP_ok e c11
    rw [c11]
    exact good k S j h1 hk hr hj hS lf
  · refine ev_iload dX12_orderedGenerator_14 rfl ?_
    refine ev_goto 25 dX12_orderedGenerator_16 (by decide) ?_
    refine ev_iret dX12_orderedGenerator_25 rfl ?_
    exact ⟨by rw [erP_bad e c11], lf⟩
theorem cl_colonVariablesM {n N : Nat} {x y z : Int32} (gm : gM h n N) (ok : gOK n N) (c : cacheM h n N) : Cl G (d + 6) M_X12_colonVariables [.ref 67, .int x, .int y, .int z] h (fun rv h' => rv = some (.int (aOrd n N x y z (fun O j => nI (cSt n O j)))) ∧ ms h h' ∧ cacheM h' n N) := by
  have hn := ok.2.1
  have good : ∀ (k : Nat) (S : List Nat) (j : Nat) (h1 : MH), k < 3 → gLM h1 (ordL n N (k + 1) S) → j < (ordL n N (k + 1) S).length → rdO n y = some S → (ms h h1 ∧ cacheM h1 n N) → Ev G (d + 6) M_X12_colonVariables 19 [some (.ref 67), some (.int (nI (k + 1))), some (.int y), some (.int (nI j)), some (.int 0)] [] h1 (fun rv h' => rv = some (.int (aOrd n N (nI (k + 1)) y (nI j) (fun O j => nI (cSt n O j)))) ∧ ms h h' ∧ cacheM h' n N) := by
    intro k S j h1 hk hr hj hS lf
    have ll := ordL_len (S := S) ok hk
    have yl := b01_lt (Lin n (ordL n N (k + 1) S) j)
    rw [aOrd_ok ok hk hS hj]
    refine ev_aload_n dX12_colonVariables_19 rfl ?_
    refine ev_iload_n dX12_colonVariables_20 rfl ?_
    refine ev_callV (cl_colonSet (gM_ms gm lf.1) hn hr.2 (by omega) (fun x hx => ordL_b ok hx) hj) ok_X12_colonSet ml_X12_211 rfl rfl rfl rfl (Nat.le_of_ble_eq_true rfl) dX12_colonVariables_21 (kI ?_)
    refine ev_iret dX12_colonVariables_24 rfl ?_
    exact ⟨rfl, lf⟩
  refine ev_start 1 (lv := [some (.ref 67), some (.int x), some (.int y), some (.int z), none]) rfl (by decide) (Nat.le_of_ble_eq_true rfl) ?_
  refine ev_aload_n dX12_colonVariables_0 rfl ?_
  refine ev_iload_n dX12_colonVariables_1 rfl ?_
  refine ev_iload_n dX12_colonVariables_2 rfl ?_
  refine ev_iload_n dX12_colonVariables_3 rfl ?_
  refine ev_callV (cl_orderError gm ok c) ok_X12_orderError ml_X12_220 rfl rfl rfl rfl (Nat.le_of_ble_eq_true rfl) dX12_colonVariables_4 ?_
  rintro rv h1 ⟨r, rfl, lf, e⟩
  refine ev_ist4 dX12_colonVariables_7 (by decide) rfl ?_
  refine ev_iload dX12_colonVariables_9 rfl ?_
  refine ev_if_eq 19 dX12_colonVariables_11 (by decide) (fun c11 => ?_) (fun c11 => ?_)
  · obtain ⟨k, S, j, hk, rfl, hS, hr, hj, rfl⟩ := erP_ok e c11
    rw [c11]
    exact good k S j h1 hk hr hj hS lf
  · refine ev_iload dX12_colonVariables_14 rfl ?_
    refine ev_goto 24 dX12_colonVariables_16 (by decide) ?_
    refine ev_iret dX12_colonVariables_24 rfl ?_
    exact ⟨by rw [erP_bad e c11], lf⟩
theorem cl_isLinearStepM {n N : Nat} {x y z : Int32} (gm : gM h n N) (ok : gOK n N) (c : cacheM h n N) : Cl G (d + 6) M_X12_isLinearStep [.ref 67, .int x, .int y, .int z] h (fun rv h' => rv = some (.int (aOrd n N x y z (fun O j => nI (b01 (Lin n O j))))) ∧ ms h h' ∧ cacheM h' n N) := by
  have hn := ok.2.1
  have good : ∀ (k : Nat) (S : List Nat) (j : Nat) (h1 : MH), k < 3 → gLM h1 (ordL n N (k + 1) S) → j < (ordL n N (k + 1) S).length → rdO n y = some S → (ms h h1 ∧ cacheM h1 n N) → Ev G (d + 6) M_X12_isLinearStep 19 [some (.ref 67), some (.int (nI (k + 1))), some (.int y), some (.int (nI j)), some (.int 0)] [] h1 (fun rv h' => rv = some (.int (aOrd n N (nI (k + 1)) y (nI j) (fun O j => nI (b01 (Lin n O j))))) ∧ ms h h' ∧ cacheM h' n N) := by
    intro k S j h1 hk hr hj hS lf
    have ll := ordL_len (S := S) ok hk
    have yl := b01_lt (Lin n (ordL n N (k + 1) S) j)
    rw [aOrd_ok ok hk hS hj]
    refine ev_aload_n dX12_isLinearStep_19 rfl ?_
    refine ev_iload_n dX12_isLinearStep_20 rfl ?_
    refine ev_callV (cl_isLinear (gM_ms gm lf.1) hn hr.2 (by omega) (fun x hx => ordL_b ok hx) hj) ok_X12_isLinear ml_X12_224 rfl rfl rfl rfl (Nat.le_of_ble_eq_true rfl) dX12_isLinearStep_21 (kI ?_)
    refine ev_if_eqN 31 dX12_isLinearStep_24 (by decide) (by omega) (fun c24 => ?_) (fun c24 => ?_)
    · refine ev_iconst (nI 0) dX12_isLinearStep_31 rfl ?_
      refine ev_iret dX12_isLinearStep_32 rfl ?_
      exact ⟨by rw [c24], lf⟩
    · refine ev_iconst (nI 1) dX12_isLinearStep_27 rfl ?_
      refine ev_goto 32 dX12_isLinearStep_28 (by decide) ?_
      refine ev_iret dX12_isLinearStep_32 rfl ?_
      exact ⟨by rw [show b01 (Lin n (ordL n N (k + 1) S) j) = 1 by omega], lf⟩
  refine ev_start 1 (lv := [some (.ref 67), some (.int x), some (.int y), some (.int z), none]) rfl (by decide) (Nat.le_of_ble_eq_true rfl) ?_
  refine ev_aload_n dX12_isLinearStep_0 rfl ?_
  refine ev_iload_n dX12_isLinearStep_1 rfl ?_
  refine ev_iload_n dX12_isLinearStep_2 rfl ?_
  refine ev_iload_n dX12_isLinearStep_3 rfl ?_
  refine ev_callV (cl_orderError gm ok c) ok_X12_orderError ml_X12_220 rfl rfl rfl rfl (Nat.le_of_ble_eq_true rfl) dX12_isLinearStep_4 ?_
  rintro rv h1 ⟨r, rfl, lf, e⟩
  refine ev_ist4 dX12_isLinearStep_7 (by decide) rfl ?_
  refine ev_iload dX12_isLinearStep_9 rfl ?_
  refine ev_if_eq 19 dX12_isLinearStep_11 (by decide) (fun c11 => ?_) (fun c11 => ?_)
  · obtain ⟨k, S, j, hk, rfl, hS, hr, hj, rfl⟩ := erP_ok e c11
    rw [c11]
    exact good k S j h1 hk hr hj hS lf
  · refine ev_iload dX12_isLinearStep_14 rfl ?_
    refine ev_goto 32 dX12_isLinearStep_16 (by decide) ?_
    refine ev_iret dX12_isLinearStep_32 rfl ?_
    exact ⟨by rw [erP_bad e c11], lf⟩
noncomputable def aFN (n N : Nat) (x y : Int32) : Int32 := aRg x 1 3 (fun s => match rdO n y with
    | none => -1
    | some S => fnd (fun i => ¬ Lin n (ordL n N s S) i) (ordL n N s S).length)
theorem aFN_p {n N : Nat} {x y : Int32} (hx : ¬ rg x 1 3) : aFN n N x y = -1 := aRg_f hx
theorem aFN_o {n N k : Nat} {y : Int32} (hk : k < 3) (hy : rdO n y = none) : aFN n N (nI (k + 1)) y = -1 := by
  unfold aFN; rw [aRg_p hk, hy]
theorem aFN_t {n N k : Nat} {y : Int32} {S : List Nat} (hk : k < 3) (hy : rdO n y = some S) : aFN n N (nI (k + 1)) y = fnd (fun i => ¬ Lin n (ordL n N (k + 1) S) i) (ordL n N (k + 1) S).length := by
  unfold aFN; rw [aRg_p hk, hy]
theorem cl_firstNonLinearStepC {n N : Nat} {x y : Int32} (gc : gC h n N) (ok : gOK n N) (c : cI h n N) (lq : lqC h n N) : Cl G (d + 5) M_X11_firstNonLinearStep [.ref 0, .int x, .int y] h (fun rv h' => rv = some (.int (aFN n N x y)) ∧ lqf n N h h') := by
  by_cases hx : rg x 1 3
  · have q1 := b01_t hx
    obtain ⟨k, hk, rfl⟩ := rg_p hx
    have y1 := b01_lt (rdO n y ≠ none)
    refine ev_start 0 (lv := [some (.ref 0), some (.int (nI (k + 1))), some (.int y)]) rfl (by decide) (Nat.le_of_ble_eq_true rfl) ?_
    refine ev_iload_n dX11_firstNonLinearStep_0 rfl ?_
    refine ev_callS (cl_isPowerC) ok_X11_isPower ml_X11_188 rfl rfl (Nat.le_of_ble_eq_true rfl) dX11_firstNonLinearStep_1 (kI ?_)
    refine ev_if_eqN 19 dX11_firstNonLinearStep_4 (by decide) (by omega) (fun c4 => ?_) (fun c4 => ?_)
    · omega
    · refine ev_aload_n dX11_firstNonLinearStep_7 rfl ?_
      refine ev_getR fl_X11_32 rfl rfl dX11_firstNonLinearStep_8 ?_
      refine ev_iload_n dX11_firstNonLinearStep_11 rfl ?_
      refine ev_iload_n dX11_firstNonLinearStep_12 rfl ?_
      refine ev_callV (cl_prepare gc ok c lq hk) ok_X4_prepare ml_X11_228 rfl rfl rfl rfl (Nat.le_of_ble_eq_true rfl) dX11_firstNonLinearStep_13 ?_
      rintro rv h1 ⟨rfl, s1, c1, l1, r1⟩
      refine ev_if_neN 21 dX11_firstNonLinearStep_16 (by decide) (by omega) (fun c16 => ?_) (fun c16 => ?_)
      · obtain ⟨S, hS⟩ := Option.ne_none_iff_exists'.mp (b01_1.mp (show b01 (rdO n y ≠ none) = 1 by omega))
        refine ev_aload_n dX11_firstNonLinearStep_21 rfl ?_
        refine ev_getR fl_X11_32 rfl rfl dX11_firstNonLinearStep_22 ?_
        refine ev_callV (cl_firstNonLinearC (gC_s gc s1) ok (r1 S hS) (by omega) (by omega)) ok_X4_firstNonLinear ml_X11_231 rfl rfl rfl rfl (Nat.le_of_ble_eq_true rfl) dX11_firstNonLinearStep_25 (kI ?_)
        refine ev_iret dX11_firstNonLinearStep_28 rfl ?_
        exact ⟨by rw [aFN_t hk hS]; rfl, s1, c1, l1⟩
      · refine ev_iconst (-1) dX11_firstNonLinearStep_19 rfl ?_
        refine ev_iret dX11_firstNonLinearStep_20 rfl ?_
        exact ⟨by rw [aFN_o hk (Classical.not_not.mp (b01_0.mp (show b01 (rdO n y ≠ none) = 0 by omega)))], s1, c1, l1⟩
  · have q1 := b01_f hx
    refine ev_start 0 (lv := [some (.ref 0), some (.int x), some (.int y)]) rfl (by decide) (Nat.le_of_ble_eq_true rfl) ?_
    refine ev_iload_n dX11_firstNonLinearStep_0 rfl ?_
    refine ev_callS (cl_isPowerC) ok_X11_isPower ml_X11_188 rfl rfl (Nat.le_of_ble_eq_true rfl) dX11_firstNonLinearStep_1 (kI ?_)
    refine ev_if_eqN 19 dX11_firstNonLinearStep_4 (by decide) (by omega) (fun c4 => ?_) (fun c4 => ?_)
    · refine ev_iconst (-1) dX11_firstNonLinearStep_19 rfl ?_
      refine ev_iret dX11_firstNonLinearStep_20 rfl ?_
      exact ⟨by rw [aFN_p hx], same.rf, c, lq⟩
    · omega
theorem erP_m1 {n N : Nat} {x y r : Int32} {R : Nat → List Nat → Prop} (e : erP n N x y (nI 0) r R) : (r = -1 ∧ aFN n N x y = -1) ∨ (¬ r = -1 ∧ ∃ k S, k < 3 ∧ x = nI (k + 1) ∧ rdO n y = some S ∧ R (k + 1) S) := by
  rcases e with ⟨q, rfl⟩ | ⟨k, S, hk, rfl, hS, hz, hR, ⟨_, rfl⟩ | ⟨_, rfl⟩⟩
  · left
    refine ⟨rfl, ?_⟩
    rcases q with q | q | q
    · exact absurd q (by decide)
    · exact aFN_p q
    · by_cases hx : rg x 1 3
      · obtain ⟨k, hk, rfl⟩ := rg_p hx
        exact aFN_o hk q
      · exact aFN_p hx
  · exact Or.inr ⟨by decide, k, S, hk, rfl, hS, hR⟩
  · exact Or.inr ⟨by decide, k, S, hk, rfl, hS, hR⟩
theorem cl_firstNonLinearStepM {n N : Nat} {x y : Int32} (gm : gM h n N) (ok : gOK n N) (c : cacheM h n N) : Cl G (d + 6) M_X12_firstNonLinearStep [.ref 67, .int x, .int y] h (fun rv h' => rv = some (.int (aFN n N x y)) ∧ ms h h' ∧ cacheM h' n N) := by
  have hn := ok.2.1
  have good : ∀ (k : Nat) (S : List Nat) (h1 : MH), k < 3 → gLM h1 (ordL n N (k + 1) S) → rdO n y = some S → (ms h h1 ∧ cacheM h1 n N) → Ev G (d + 6) M_X12_firstNonLinearStep 13 [some (.ref 67), some (.int (nI (k + 1))), some (.int y)] [] h1 (fun rv h' => rv = some (.int (aFN n N (nI (k + 1)) y)) ∧ ms h h' ∧ cacheM h' n N) := by
    intro k S h1 hk hr hS lf
    have ll := ordL_len (S := S) ok hk
    rw [aFN_t hk hS]
    refine ev_aload_n dX12_firstNonLinearStep_13 rfl ?_
    refine ev_callV (cl_firstNonLinearM (gM_ms gm lf.1) hn hr (by omega) (fun x hx => ordL_b ok hx)) ok_X12_firstNonLinear ml_X12_227 rfl rfl rfl rfl (Nat.le_of_ble_eq_true rfl) dX12_firstNonLinearStep_14 (kI ?_)
    refine ev_iret dX12_firstNonLinearStep_17 rfl ?_
    exact ⟨rfl, lf⟩
  refine ev_start 0 (lv := [some (.ref 67), some (.int x), some (.int y)]) rfl (by decide) (Nat.le_of_ble_eq_true rfl) ?_
  refine ev_aload_n dX12_firstNonLinearStep_0 rfl ?_
  refine ev_iload_n dX12_firstNonLinearStep_1 rfl ?_
  refine ev_iload_n dX12_firstNonLinearStep_2 rfl ?_
  refine ev_iconst (nI 0) dX12_firstNonLinearStep_3 rfl ?_
  refine ev_callV (cl_orderError gm ok c) ok_X12_orderError ml_X12_220 rfl rfl rfl rfl (Nat.le_of_ble_eq_true rfl) dX12_firstNonLinearStep_4 ?_
  rintro rv h1 ⟨r, rfl, lf, e⟩
  refine ev_iconst (-1) dX12_firstNonLinearStep_7 rfl ?_
  refine ev_icmp_ne 13 dX12_firstNonLinearStep_8 (by decide) (fun c8 => ?_) (fun c8 => ?_)
  · rcases erP_m1 e with ⟨z, _⟩ | ⟨_, k, S, hk, rfl, hS, hR⟩
    · exact absurd z c8
    · exact good k S h1 hk hR hS lf
  · refine ev_iconst (-1) dX12_firstNonLinearStep_11 rfl ?_
    refine ev_iret dX12_firstNonLinearStep_12 rfl ?_
    rcases erP_m1 e with ⟨_, z⟩ | ⟨z, _⟩
    · exact ⟨by rw [z], lf⟩
    · exact absurd c8 z
end LQB
