section BETTI2
variable {G : MG} {d : Nat} {h : MH}
noncomputable def aBt (n N : Nat) (x y z : Int32) : Int64 := @ite _ (rg x 1 3 ∧ rg z 0 7) (Classical.propDecidable _) (match rdO n y with
    | none => -9223372036854775808
    | some S => @ite _ (fnd (fun i => ¬ Lin n (ordL n N x.toNatClampNeg S) i) (ordL n N x.toNatClampNeg S).length = -2) (Classical.propDecidable _) (lN (bsum n (ordL n N x.toNatClampNeg S) z.toNatClampNeg (ordL n N x.toNatClampNeg S).length)) (-9223372036854775808)) (-9223372036854775808)
theorem aBt_b {n N : Nat} {x y z : Int32} (q : ¬ (rg x 1 3 ∧ rg z 0 7)) : aBt n N x y z = -9223372036854775808 := if_neg q
theorem aBt_o {n N : Nat} {x y z : Int32} (hy : rdO n y = none) : aBt n N x y z = -9223372036854775808 := by
  unfold aBt; rw [hy]; split <;> rfl
theorem aBt_t {n N k j : Nat} {y : Int32} {S : List Nat} (hk : k < 3) (hj : j < 8) (hy : rdO n y = some S) : aBt n N (nI (k + 1)) y (nI j) = @ite _ (fnd (fun i => ¬ Lin n (ordL n N (k + 1) S) i) (ordL n N (k + 1) S).length = -2) (Classical.propDecidable _) (lN (bsum n (ordL n N (k + 1) S) j (ordL n N (k + 1) S).length)) (-9223372036854775808) := by
  unfold aBt; rw [if_pos ⟨⟨k + 1, by omega, by omega, rfl⟩, ⟨j, by omega, by omega, rfl⟩⟩, hy, nI_clamp (by omega), nI_clamp (by omega)]
theorem cl_bettiNumberC {n N : Nat} {x y z : Int32} (gc : gC h n N) (ok : gOK n N) (c : cI h n N) (lq : lqC h n N) : Cl G (d + 5) M_X11_bettiNumber [.ref 0, .int x, .int y, .int z] h (fun rv h' => rv = some (.long (aBt n N x y z)) ∧ lqf n N h h') := by
  by_cases hx : rg x 1 3
  · have q1 := b01_t hx
    obtain ⟨k, hk, rfl⟩ := rg_p hx
    have y1 := b01_lt (rdO n y ≠ none)
    by_cases hz : rg z 0 7
    · obtain ⟨j, -, hj, rfl⟩ := hz
      refine ev_start 0 (lv := [some (.ref 0), some (.int (nI (k + 1))), some (.int y), some (.int (nI j))]) rfl (by decide) (Nat.le_of_ble_eq_true rfl) ?_
      refine ev_iload_n dX11_bettiNumber_0 rfl ?_
      refine ev_callS (cl_isPowerC) ok_X11_isPower ml_X11_188 rfl rfl (Nat.le_of_ble_eq_true rfl) dX11_bettiNumber_1 (kI ?_)
      refine ev_if_eqN 29 dX11_bettiNumber_4 (by decide) (by omega) (fun c4 => ?_) (fun c4 => ?_)
      · omega
      · refine ev_iload_n dX11_bettiNumber_7 rfl ?_
        refine ev_if_ltN 29 dX11_bettiNumber_8 (by decide) (by omega) (fun c8 => ?_) (fun c8 => ?_)
        · exact c8.elim
        · refine ev_iload_n dX11_bettiNumber_11 rfl ?_
          refine ev_bipush (nI 7) dX11_bettiNumber_12 rfl ?_
          refine ev_icmp_gtN 29 dX11_bettiNumber_14 (by decide) (by omega) (by omega) (fun c14 => ?_) (fun c14 => ?_)
          · omega
          · refine ev_aload_n dX11_bettiNumber_17 rfl ?_
            refine ev_getR fl_X11_32 rfl rfl dX11_bettiNumber_18 ?_
            refine ev_iload_n dX11_bettiNumber_21 rfl ?_
            refine ev_iload_n dX11_bettiNumber_22 rfl ?_
            refine ev_callV (cl_prepare gc ok c lq hk) ok_X4_prepare ml_X11_228 rfl rfl rfl rfl (Nat.le_of_ble_eq_true rfl) dX11_bettiNumber_23 ?_
            rintro rv h1 ⟨rfl, s1, c1, l1, r1⟩
            refine ev_if_neN 33 dX11_bettiNumber_26 (by decide) (by omega) (fun c26 => ?_) (fun c26 => ?_)
            · obtain ⟨S, hS⟩ := Option.ne_none_iff_exists'.mp (b01_1.mp (show b01 (rdO n y ≠ none) = 1 by omega))
              have rr := r1 S hS
              refine ev_aload_n dX11_bettiNumber_33 rfl ?_
              refine ev_getR fl_X11_32 rfl rfl dX11_bettiNumber_34 ?_
              refine ev_callV (cl_firstNonLinearC (gC_s gc s1) ok rr (by omega) (by omega)) ok_X4_firstNonLinear ml_X11_231 rfl rfl rfl rfl (Nat.le_of_ble_eq_true rfl) dX11_bettiNumber_37 (kI ?_)
              refine ev_bipush (-2) dX11_bettiNumber_40 rfl ?_
              refine ev_icmp_ne 56 dX11_bettiNumber_42 (by decide) (fun c42 => ?_) (fun c42 => ?_)
              · refine ev_ldc2 (-9223372036854775808) dX11_bettiNumber_56 kl_X11_234 ?_
                refine ev_lret dX11_bettiNumber_59 rfl ?_
                exact ⟨by rw [aBt_t hk (by omega) hS, if_neg (by unfold ordL; exact c42)], s1, c1, l1⟩
              · refine ev_aload_n dX11_bettiNumber_45 rfl ?_
                refine ev_getR fl_X11_32 rfl rfl dX11_bettiNumber_46 ?_
                refine ev_iload_n dX11_bettiNumber_49 rfl ?_
                refine ev_callV (cl_bettiSum (gC_s gc s1) ok rr (by omega) (by omega) (by omega)) ok_X4_bettiSum ml_X11_236 rfl rfl rfl rfl (Nat.le_of_ble_eq_true rfl) dX11_bettiNumber_50 (kL ?_)
                refine ev_goto 59 dX11_bettiNumber_53 (by decide) ?_
                refine ev_lret dX11_bettiNumber_59 rfl ?_
                exact ⟨by rw [aBt_t hk (by omega) hS, if_pos (by unfold ordL; exact c42)]; rfl, s1, c1, l1⟩
            · refine ev_ldc2 (-9223372036854775808) dX11_bettiNumber_29 kl_X11_234 ?_
              refine ev_lret dX11_bettiNumber_32 rfl ?_
              exact ⟨by rw [aBt_o (Classical.not_not.mp (b01_0.mp (show b01 (rdO n y ≠ none) = 0 by omega)))], s1, c1, l1⟩
    · skip
      refine ev_start 0 (lv := [some (.ref 0), some (.int (nI (k + 1))), some (.int y), some (.int z)]) rfl (by decide) (Nat.le_of_ble_eq_true rfl) ?_
      refine ev_iload_n dX11_bettiNumber_0 rfl ?_
      refine ev_callS (cl_isPowerC) ok_X11_isPower ml_X11_188 rfl rfl (Nat.le_of_ble_eq_true rfl) dX11_bettiNumber_1 (kI ?_)
      refine ev_if_eqN 29 dX11_bettiNumber_4 (by decide) (by omega) (fun c4 => ?_) (fun c4 => ?_)
      · omega
      · refine ev_iload_n dX11_bettiNumber_7 rfl ?_
        refine ev_if_lt 29 dX11_bettiNumber_8 (by decide) (fun c8 => ?_) (fun c8 => ?_)
        · refine ev_ldc2 (-9223372036854775808) dX11_bettiNumber_29 kl_X11_234 ?_
          refine ev_lret dX11_bettiNumber_32 rfl ?_
          exact ⟨by rw [aBt_b (fun q => hz q.2)], same.rf, c, lq⟩
        · refine ev_iload_n dX11_bettiNumber_11 rfl ?_
          refine ev_bipush (nI 7) dX11_bettiNumber_12 rfl ?_
          refine ev_icmp_gt 29 dX11_bettiNumber_14 (by decide) (fun c14 => ?_) (fun c14 => ?_)
          · refine ev_ldc2 (-9223372036854775808) dX11_bettiNumber_29 kl_X11_234 ?_
            refine ev_lret dX11_bettiNumber_32 rfl ?_
            exact ⟨by rw [aBt_b (fun q => hz q.2)], same.rf, c, lq⟩
          · exact absurd ((rg_iff (by decide) (by decide)).mpr ⟨Int32.not_lt.mp c8, Int32.not_lt.mp c14⟩) hz
  · have q1 := b01_f hx
    refine ev_start 0 (lv := [some (.ref 0), some (.int x), some (.int y), some (.int z)]) rfl (by decide) (Nat.le_of_ble_eq_true rfl) ?_
    refine ev_iload_n dX11_bettiNumber_0 rfl ?_
    refine ev_callS (cl_isPowerC) ok_X11_isPower ml_X11_188 rfl rfl (Nat.le_of_ble_eq_true rfl) dX11_bettiNumber_1 (kI ?_)
    refine ev_if_eqN 29 dX11_bettiNumber_4 (by decide) (by omega) (fun c4 => ?_) (fun c4 => ?_)
    · refine ev_ldc2 (-9223372036854775808) dX11_bettiNumber_29 kl_X11_234 ?_
      refine ev_lret dX11_bettiNumber_32 rfl ?_
      exact ⟨by rw [aBt_b (fun q => hx q.1)], same.rf, c, lq⟩
    · omega
theorem cl_bettiNumberM {n N : Nat} {x y z : Int32} (gm : gM h n N) (ok : gOK n N) (c : cacheM h n N) : Cl G (d + 6) M_X12_bettiNumber [.ref 67, .int x, .int y, .int z] h (fun rv h' => rv = some (.long (aBt n N x y z)) ∧ ms h h' ∧ cacheM h' n N) := by
  have hn := ok.2.1
  by_cases hz : rg z 0 7
  · have q1 := b01_t hz
    obtain ⟨j, -, hj, rfl⟩ := hz
    have good : ∀ (k : Nat) (S : List Nat) (h1 : MH), k < 3 → gLM h1 (ordL n N (k + 1) S) → rdO n y = some S → (ms h h1 ∧ cacheM h1 n N) → Ev G (d + 6) M_X12_bettiNumber 23 [some (.ref 67), some (.int (nI (k + 1))), some (.int y), some (.int (nI j)), none, none, none, none] [] h1 (fun rv h' => rv = some (.long (aBt n N (nI (k + 1)) y (nI j))) ∧ ms h h' ∧ cacheM h' n N) := by
      intro k S h1 hk hr hS lf
      have ll := ordL_len (S := S) ok hk
      have gm1 := gM_ms gm lf.1
      rw [aBt_t hk (by omega) hS]
      have bO : ∀ x, x ∈ ordL n N (k + 1) S → x < 16384 := fun x hx => ordL_b ok hx
      generalize ordL n N (k + 1) S = O at *
      have loop : ∀ (q i : Nat) (x7 : Option Value), i + q = O.length → Ev G (d + 6) M_X12_bettiNumber 42 [some (.ref 67), some (.int (nI (k + 1))), some (.int y), some (.int (nI j)), some (.long (lN (bsum n O j i))), none, some (.int (nI i)), x7] [] h1 (fun rv h' => rv = some (.long (lN (bsum n O j O.length))) ∧ ms h h' ∧ cacheM h' n N) := by
        intro q
        induction q with
        | zero =>
          intro i x7 hi
          obtain rfl : i = O.length := by omega
          refine ev_iload dX12_bettiNumber_42 rfl ?_
          refine ev_aload_n dX12_bettiNumber_44 rfl ?_
          refine ev_getIv (hr.1) fl_X12_177 rfl rfl dX12_bettiNumber_45 ?_
          refine ev_icmp_geN 89 dX12_bettiNumber_48 (by decide) (by omega) (by omega) (fun c48 => ?_) (fun c48 => ?_)
          · refine ev_lload dX12_bettiNumber_89 rfl ?_
            refine ev_lret dX12_bettiNumber_91 rfl ?_
            exact ⟨rfl, lf⟩
          · omega
        | succ q ih =>
          intro i x7 hi
          have pl := pop_le _ (cSt_lt (n := n) (O := O) (i := i))
          have st : bsum n O j (i + 1) = bsum n O j i + cb (pop (cSt n O i)) j := rfl
          have q := ih (i + 1)
          rw [st] at q
          refine ev_iload dX12_bettiNumber_42 rfl ?_
          refine ev_aload_n dX12_bettiNumber_44 rfl ?_
          refine ev_getIv (hr.1) fl_X12_177 rfl rfl dX12_bettiNumber_45 ?_
          refine ev_icmp_geN 89 dX12_bettiNumber_48 (by decide) (by omega) (by omega) (fun c48 => ?_) (fun c48 => ?_)
          · omega
          · refine ev_aload_n dX12_bettiNumber_51 rfl ?_
            refine ev_iload dX12_bettiNumber_52 rfl ?_
            refine ev_callV (cl_colonSet gm1 hn hr.2 (by omega) bO (by omega)) ok_X12_colonSet ml_X12_211 rfl rfl rfl rfl (Nat.le_of_ble_eq_true rfl) dX12_bettiNumber_54 (kI ?_)
            refine ev_callS (cl_bcM cSt_lt) ok_X12_bitCount ml_X12_109 rfl rfl (Nat.le_of_ble_eq_true rfl) dX12_bettiNumber_57 (kI ?_)
            refine ev_ist7 dX12_bettiNumber_60 (by decide) rfl ?_
            refine ev_lload dX12_bettiNumber_62 rfl ?_
            refine ev_iload_n dX12_bettiNumber_64 rfl ?_
            refine ev_iload dX12_bettiNumber_65 rfl ?_
            refine ev_icmp_gtN 79 dX12_bettiNumber_67 (by decide) (by omega) (by omega) (fun c67 => ?_) (fun c67 => ?_)
            · refine ev_lconst (lN 0) dX12_bettiNumber_79 rfl ?_
              refine ev_laddN dX12_bettiNumber_80 ?_
              refine ev_lst4 dX12_bettiNumber_81 (by decide) rfl ?_
              refine ev_inc6N dX12_bettiNumber_83 (by decide) rfl ?_
              refine ev_goto 42 dX12_bettiNumber_86 (by decide) ?_
              rw [show cb (pop (cSt n O i)) j = 0 from if_neg (by omega)] at q
              exact q _ (by omega)
            · refine ev_iload dX12_bettiNumber_70 rfl ?_
              refine ev_iload_n dX12_bettiNumber_72 rfl ?_
              refine ev_callS (cl_choose (by omega) (by omega)) ok_X12_choose ml_X12_232 rfl rfl (Nat.le_of_ble_eq_true rfl) dX12_bettiNumber_73 (kL ?_)
              refine ev_goto 80 dX12_bettiNumber_76 (by decide) ?_
              refine ev_laddN dX12_bettiNumber_80 ?_
              refine ev_lst4 dX12_bettiNumber_81 (by decide) rfl ?_
              refine ev_inc6N dX12_bettiNumber_83 (by decide) rfl ?_
              refine ev_goto 42 dX12_bettiNumber_86 (by decide) ?_
              rw [show cb (pop (cSt n O i)) j = chN (pop (cSt n O i)) j from if_pos (by omega)] at q
              exact q _ (by omega)
      refine ev_aload_n dX12_bettiNumber_23 rfl ?_
      refine ev_callV (cl_firstNonLinearM gm1 hn hr (by omega) bO) ok_X12_firstNonLinear ml_X12_227 rfl rfl rfl rfl (Nat.le_of_ble_eq_true rfl) dX12_bettiNumber_24 (kI ?_)
      refine ev_bipush (-2) dX12_bettiNumber_27 rfl ?_
      refine ev_icmp_eq 36 dX12_bettiNumber_29 (by decide) (fun c29 => ?_) (fun c29 => ?_)
      · refine ev_lconst (lN 0) dX12_bettiNumber_36 rfl ?_
        refine ev_lst4 dX12_bettiNumber_37 (by decide) rfl ?_
        refine ev_iconst (nI 0) dX12_bettiNumber_39 rfl ?_
        refine ev_ist6 dX12_bettiNumber_40 (by decide) rfl ?_
        rw [if_pos c29]
        exact loop O.length 0 none (by omega)
      · refine ev_ldc2 (-9223372036854775808) dX12_bettiNumber_32 kl_X12_230 ?_
        refine ev_lret dX12_bettiNumber_35 rfl ?_
        exact ⟨by rw [if_neg c29], lf⟩
    refine ev_start 4 (lv := [some (.ref 67), some (.int x), some (.int y), some (.int (nI j)), none, none, none, none]) rfl (by decide) (Nat.le_of_ble_eq_true rfl) ?_
    refine ev_iload_n dX12_bettiNumber_0 rfl ?_
    refine ev_i2l dX12_bettiNumber_1 rfl ?_
    refine ev_lconst (lN 0) dX12_bettiNumber_2 rfl ?_
    refine ev_ldc2 (lN 7) dX12_bettiNumber_3 kl_X12_86 ?_
    refine ev_callS (cl_btw (a := 0) (b := 7) rfl rfl (by decide) (by decide)) ok_X12_isBetween ml_X12_79 rfl rfl (Nat.le_of_ble_eq_true rfl) dX12_bettiNumber_6 (kI ?_)
    refine ev_if_eqN 32 dX12_bettiNumber_9 (by decide) (by omega) (fun c9 => ?_) (fun c9 => ?_)
    · omega
    · refine ev_aload_n dX12_bettiNumber_12 rfl ?_
      refine ev_iload_n dX12_bettiNumber_13 rfl ?_
      refine ev_iload_n dX12_bettiNumber_14 rfl ?_
      refine ev_iconst (nI 0) dX12_bettiNumber_15 rfl ?_
      refine ev_callV (cl_orderError gm ok c) ok_X12_orderError ml_X12_220 rfl rfl rfl rfl (Nat.le_of_ble_eq_true rfl) dX12_bettiNumber_16 ?_
      rintro rv h1 ⟨r, rfl, lf, e⟩
      refine ev_iconst (-1) dX12_bettiNumber_19 rfl ?_
      refine ev_icmp_eq 32 dX12_bettiNumber_20 (by decide) (fun c20 => ?_) (fun c20 => ?_)
      · refine ev_ldc2 (-9223372036854775808) dX12_bettiNumber_32 kl_X12_230 ?_
        refine ev_lret dX12_bettiNumber_35 rfl ?_
        rcases e with ⟨q, _⟩ | ⟨k, S, hk, rfl, hS, hz, hR, ⟨_, rfl⟩ | ⟨_, rfl⟩⟩
        · rcases q with q | q | q
          · exact absurd q (by decide)
          · exact ⟨by rw [aBt_b (fun z => q z.1)], lf⟩
          · exact ⟨by rw [aBt_o q], lf⟩
        · exact absurd c20 (by decide)
        · exact absurd c20 (by decide)
      · rcases e with ⟨q, rfl⟩ | ⟨k, S, hk, rfl, hS, hz, hR, _⟩
        · exact absurd rfl c20
        · exact good k S h1 hk hR hS lf
  · have q1 := b01_f hz
    refine ev_start 4 (lv := [some (.ref 67), some (.int x), some (.int y), some (.int z), none, none, none, none]) rfl (by decide) (Nat.le_of_ble_eq_true rfl) ?_
    refine ev_iload_n dX12_bettiNumber_0 rfl ?_
    refine ev_i2l dX12_bettiNumber_1 rfl ?_
    refine ev_lconst (lN 0) dX12_bettiNumber_2 rfl ?_
    refine ev_ldc2 (lN 7) dX12_bettiNumber_3 kl_X12_86 ?_
    refine ev_callS (cl_btw (a := 0) (b := 7) rfl rfl (by decide) (by decide)) ok_X12_isBetween ml_X12_79 rfl rfl (Nat.le_of_ble_eq_true rfl) dX12_bettiNumber_6 (kI ?_)
    refine ev_if_eqN 32 dX12_bettiNumber_9 (by decide) (by omega) (fun c9 => ?_) (fun c9 => ?_)
    · refine ev_ldc2 (-9223372036854775808) dX12_bettiNumber_32 kl_X12_230 ?_
      refine ev_lret dX12_bettiNumber_35 rfl ?_
      exact ⟨by rw [aBt_b (fun q => hz q.2)], mod.rf, c⟩
    · omega
end BETTI2
