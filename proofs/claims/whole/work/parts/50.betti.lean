section BETTI
variable {G : MG} {d : Nat} {h : MH}
def binF (s : Nat) : Nat → Int32
  | 0 => nI 1
  | j + 1 => binF s j * (nI s - nI (j + 1) + nI 1) / nI (j + 1)
def chN (s : Nat) : Nat → Nat
  | 0 => 1
  | i + 1 => chN s i * (s - i) / (i + 1)
def cb (s k : Nat) : Nat := if k ≤ s then chN s k else 0
theorem binF_cb : ∀ s, s < 8 → ∀ k, k < 8 → binF s k = nI (cb s k) := by decide +kernel
theorem chN_le : ∀ s, s < 8 → ∀ k, k < 8 → chN s k ≤ 35 := by decide +kernel
theorem cb_le {s k : Nat} (hs : s < 8) (hk : k < 8) : cb s k ≤ 35 := by
  unfold cb; split
  · exact chN_le s hs k hk
  · omega
theorem cl_binomial {s k : Nat} (hs : s < 8) (hk : k < 8) : Cl G d M_X4_binomial [.int (nI s), .int (nI k)] h (qI (nI (cb s k)) h) := by
  rw [← binF_cb s hs k hk]
  have loop : ∀ (q j : Nat), j + q = k → Ev G d M_X4_binomial 4 [some (.int (nI s)), some (.int (nI k)), some (.int (binF s j)), some (.int (nI (j + 1)))] [] h (qI (binF s k) h) := by
    intro q
    induction q with
    | zero =>
      intro j hj
      obtain rfl : j = k := by omega
      refine ev_iload_n dX4_binomial_4 rfl ?_
      refine ev_iload_n dX4_binomial_5 rfl ?_
      refine ev_icmp_gtN 25 dX4_binomial_6 (by decide) (by omega) (by omega) (fun c6 => ?_) (fun c6 => ?_)
      · refine ev_iload_n dX4_binomial_25 rfl ?_
        refine ev_iret dX4_binomial_26 rfl ?_
        exact ⟨by with_reducible rfl, rfl⟩
      · omega
    | succ q ih =>
      intro j hj
      refine ev_iload_n dX4_binomial_4 rfl ?_
      refine ev_iload_n dX4_binomial_5 rfl ?_
      refine ev_icmp_gtN 25 dX4_binomial_6 (by decide) (by omega) (by omega) (fun c6 => ?_) (fun c6 => ?_)
      · omega
      · refine ev_iload_n dX4_binomial_9 rfl ?_
        refine ev_iload_n dX4_binomial_10 rfl ?_
        refine ev_iload_n dX4_binomial_11 rfl ?_
        refine ev_isub dX4_binomial_12 ?_
        refine ev_iconst (nI 1) dX4_binomial_13 rfl ?_
        refine ev_iadd dX4_binomial_14 ?_
        refine ev_imul dX4_binomial_15 ?_
        refine ev_iload_n dX4_binomial_16 rfl ?_
        refine ev_idiv dX4_binomial_17 (nI_ne0 (by omega) (by omega)) ?_
        refine ev_ist2 dX4_binomial_18 (by decide) rfl ?_
        refine ev_inc3N dX4_binomial_19 (by decide) rfl ?_
        refine ev_goto 4 dX4_binomial_22 (by decide) ?_
        exact ih (j + 1) (by omega)
  refine ev_start 2 (lv := [some (.int (nI s)), some (.int (nI k)), none, none]) rfl (by decide) (Nat.le_of_ble_eq_true rfl) ?_
  refine ev_iconst (nI 1) dX4_binomial_0 rfl ?_
  refine ev_ist2 dX4_binomial_1 (by decide) rfl ?_
  refine ev_iconst (nI 1) dX4_binomial_2 rfl ?_
  refine ev_ist3 dX4_binomial_3 (by decide) rfl ?_
  exact loop k 0 (by omega)
theorem cl_choose {s k : Nat} (hs : s < 8) (hk : k ≤ s) : Cl G d M_X12_choose [.int (nI s), .int (nI k)] h (qL (lN (chN s k)) h) := by
  have loop : ∀ (q i : Nat), i + q = k → Ev G d M_X12_choose 5 [some (.int (nI s)), some (.int (nI k)), some (.long (lN (chN s i))), none, some (.int (nI i))] [] h (qL (lN (chN s k)) h) := by
    intro q
    induction q with
    | zero =>
      intro i hi
      obtain rfl : i = k := by omega
      refine ev_iload dX12_choose_5 rfl ?_
      refine ev_iload_n dX12_choose_7 rfl ?_
      refine ev_icmp_geN 31 dX12_choose_8 (by decide) (by omega) (by omega) (fun c8 => ?_) (fun c8 => ?_)
      · refine ev_lload_n dX12_choose_31 rfl ?_
        refine ev_lret dX12_choose_32 rfl ?_
        exact ⟨by with_reducible rfl, rfl⟩
      · omega
    | succ q ih =>
      intro i hi
      have c1 := chN_le s hs i (by omega)
      have c2 : chN s i * (s - i) ≤ 35 * 7 := Nat.mul_le_mul c1 (by omega)
      refine ev_iload dX12_choose_5 rfl ?_
      refine ev_iload_n dX12_choose_7 rfl ?_
      refine ev_icmp_geN 31 dX12_choose_8 (by decide) (by omega) (by omega) (fun c8 => ?_) (fun c8 => ?_)
      · omega
      · refine ev_lload_n dX12_choose_11 rfl ?_
        refine ev_iload_n dX12_choose_12 rfl ?_
        refine ev_iload dX12_choose_13 rfl ?_
        refine ev_isubN dX12_choose_15 (by omega) ?_
        refine ev_i2lN dX12_choose_16 (by omega) ?_
        refine ev_lmulN dX12_choose_17 ?_
        refine ev_iload dX12_choose_18 rfl ?_
        refine ev_iconst (nI 1) dX12_choose_20 rfl ?_
        refine ev_iaddN dX12_choose_21 ?_
        refine ev_i2lN dX12_choose_22 (by omega) ?_
        refine ev_ldivN dX12_choose_23 (by omega) (by omega) (by omega) ?_
        refine ev_lst2 dX12_choose_24 (by decide) rfl ?_
        refine ev_inc4N dX12_choose_25 (by decide) rfl ?_
        refine ev_goto 5 dX12_choose_28 (by decide) ?_
        exact ih (i + 1) (by omega)
  refine ev_start 3 (lv := [some (.int (nI s)), some (.int (nI k)), none, none, none]) rfl (by decide) (Nat.le_of_ble_eq_true rfl) ?_
  refine ev_lconst (lN 1) dX12_choose_0 rfl ?_
  refine ev_lst2 dX12_choose_1 (by decide) rfl ?_
  refine ev_iconst (nI 0) dX12_choose_2 rfl ?_
  refine ev_ist4 dX12_choose_3 (by decide) rfl ?_
  exact loop k 0 (by omega)
theorem bt_b01 (x v : Nat) : bt x v = b01 (x.testBit v = true) := by
  unfold bt
  rw [Nat.testBit_eq_decide_div_mod_eq, decide_eq_true_eq]
  have := Nat.mod_lt (x / 2 ^ v) (show 0 < 2 by decide)
  by_cases c : x / 2 ^ v % 2 = 1
  · rw [b01_t c, c]
  · rw [b01_f c]; omega
theorem pop_un {n i : Nat} {O : List Nat} : pop (cUn n O i) = pop (cSt n O i) := by
  have hu := cUn_lt (n := n) (O := O) (i := i)
  have hs := cSt_lt (n := n) (O := O) (i := i)
  have z : cUn n O i / 2 ^ 1 &&& 5461 = 0 := ex7 (Nat.lt_of_le_of_lt Nat.and_le_right (by decide)) (fun w hw => by
    rw [ex_half _ _ hw, ex_cUn hw]
    have := b01_lt (Col n O i w)
    omega)
  have e := deg_pop hu
  rw [z, show pop 0 = 0 from by decide, Nat.add_zero] at e
  have k : ∀ v, v < 7 → bt (cSt n O i) v = ex (cUn n O i) v := fun v hv => by
    rw [bt_b01, ex_cUn hv]; exact b01_c (cSt_bit hv)
  have h0 := k 0 (by decide)
  have h1 := k 1 (by decide)
  have h2 := k 2 (by decide)
  have h3 := k 3 (by decide)
  have h4 := k 4 (by decide)
  have h5 := k 5 (by decide)
  have h6 := k 6 (by decide)
  have t : ∀ v, 7 ≤ v → v < 14 → bt (cSt n O i) v = 0 := fun v h7 _ => by
    unfold bt
    rw [Nat.div_eq_of_lt (Nat.lt_of_lt_of_le hs (Nat.pow_le_pow_right (n := 2) (i := 7) (by decide) h7))]
  rw [e]
  unfold pop deg
  rw [h0, h1, h2, h3, h4, h5, h6, t 7 (by decide) (by decide), t 8 (by decide) (by decide), t 9 (by decide) (by decide), t 10 (by decide) (by decide), t 11 (by decide) (by decide), t 12 (by decide) (by decide), t 13 (by decide) (by decide)]
  omega
noncomputable def bsum (n : Nat) (O : List Nat) (k i : Nat) : Nat := sumTo i (fun j => cb (pop (cSt n O j)) k)
theorem cl_bettiSum {n N s k : Nat} {S : List Nat} (gc : gC h n N) (ok : gOK n N) (r : rdy h n N s S) (h1s : 1 ≤ s) (hs : s ≤ 3) (hk : k < 8) : Cl G (d + 3) M_X4_bettiSum [.ref 26, .int (nI k)] h (qL (lN (bsum n (srt (gnL n N s) S) k (srt (gnL n N s) S).length)) h) := by
  have hn := ok.2.1
  have hl : (srt (gnL n N s) S).length ≤ 728 := by rw [srt_len]; exact gnL_len hn h1s hs
  have hcu := fun i hi => cl_colonUnits (G := G) (d := d) (i := i) gc ok r h1s hs hi
  have r4 := r.2.2.2.1
  generalize srt (gnL n N s) S = O at *
  have loop : ∀ (q i : Nat), i + q = O.length → Ev G (d + 3) M_X4_bettiSum 5 [some (.ref 26), some (.int (nI k)), some (.long (lN (bsum n O k i))), none, some (.int (nI i))] [] h (qL (lN (bsum n O k O.length)) h) := by
    intro q
    induction q with
    | zero =>
      intro i hi
      obtain rfl : i = O.length := by omega
      refine ev_iload dX4_bettiSum_5 rfl ?_
      refine ev_aload_n dX4_bettiSum_7 rfl ?_
      refine ev_getR fl_X4_30 rfl rfl dX4_bettiSum_8 ?_
      refine ev_getIv (r4.1) fl_X4_64 rfl rfl dX4_bettiSum_11 ?_
      refine ev_icmp_geN 40 dX4_bettiSum_14 (by decide) (by omega) (by omega) (fun c14 => ?_) (fun c14 => ?_)
      · refine ev_lload_n dX4_bettiSum_40 rfl ?_
        refine ev_lret dX4_bettiSum_41 rfl ?_
        exact ⟨by with_reducible rfl, rfl⟩
      · omega
    | succ q ih =>
      intro i hi
      have pl := pop_le _ (cSt_lt (n := n) (O := O) (i := i))
      have cl := cb_le (s := pop (cSt n O i)) (k := k) (by omega) hk
      refine ev_iload dX4_bettiSum_5 rfl ?_
      refine ev_aload_n dX4_bettiSum_7 rfl ?_
      refine ev_getR fl_X4_30 rfl rfl dX4_bettiSum_8 ?_
      refine ev_getIv (r4.1) fl_X4_64 rfl rfl dX4_bettiSum_11 ?_
      refine ev_icmp_geN 40 dX4_bettiSum_14 (by decide) (by omega) (by omega) (fun c14 => ?_) (fun c14 => ?_)
      · omega
      · refine ev_lload_n dX4_bettiSum_17 rfl ?_
        refine ev_aload_n dX4_bettiSum_18 rfl ?_
        refine ev_iload dX4_bettiSum_19 rfl ?_
        refine ev_callV (hcu i (by omega)) ok_X4_colonUnits ml_X4_94 rfl rfl rfl rfl (Nat.le_of_ble_eq_true rfl) dX4_bettiSum_21 (kI ?_)
        refine ev_callS (cl_bc cUn_lt) ok_J6_bitCount_0f7a4 ml_X4_103 rfl rfl (Nat.le_of_ble_eq_true rfl) dX4_bettiSum_24 (kI ?_)
        rw [pop_un]
        refine ev_iload_n dX4_bettiSum_27 rfl ?_
        refine ev_callS (cl_binomial (by omega) hk) ok_X4_binomial ml_X4_108 rfl rfl (Nat.le_of_ble_eq_true rfl) dX4_bettiSum_28 (kI ?_)
        refine ev_i2lN dX4_bettiSum_31 (by omega) ?_
        refine ev_laddN dX4_bettiSum_32 ?_
        refine ev_lst2 dX4_bettiSum_33 (by decide) rfl ?_
        refine ev_inc4N dX4_bettiSum_34 (by decide) rfl ?_
        refine ev_goto 5 dX4_bettiSum_37 (by decide) ?_
        exact ih (i + 1) (by omega)
  refine ev_start 3 (lv := [some (.ref 26), some (.int (nI k)), none, none, none]) rfl (by decide) (Nat.le_of_ble_eq_true rfl) ?_
  refine ev_lconst (lN 0) dX4_bettiSum_0 rfl ?_
  refine ev_lst2 dX4_bettiSum_1 (by decide) rfl ?_
  refine ev_iconst (nI 0) dX4_bettiSum_2 rfl ?_
  refine ev_ist4 dX4_bettiSum_3 (by decide) rfl ?_
  exact loop O.length 0 (by omega)
end BETTI
