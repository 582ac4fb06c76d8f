section GRAPH
variable {G : MG} {d : Nat} {h : MH}
theorem cl_lbc {N : Nat} (hN : N < 2 ^ 49) : Cl G d M_J13_bitCount_95d88 [.long (lN N)] h (qI (nI (pcs 49 N)) h) := by
  have e1 : (N / 2 ^ 1 &&& 6148914691236517205) ≤ N := Nat.le_trans Nat.and_le_left (Nat.div_le_self _ _)
  obtain ⟨x1, hx1⟩ : ∃ z, z = N - (N / 2 ^ 1 &&& 6148914691236517205) := ⟨_, rfl⟩
  have b1 : x1 ≤ N := by omega
  have e2 : (x1 &&& 3689348814741910323) ≤ x1 := Nat.and_le_left
  have e3 : (x1 / 2 ^ 2 &&& 3689348814741910323) ≤ x1 := Nat.le_trans Nat.and_le_left (Nat.div_le_self _ _)
  obtain ⟨x2, hx2⟩ : ∃ z, z = (x1 &&& 3689348814741910323) + (x1 / 2 ^ 2 &&& 3689348814741910323) := ⟨_, rfl⟩
  have b2 : x2 ≤ 2 * N := by omega
  have e4 : x2 / 2 ^ 4 ≤ x2 := Nat.div_le_self _ _
  have e5 : ((x2 + x2 / 2 ^ 4) &&& 1085102592571150095) ≤ x2 + x2 / 2 ^ 4 := Nat.and_le_left
  obtain ⟨x3, hx3⟩ : ∃ z, z = (x2 + x2 / 2 ^ 4) &&& 1085102592571150095 := ⟨_, rfl⟩
  have b3 : x3 ≤ 4 * N := by omega
  have e6 : x3 / 2 ^ 8 ≤ x3 := Nat.div_le_self _ _
  obtain ⟨x4, hx4⟩ : ∃ z, z = x3 + x3 / 2 ^ 8 := ⟨_, rfl⟩
  have b4 : x4 ≤ 8 * N := by omega
  have e7 : x4 / 2 ^ 16 ≤ x4 := Nat.div_le_self _ _
  obtain ⟨x5, hx5⟩ : ∃ z, z = x4 + x4 / 2 ^ 16 := ⟨_, rfl⟩
  have b5 : x5 ≤ 16 * N := by omega
  have e8 : x5 / 2 ^ 32 ≤ x5 := Nat.div_le_self _ _
  have hF : pcs 49 N = (x5 + x5 / 2 ^ 32) &&& 127 := by rw [← swar hN, hx5, hx4, hx3, hx2, hx1]; rfl
  rw [hF]
  refine ev_start 0 (lv := [some (.long (lN N)), none]) rfl (by decide) (Nat.le_of_ble_eq_true rfl) ?_
  refine ev_lload_n dJ13_bitCount_95d88_0 rfl ?_
  refine ev_lload_n dJ13_bitCount_95d88_1 rfl ?_
  refine ev_iconst (nI 1) dJ13_bitCount_95d88_2 rfl ?_
  refine ev_lushrN dJ13_bitCount_95d88_3 (by omega) (by omega) ?_
  refine ev_ldc2 (lN 6148914691236517205) dJ13_bitCount_95d88_4 kl_J13_314 ?_
  refine ev_landN dJ13_bitCount_95d88_7 ?_
  refine ev_lsubN dJ13_bitCount_95d88_8 (by omega) ?_
  rw [← hx1]
  refine ev_lst0 dJ13_bitCount_95d88_9 (by decide) rfl ?_
  refine ev_lload_n dJ13_bitCount_95d88_10 rfl ?_
  refine ev_ldc2 (lN 3689348814741910323) dJ13_bitCount_95d88_11 kl_J13_316 ?_
  refine ev_landN dJ13_bitCount_95d88_14 ?_
  refine ev_lload_n dJ13_bitCount_95d88_15 rfl ?_
  refine ev_iconst (nI 2) dJ13_bitCount_95d88_16 rfl ?_
  refine ev_lushrN dJ13_bitCount_95d88_17 (by omega) (by omega) ?_
  refine ev_ldc2 (lN 3689348814741910323) dJ13_bitCount_95d88_18 kl_J13_316 ?_
  refine ev_landN dJ13_bitCount_95d88_21 ?_
  refine ev_laddN dJ13_bitCount_95d88_22 ?_
  rw [← hx2]
  refine ev_lst0 dJ13_bitCount_95d88_23 (by decide) rfl ?_
  refine ev_lload_n dJ13_bitCount_95d88_24 rfl ?_
  refine ev_lload_n dJ13_bitCount_95d88_25 rfl ?_
  refine ev_iconst (nI 4) dJ13_bitCount_95d88_26 rfl ?_
  refine ev_lushrN dJ13_bitCount_95d88_27 (by omega) (by omega) ?_
  refine ev_laddN dJ13_bitCount_95d88_28 ?_
  refine ev_ldc2 (lN 1085102592571150095) dJ13_bitCount_95d88_29 kl_J13_318 ?_
  refine ev_landN dJ13_bitCount_95d88_32 ?_
  rw [← hx3]
  refine ev_lst0 dJ13_bitCount_95d88_33 (by decide) rfl ?_
  refine ev_lload_n dJ13_bitCount_95d88_34 rfl ?_
  refine ev_lload_n dJ13_bitCount_95d88_35 rfl ?_
  refine ev_bipush (nI 8) dJ13_bitCount_95d88_36 rfl ?_
  refine ev_lushrN dJ13_bitCount_95d88_38 (by omega) (by omega) ?_
  refine ev_laddN dJ13_bitCount_95d88_39 ?_
  rw [← hx4]
  refine ev_lst0 dJ13_bitCount_95d88_40 (by decide) rfl ?_
  refine ev_lload_n dJ13_bitCount_95d88_41 rfl ?_
  refine ev_lload_n dJ13_bitCount_95d88_42 rfl ?_
  refine ev_bipush (nI 16) dJ13_bitCount_95d88_43 rfl ?_
  refine ev_lushrN dJ13_bitCount_95d88_45 (by omega) (by omega) ?_
  refine ev_laddN dJ13_bitCount_95d88_46 ?_
  rw [← hx5]
  refine ev_lst0 dJ13_bitCount_95d88_47 (by decide) rfl ?_
  refine ev_lload_n dJ13_bitCount_95d88_48 rfl ?_
  refine ev_lload_n dJ13_bitCount_95d88_49 rfl ?_
  refine ev_bipush (nI 32) dJ13_bitCount_95d88_50 rfl ?_
  refine ev_lushrN dJ13_bitCount_95d88_52 (by omega) (by omega) ?_
  refine ev_laddN dJ13_bitCount_95d88_53 ?_
  refine ev_lst0 dJ13_bitCount_95d88_54 (by decide) rfl ?_
  refine ev_lload_n dJ13_bitCount_95d88_55 rfl ?_
  refine ev_l2iN dJ13_bitCount_95d88_56 ?_
  refine ev_bipush (nI 127) dJ13_bitCount_95d88_57 rfl ?_
  refine ev_iandN dJ13_bitCount_95d88_59 ?_
  refine ev_iret dJ13_bitCount_95d88_60 rfl ?_
  exact ⟨by with_reducible rfl, rfl⟩
theorem pcs_le49 (N : Nat) : pcs 49 N ≤ 49 := by
  rw [pcs_rows]
  exact sumTo_le (n := 7) (b := 7) (fun i _ => by rw [pop_pcs _ (nb_lt N i)]; exact pcs7_le _ (nb_lt N i))
theorem cl_edgeTotal {n N : Nat} (g : gC h n N) (hN : N < 2 ^ 49) : Cl G (d + 1) M_X1_edgeTotal [.ref 1] h (qI (nI (pcs 49 N / 2)) h) := by
  have := pcs_le49 N
  refine ev_start 0 (lv := [some (.ref 1)]) rfl (by decide) (Nat.le_of_ble_eq_true rfl) ?_
  refine ev_aload_n dX1_edgeTotal_0 rfl ?_
  refine ev_getLv (g.2) fl_X1_15 rfl rfl dX1_edgeTotal_1 ?_
  refine ev_callS (cl_lbc hN) ok_J13_bitCount_95d88 ml_X1_28 rfl rfl (Nat.le_of_ble_eq_true rfl) dX1_edgeTotal_4 (kI ?_)
  refine ev_iconst (nI 2) dX1_edgeTotal_7 rfl ?_
  refine ev_idivN dX1_edgeTotal_8 (by omega) (by omega) (by omega) ?_
  refine ev_iret dX1_edgeTotal_9 rfl ?_
  exact ⟨by with_reducible rfl, rfl⟩
theorem kern : ∀ x, x < 128 → 0 < x → pop (x &&& (x - 1)) + 1 = pop x ∧ (x &&& (x - 1)) < x := by decide +kernel
theorem cl_bcM {x : Nat} (hx : x < 128) : Cl G d M_X12_bitCount [.int (nI x)] h (qI (nI (pop x)) h) := by
  have loop : ∀ (k c r : Nat), r < k → k ≤ 128 → c + pop r = pop x → Ev G d M_X12_bitCount 4 [some (.int (nI x)), some (.int (nI c)), some (.int (nI r))] [] h (qI (nI (pop x)) h) := by
    intro k
    induction k with
    | zero => intro c r h1; exact absurd h1 (by omega)
    | succ k ih =>
      intro c r hr hk hc
      by_cases h0 : r = 0
      · subst h0
        have : c = pop x := by have : pop 0 = 0 := by decide
                               omega
        subst this
        refine ev_iload_n dX12_bitCount_4 rfl ?_
        refine ev_if_eqN 20 dX12_bitCount_5 (by decide) (by omega) (fun c5 => ?_) (fun c5 => ?_)
        · refine ev_iload_n dX12_bitCount_20 rfl ?_
          refine ev_iret dX12_bitCount_21 rfl ?_
          exact ⟨by with_reducible rfl, rfl⟩
        · exact absurd rfl c5
      · obtain ⟨k1, k2⟩ := kern r (by omega) (by omega)
        refine ev_iload_n dX12_bitCount_4 rfl ?_
        refine ev_if_eqN 20 dX12_bitCount_5 (by decide) (by omega) (fun c5 => ?_) (fun c5 => ?_)
        · omega
        · refine ev_inc1N dX12_bitCount_8 (by decide) rfl ?_
          refine ev_iload_n dX12_bitCount_11 rfl ?_
          refine ev_iload_n dX12_bitCount_12 rfl ?_
          refine ev_iconst (nI 1) dX12_bitCount_13 rfl ?_
          refine ev_isubN dX12_bitCount_14 (by omega) ?_
          refine ev_iandN dX12_bitCount_15 ?_
          refine ev_ist2 dX12_bitCount_16 (by decide) rfl ?_
          refine ev_goto 4 dX12_bitCount_17 (by decide) ?_
          exact ih (c + 1) _ (by omega) (by omega) (by omega)
  refine ev_start 2 (lv := [some (.int (nI x)), none, none]) rfl (by decide) (Nat.le_of_ble_eq_true rfl) ?_
  refine ev_iconst (nI 0) dX12_bitCount_0 rfl ?_
  refine ev_ist1 dX12_bitCount_1 (by decide) rfl ?_
  refine ev_iload_n dX12_bitCount_2 rfl ?_
  refine ev_ist2 dX12_bitCount_3 (by decide) rfl ?_
  exact loop 128 0 x hx (by omega) (by omega)
theorem nb_z {n N : Nat} (g : gOK n N) {v : Nat} (h1 : n ≤ v) (h2 : v < 7) : nb N v = 0 := by
  refine (set_eq0 (k := 7) (nb_lt N v)).mpr (fun i hi => ?_)
  cases hb : (nb N v).testBit i with
  | false => rfl
  | true => have := (g.2.2.2 v i h2 hi hb).1; omega
theorem ec_rows {n N : Nat} (g : gOK n N) : sumTo n (fun v => pop (nb N v)) = pcs 49 N := by
  rw [pcs_rows]
  exact (sumTo_z g.2.1 (fun i h1 h2 => by rw [nb_z g h1 h2]; decide)).symm
theorem cl_edgeCountM {n N : Nat} (g : gM h n N) (ok : gOK n N) : Cl G (d + 1) M_X12_edgeCount [.ref 67] h (qI (nI (pcs 49 N / 2)) h) := by
  have hn := ok.2.1
  have hb : ∀ v, v ≤ 7 → sumTo v (fun v => pop (nb N v)) ≤ 49 := by
    intro v hv
    have := sumTo_le (n := v) (b := 7) (f := fun v => pop (nb N v)) (fun i _ => by rw [pop_pcs _ (nb_lt N i)]; exact pcs7_le _ (nb_lt N i))
    omega
  have h49 := hb n hn
  have loop : ∀ (k v : Nat), v + k = n → Ev G (d + 1) M_X12_edgeCount 4 [some (.ref 67), some (.int (nI (sumTo v (fun v => pop (nb N v))))), some (.int (nI v))] [] h (qI (nI (pcs 49 N / 2)) h) := by
    intro k
    induction k with
    | zero =>
      intro v hv
      obtain rfl : v = n := by omega
      rw [← ec_rows ok]
      refine ev_iload_n dX12_edgeCount_4 rfl ?_
      refine ev_aload_n dX12_edgeCount_5 rfl ?_
      refine ev_getIv (g.1) fl_X12_9 rfl rfl dX12_edgeCount_6 ?_
      refine ev_icmp_geN 30 dX12_edgeCount_9 (by decide) (by omega) (by omega) (fun c9 => ?_) (fun c9 => ?_)
      · refine ev_iload_n dX12_edgeCount_30 rfl ?_
        refine ev_iconst (nI 2) dX12_edgeCount_31 rfl ?_
        refine ev_idivN dX12_edgeCount_32 (by omega) (by omega) (by omega) ?_
        refine ev_iret dX12_edgeCount_33 rfl ?_
        exact ⟨by with_reducible rfl, rfl⟩
      · omega
    | succ k ih =>
      intro v hv
      refine ev_iload_n dX12_edgeCount_4 rfl ?_
      refine ev_aload_n dX12_edgeCount_5 rfl ?_
      refine ev_getIv (g.1) fl_X12_9 rfl rfl dX12_edgeCount_6 ?_
      refine ev_icmp_geN 30 dX12_edgeCount_9 (by decide) (by omega) (by omega) (fun c9 => ?_) (fun c9 => ?_)
      · omega
      · refine ev_iload_n dX12_edgeCount_12 rfl ?_
        refine ev_aload_n dX12_edgeCount_13 rfl ?_
        refine ev_getR fl_X12_15 rfl rfl dX12_edgeCount_14 ?_
        refine ev_iload_n dX12_edgeCount_17 rfl ?_
        refine ev_ialdv (g.2 v (by omega)) rfl dX12_edgeCount_18 (by omega) (by omega) ?_
        refine ev_callS (cl_bcM (nb_lt N v)) ok_X12_bitCount ml_X12_109 rfl rfl (Nat.le_of_ble_eq_true rfl) dX12_edgeCount_19 (kI ?_)
        refine ev_iaddN dX12_edgeCount_22 ?_
        refine ev_ist1 dX12_edgeCount_23 (by decide) rfl ?_
        refine ev_inc2N dX12_edgeCount_24 (by decide) rfl ?_
        refine ev_goto 4 dX12_edgeCount_27 (by decide) ?_
        exact ih (v + 1) (by omega)
  refine ev_start 2 (lv := [some (.ref 67), none, none]) rfl (by decide) (Nat.le_of_ble_eq_true rfl) ?_
  refine ev_iconst (nI 0) dX12_edgeCount_0 rfl ?_
  refine ev_ist1 dX12_edgeCount_1 (by decide) rfl ?_
  refine ev_iconst (nI 0) dX12_edgeCount_2 rfl ?_
  refine ev_ist2 dX12_edgeCount_3 (by decide) rfl ?_
  exact loop n 0 (by omega)
/-! independence, sides -/
def Ind (n N set : Nat) : Prop := ∀ v, v < n → set.testBit v = true → nb N v &&& set = 0
theorem cl_isIndependent {n N set : Nat} (g : gC h n N) (ok : gOK n N) (hs : set < 128) : Cl G (d + 1) M_X1_isIndependent [.ref 1, .int (nI set)] h (qI (nI (b01 (Ind n N set))) h) := by
  have hn := ok.2.1
  have loop : ∀ (k v : Nat), v + k = n → (∀ w, w < v → set.testBit w = true → nb N w &&& set = 0) → Ev G (d + 1) M_X1_isIndependent 2 [some (.ref 1), some (.int (nI set)), some (.int (nI v))] [] h (qI (nI (b01 (Ind n N set))) h) := by
    intro k
    induction k with
    | zero =>
      intro v hv hw
      obtain rfl : v = n := by omega
      refine ev_iload_n dX1_isIndependent_2 rfl ?_
      refine ev_aload_n dX1_isIndependent_3 rfl ?_
      refine ev_getIv (g.1) fl_X1_9 rfl rfl dX1_isIndependent_4 ?_
      refine ev_icmp_geN 39 dX1_isIndependent_7 (by decide) (by omega) (by omega) (fun c7 => ?_) (fun c7 => ?_)
      · refine ev_iconst (nI 1) dX1_isIndependent_39 rfl ?_
        refine ev_zret dX1_isIndependent_40 rfl rfl ?_
        rw [b01_t (show Ind _ N set from hw)]; exact ⟨by with_reducible rfl, rfl⟩
      · omega
    | succ k ih =>
      intro v hv hw
      have t1 := tb_lt1 set v
      have n1 := nb_lt N v
      have a1 : nb N v &&& set < 128 := and_lt n1
      refine ev_iload_n dX1_isIndependent_2 rfl ?_
      refine ev_aload_n dX1_isIndependent_3 rfl ?_
      refine ev_getIv (g.1) fl_X1_9 rfl rfl dX1_isIndependent_4 ?_
      refine ev_icmp_geN 39 dX1_isIndependent_7 (by decide) (by omega) (by omega) (fun c7 => ?_) (fun c7 => ?_)
      · omega
      · refine ev_iload_n dX1_isIndependent_10 rfl ?_
        refine ev_iload_n dX1_isIndependent_11 rfl ?_
        refine ev_ishrN dX1_isIndependent_12 (by omega) (by omega) ?_
        refine ev_iconst (nI 1) dX1_isIndependent_13 rfl ?_
        refine ev_iandN dX1_isIndependent_14 ?_
        refine ev_if_eqN 33 dX1_isIndependent_15 (by decide) (by omega) (fun c15 => ?_) (fun c15 => ?_)
        · refine ev_inc2N dX1_isIndependent_33 (by decide) rfl ?_
          refine ev_goto 2 dX1_isIndependent_36 (by decide) ?_
          exact ih (v + 1) (by omega) (fun w h1 h2 => by
          by_cases e : w = v
          · subst e; rw [(tb_0 _ _).mp c15] at h2; cases h2
          · exact hw w (by omega) h2)
        · refine ev_aload_n dX1_isIndependent_18 rfl ?_
          refine ev_getLv (g.2) fl_X1_15 rfl rfl dX1_isIndependent_19 ?_
          refine ev_iload_n dX1_isIndependent_22 rfl ?_
          refine ev_callS (cl_neighborsIn ok.2.2.1 (by omega)) ok_X1_neighborsIn ml_X1_58 rfl rfl (Nat.le_of_ble_eq_true rfl) dX1_isIndependent_23 (kI ?_)
          refine ev_iload_n dX1_isIndependent_26 rfl ?_
          refine ev_iandN dX1_isIndependent_27 ?_
          refine ev_if_eqN 33 dX1_isIndependent_28 (by decide) (by omega) (fun c28 => ?_) (fun c28 => ?_)
          · refine ev_inc2N dX1_isIndependent_33 (by decide) rfl ?_
            refine ev_goto 2 dX1_isIndependent_36 (by decide) ?_
            exact ih (v + 1) (by omega) (fun w h1 h2 => by
            by_cases e : w = v
            · subst e; exact c28
            · exact hw w (by omega) h2)
          · refine ev_iconst (nI 0) dX1_isIndependent_31 rfl ?_
            refine ev_zret dX1_isIndependent_32 rfl rfl ?_
            rw [b01_f (fun q => c28 (q v (by omega) ((tb_n0 _ _).mp c15)))]; exact ⟨by with_reducible rfl, rfl⟩
  refine ev_start 1 (lv := [some (.ref 1), some (.int (nI set)), none]) rfl (by decide) (Nat.le_of_ble_eq_true rfl) ?_
  refine ev_iconst (nI 0) dX1_isIndependent_0 rfl ?_
  refine ev_ist2 dX1_isIndependent_1 (by decide) rfl ?_
  exact loop n 0 (by omega) (fun w h1 => absurd h1 (by omega))
def Bip (n N : Nat) : Prop := ∃ s, s < 2 ^ n ∧ Ind n N s ∧ Ind n N (andn (2 ^ n - 1) s)
theorem cl_isBipartite {n N : Nat} (g : gC h n N) (ok : gOK n N) : Cl G (d + 2) M_X1_isBipartite [.ref 1] h (qI (nI (b01 (Bip n N))) h) := by
  have hn := ok.2.1
  have t2 := two_n hn
  have t3 := two_pos n
  have loop : ∀ (k s : Nat), s + k = 2 ^ n → (∀ r, r < s → ¬ (Ind n N r ∧ Ind n N (andn (2 ^ n - 1) r))) → Ev G (d + 2) M_X1_isBipartite 7 [some (.ref 1), some (.int (nI (2 ^ n - 1))), some (.int (nI s))] [] h (qI (nI (b01 (Bip n N))) h) := by
    intro k
    induction k with
    | zero =>
      intro s hs hr
      refine ev_iload_n dX1_isBipartite_7 rfl ?_
      refine ev_iload_n dX1_isBipartite_8 rfl ?_
      refine ev_icmp_gtN 40 dX1_isBipartite_9 (by decide) (by omega) (by omega) (fun c9 => ?_) (fun c9 => ?_)
      · refine ev_iconst (nI 0) dX1_isBipartite_40 rfl ?_
        refine ev_zret dX1_isBipartite_41 rfl rfl ?_
        rw [b01_f (fun q => by obtain ⟨r, h1, h2⟩ := q; exact hr r (by omega) h2)]; exact ⟨by with_reducible rfl, rfl⟩
      · omega
    | succ k ih =>
      intro s hs hr
      have a1 : andn (2 ^ n - 1) s < 128 := andn_lt (by omega)
      have q1 := b01_lt (Ind n N s)
      have q2 := b01_lt (Ind n N (andn (2 ^ n - 1) s))
      refine ev_iload_n dX1_isBipartite_7 rfl ?_
      refine ev_iload_n dX1_isBipartite_8 rfl ?_
      refine ev_icmp_gtN 40 dX1_isBipartite_9 (by decide) (by omega) (by omega) (fun c9 => ?_) (fun c9 => ?_)
      · omega
      · refine ev_aload_n dX1_isBipartite_12 rfl ?_
        refine ev_iload_n dX1_isBipartite_13 rfl ?_
        refine ev_callV (cl_isIndependent g ok (by omega)) ok_X1_isIndependent ml_X1_62 rfl rfl rfl rfl (Nat.le_of_ble_eq_true rfl) dX1_isBipartite_14 (kI ?_)
        refine ev_if_eqN 34 dX1_isBipartite_17 (by decide) (by omega) (fun c17 => ?_) (fun c17 => ?_)
        · refine ev_inc2N dX1_isBipartite_34 (by decide) rfl ?_
          refine ev_goto 7 dX1_isBipartite_37 (by decide) ?_
          exact ih (s + 1) (by omega) (fun r h1 h2 => by
          by_cases e : r = s
          · subst e; exact b01_0.mp c17 h2.1
          · exact hr r (by omega) h2)
        · refine ev_aload_n dX1_isBipartite_20 rfl ?_
          refine ev_iload_n dX1_isBipartite_21 rfl ?_
          refine ev_iload_n dX1_isBipartite_22 rfl ?_
          refine ev_iconst (-1) dX1_isBipartite_23 rfl ?_
          refine ev_ixor dX1_isBipartite_24 ?_
          refine ev_iandC dX1_isBipartite_25 ?_
          refine ev_callV (cl_isIndependent g ok a1) ok_X1_isIndependent ml_X1_62 rfl rfl rfl rfl (Nat.le_of_ble_eq_true rfl) dX1_isBipartite_26 (kI ?_)
          refine ev_if_eqN 34 dX1_isBipartite_29 (by decide) (by omega) (fun c29 => ?_) (fun c29 => ?_)
          · refine ev_inc2N dX1_isBipartite_34 (by decide) rfl ?_
            refine ev_goto 7 dX1_isBipartite_37 (by decide) ?_
            exact ih (s + 1) (by omega) (fun r h1 h2 => by
            by_cases e : r = s
            · subst e; exact b01_0.mp c29 h2.2
            · exact hr r (by omega) h2)
          · refine ev_iconst (nI 1) dX1_isBipartite_32 rfl ?_
            refine ev_zret dX1_isBipartite_33 rfl rfl ?_
            rw [b01_t ⟨s, by omega, b01_1.mp (by omega), b01_1.mp (by omega)⟩]; exact ⟨by with_reducible rfl, rfl⟩
  refine ev_start 2 (lv := [some (.ref 1), none, none]) rfl (by decide) (Nat.le_of_ble_eq_true rfl) ?_
  refine ev_aload_n dX1_isBipartite_0 rfl ?_
  refine ev_callV (cl_allVerticesC g hn) ok_X1_allVertices ml_X1_50 rfl rfl rfl rfl (Nat.le_of_ble_eq_true rfl) dX1_isBipartite_1 (kI ?_)
  refine ev_ist1 dX1_isBipartite_4 (by decide) rfl ?_
  refine ev_iconst (nI 0) dX1_isBipartite_5 rfl ?_
  refine ev_ist2 dX1_isBipartite_6 (by decide) rfl ?_
  exact loop (2 ^ n) 0 (by omega) (fun r h1 => absurd h1 (by omega))
end GRAPH
