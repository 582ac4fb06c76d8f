section Q4
variable {G : MG} {d : Nat} {h : MH}
theorem sum_lt4 {f : Nat → Nat} : ∀ v, (∀ i, i < v → f i < 4) → sumTo v (fun i => f i * 4 ^ i) < 4 ^ v
  | 0, _ => Nat.zero_lt_one
  | v + 1, h => by
    have i := sum_lt4 v (fun i hi => h i (by omega))
    have k := h v (by omega)
    simp only [sumTo]
    rw [Nat.pow_succ]
    generalize 4 ^ v = p at *
    have : f v * p ≤ 3 * p := Nat.mul_le_mul_right p (by omega)
    omega
theorem or_add4 {a p v : Nat} (h : a < 4 ^ v) : a ||| p * 2 ^ (2 * v) = a + p * 4 ^ v := by
  rw [Nat.or_comm, Nat.mul_comm, ← Nat.two_pow_add_eq_or_of_lt (by rw [pow4]; exact h), pow4, Nat.mul_comm]; omega
theorem gcd_sum {n a b : Nat} (hn : n ≤ 7) (ha : a < 4 ^ n) (hb : b < 4 ^ n) : gcdN a b = sumTo n (fun w => min (ex a w) (ex b w) * 4 ^ w) := by
  have h4 := four_n hn
  have e1 := num_sum (gcd_lt (show a < 16384 by omega) (show b < 16384 by omega))
  rw [sumTo_c (g := fun v => min (ex a v) (ex b v) * 4 ^ v) (fun v hv => by rw [ex_gcd hv])] at e1
  exact e1.trans (sumTo_z (f := fun v => min (ex a v) (ex b v) * 4 ^ v) hn (fun i h1 h2 => by rw [ex_big ha h1, ex_big hb h1]; simp))
theorem aC2_b1 {n : Nat} {x y : Int32} {f : Nat → Nat → Int32} (hx : ¬ inR x (4 ^ n)) : aC2 n x y f = -1 := aIn_f hx
theorem aC2_b2 {n a : Nat} {y : Int32} {f : Nat → Nat → Int32} (hn : n ≤ 7) (ha : a < 4 ^ n) (hy : ¬ inR y (4 ^ n)) : aC2 n (nI a) y f = -1 := by
  have := four_n hn
  unfold aC2; rw [aIn_t ha (by omega), aIn_f hy]
theorem aC2_t {n a b : Nat} {f : Nat → Nat → Int32} (hn : n ≤ 7) (ha : a < 4 ^ n) (hb : b < 4 ^ n) : aC2 n (nI a) (nI b) f = f a b := by
  have := four_n hn
  unfold aC2; rw [aIn_t ha (by omega), aIn_t hb (by omega)]
theorem cl_multiplyC {n N : Nat} {x y : Int32} (g : gC h n N) (ok : gOK n N) : Cl G (d + 3) M_X11_multiply [.ref 0, .int x, .int y] h (qI (aC2 n x y aMul) h) := by
  have hn := ok.2.1
  have h4 := four_n hn
  by_cases hx : inR x (4 ^ n)
  · have q1 := b01_t hx
    obtain ⟨a, ha, rfl⟩ := hx
    by_cases hy : inR y (4 ^ n)
    · have q2 := b01_t hy
      obtain ⟨b, hb, rfl⟩ := hy
      rw [aC2_t hn ha hb]
      have q3 := b01_lt (dvd a (16383 - b))
      refine ev_start 0 (lv := [some (.ref 0), some (.int (nI a)), some (.int (nI b))]) rfl (by decide) (Nat.le_of_ble_eq_true rfl) ?_
      refine ev_aload_n dX11_multiply_0 rfl ?_
      refine ev_iload_n dX11_multiply_1 rfl ?_
      refine ev_callV (cl_isCodeC g hn) ok_X11_isCode ml_X11_168 rfl rfl rfl rfl (Nat.le_of_ble_eq_true rfl) dX11_multiply_2 (kI ?_)
      refine ev_if_eqN 16 dX11_multiply_5 (by decide) (by omega) (fun c5 => ?_) (fun c5 => ?_)
      · omega
      · refine ev_aload_n dX11_multiply_8 rfl ?_
        refine ev_iload_n dX11_multiply_9 rfl ?_
        refine ev_callV (cl_isCodeC g hn) ok_X11_isCode ml_X11_168 rfl rfl rfl rfl (Nat.le_of_ble_eq_true rfl) dX11_multiply_10 (kI ?_)
        refine ev_if_neN 18 dX11_multiply_13 (by decide) (by omega) (fun c13 => ?_) (fun c13 => ?_)
        · refine ev_iload_n dX11_multiply_18 rfl ?_
          refine ev_sipush (nI 16383) dX11_multiply_19 rfl ?_
          refine ev_iload_n dX11_multiply_22 rfl ?_
          refine ev_isubN dX11_multiply_23 (by omega) ?_
          refine ev_callS (cl_dividesC (by omega) (by omega)) ok_X6_divides ml_X11_181 rfl rfl (Nat.le_of_ble_eq_true rfl) dX11_multiply_24 (kI ?_)
          refine ev_if_eqN 36 dX11_multiply_27 (by decide) (by omega) (fun c27 => ?_) (fun c27 => ?_)
          · refine ev_bipush (-3) dX11_multiply_36 rfl ?_
            refine ev_iret dX11_multiply_38 rfl ?_
            exact ⟨by unfold aMul; rw [if_neg (fun z => b01_0.mp c27 ((dvd_top (by omega)).mpr z))], rfl⟩
          · refine ev_iload_n dX11_multiply_30 rfl ?_
            refine ev_iload_n dX11_multiply_31 rfl ?_
            refine ev_iaddN dX11_multiply_32 ?_
            refine ev_goto 38 dX11_multiply_33 (by decide) ?_
            refine ev_iret dX11_multiply_38 rfl ?_
            exact ⟨by unfold aMul; rw [if_pos ((dvd_top (show b < 16384 by omega)).mp (b01_1.mp (by omega)))], rfl⟩
        · omega
    · have q2 := b01_f hy
      rw [aC2_b2 hn ha hy]
      refine ev_start 0 (lv := [some (.ref 0), some (.int (nI a)), some (.int y)]) rfl (by decide) (Nat.le_of_ble_eq_true rfl) ?_
      refine ev_aload_n dX11_multiply_0 rfl ?_
      refine ev_iload_n dX11_multiply_1 rfl ?_
      refine ev_callV (cl_isCodeC g hn) ok_X11_isCode ml_X11_168 rfl rfl rfl rfl (Nat.le_of_ble_eq_true rfl) dX11_multiply_2 (kI ?_)
      refine ev_if_eqN 16 dX11_multiply_5 (by decide) (by omega) (fun c5 => ?_) (fun c5 => ?_)
      · omega
      · refine ev_aload_n dX11_multiply_8 rfl ?_
        refine ev_iload_n dX11_multiply_9 rfl ?_
        refine ev_callV (cl_isCodeC g hn) ok_X11_isCode ml_X11_168 rfl rfl rfl rfl (Nat.le_of_ble_eq_true rfl) dX11_multiply_10 (kI ?_)
        refine ev_if_neN 18 dX11_multiply_13 (by decide) (by omega) (fun c13 => ?_) (fun c13 => ?_)
        · omega
        · refine ev_iconst (-1) dX11_multiply_16 rfl ?_
          refine ev_iret dX11_multiply_17 rfl ?_
          exact ⟨by with_reducible rfl, rfl⟩
  · have q1 := b01_f hx
    rw [aC2_b1 hx]
    refine ev_start 0 (lv := [some (.ref 0), some (.int x), some (.int y)]) rfl (by decide) (Nat.le_of_ble_eq_true rfl) ?_
    refine ev_aload_n dX11_multiply_0 rfl ?_
    refine ev_iload_n dX11_multiply_1 rfl ?_
    refine ev_callV (cl_isCodeC g hn) ok_X11_isCode ml_X11_168 rfl rfl rfl rfl (Nat.le_of_ble_eq_true rfl) dX11_multiply_2 (kI ?_)
    refine ev_if_eqN 16 dX11_multiply_5 (by decide) (by omega) (fun c5 => ?_) (fun c5 => ?_)
    · refine ev_iconst (-1) dX11_multiply_16 rfl ?_
      refine ev_iret dX11_multiply_17 rfl ?_
      exact ⟨by with_reducible rfl, rfl⟩
    · omega
theorem cl_divideC {n N : Nat} {x y : Int32} (g : gC h n N) (ok : gOK n N) : Cl G (d + 3) M_X11_divide [.ref 0, .int x, .int y] h (qI (aC2 n x y aDiv) h) := by
  have hn := ok.2.1
  have h4 := four_n hn
  by_cases hx : inR x (4 ^ n)
  · have q1 := b01_t hx
    obtain ⟨a, ha, rfl⟩ := hx
    by_cases hy : inR y (4 ^ n)
    · have q2 := b01_t hy
      obtain ⟨b, hb, rfl⟩ := hy
      rw [aC2_t hn ha hb]
      have q3 := b01_lt (dvd b a)
      refine ev_start 0 (lv := [some (.ref 0), some (.int (nI a)), some (.int (nI b))]) rfl (by decide) (Nat.le_of_ble_eq_true rfl) ?_
      refine ev_aload_n dX11_divide_0 rfl ?_
      refine ev_iload_n dX11_divide_1 rfl ?_
      refine ev_callV (cl_isCodeC g hn) ok_X11_isCode ml_X11_168 rfl rfl rfl rfl (Nat.le_of_ble_eq_true rfl) dX11_divide_2 (kI ?_)
      refine ev_if_eqN 16 dX11_divide_5 (by decide) (by omega) (fun c5 => ?_) (fun c5 => ?_)
      · omega
      · refine ev_aload_n dX11_divide_8 rfl ?_
        refine ev_iload_n dX11_divide_9 rfl ?_
        refine ev_callV (cl_isCodeC g hn) ok_X11_isCode ml_X11_168 rfl rfl rfl rfl (Nat.le_of_ble_eq_true rfl) dX11_divide_10 (kI ?_)
        refine ev_if_neN 18 dX11_divide_13 (by decide) (by omega) (fun c13 => ?_) (fun c13 => ?_)
        · refine ev_iload_n dX11_divide_18 rfl ?_
          refine ev_iload_n dX11_divide_19 rfl ?_
          refine ev_callS (cl_dividesC (by omega) (by omega)) ok_X6_divides ml_X11_181 rfl rfl (Nat.le_of_ble_eq_true rfl) dX11_divide_20 (kI ?_)
          refine ev_if_eqN 32 dX11_divide_23 (by decide) (by omega) (fun c23 => ?_) (fun c23 => ?_)
          · refine ev_bipush (-5) dX11_divide_32 rfl ?_
            refine ev_iret dX11_divide_34 rfl ?_
            exact ⟨by unfold aDiv; rw [if_neg (b01_0.mp c23)], rfl⟩
          · have hd : dvd b a := b01_1.mp (by omega)
            have hle := dvd_le (by omega) (by omega) hd
            refine ev_iload_n dX11_divide_26 rfl ?_
            refine ev_iload_n dX11_divide_27 rfl ?_
            refine ev_isubN dX11_divide_28 (by omega) ?_
            refine ev_goto 34 dX11_divide_29 (by decide) ?_
            refine ev_iret dX11_divide_34 rfl ?_
            exact ⟨by unfold aDiv; rw [if_pos hd], rfl⟩
        · omega
    · have q2 := b01_f hy
      rw [aC2_b2 hn ha hy]
      refine ev_start 0 (lv := [some (.ref 0), some (.int (nI a)), some (.int y)]) rfl (by decide) (Nat.le_of_ble_eq_true rfl) ?_
      refine ev_aload_n dX11_divide_0 rfl ?_
      refine ev_iload_n dX11_divide_1 rfl ?_
      refine ev_callV (cl_isCodeC g hn) ok_X11_isCode ml_X11_168 rfl rfl rfl rfl (Nat.le_of_ble_eq_true rfl) dX11_divide_2 (kI ?_)
      refine ev_if_eqN 16 dX11_divide_5 (by decide) (by omega) (fun c5 => ?_) (fun c5 => ?_)
      · omega
      · refine ev_aload_n dX11_divide_8 rfl ?_
        refine ev_iload_n dX11_divide_9 rfl ?_
        refine ev_callV (cl_isCodeC g hn) ok_X11_isCode ml_X11_168 rfl rfl rfl rfl (Nat.le_of_ble_eq_true rfl) dX11_divide_10 (kI ?_)
        refine ev_if_neN 18 dX11_divide_13 (by decide) (by omega) (fun c13 => ?_) (fun c13 => ?_)
        · omega
        · refine ev_iconst (-1) dX11_divide_16 rfl ?_
          refine ev_iret dX11_divide_17 rfl ?_
          exact ⟨by with_reducible rfl, rfl⟩
  · have q1 := b01_f hx
    rw [aC2_b1 hx]
    refine ev_start 0 (lv := [some (.ref 0), some (.int x), some (.int y)]) rfl (by decide) (Nat.le_of_ble_eq_true rfl) ?_
    refine ev_aload_n dX11_divide_0 rfl ?_
    refine ev_iload_n dX11_divide_1 rfl ?_
    refine ev_callV (cl_isCodeC g hn) ok_X11_isCode ml_X11_168 rfl rfl rfl rfl (Nat.le_of_ble_eq_true rfl) dX11_divide_2 (kI ?_)
    refine ev_if_eqN 16 dX11_divide_5 (by decide) (by omega) (fun c5 => ?_) (fun c5 => ?_)
    · refine ev_iconst (-1) dX11_divide_16 rfl ?_
      refine ev_iret dX11_divide_17 rfl ?_
      exact ⟨by with_reducible rfl, rfl⟩
    · omega
theorem cl_divideM {n N : Nat} {x y : Int32} (g : gM h n N) (ok : gOK n N) : Cl G (d + 3) M_X12_divide [.ref 67, .int x, .int y] h (qI (aC2 n x y aDiv) h) := by
  have hn := ok.2.1
  have h4 := four_n hn
  by_cases hx : inR x (4 ^ n)
  · have q1 := b01_t hx
    obtain ⟨a, ha, rfl⟩ := hx
    by_cases hy : inR y (4 ^ n)
    · have q2 := b01_t hy
      obtain ⟨b, hb, rfl⟩ := hy
      rw [aC2_t hn ha hb]
      have q3 := b01_lt (dvd b a)
      refine ev_start 0 (lv := [some (.ref 67), some (.int (nI a)), some (.int (nI b))]) rfl (by decide) (Nat.le_of_ble_eq_true rfl) ?_
      refine ev_aload_n dX12_divide_0 rfl ?_
      refine ev_iload_n dX12_divide_1 rfl ?_
      refine ev_callV (cl_isCodeM g hn) ok_X12_isCode ml_X12_160 rfl rfl rfl rfl (Nat.le_of_ble_eq_true rfl) dX12_divide_2 (kI ?_)
      refine ev_if_eqN 16 dX12_divide_5 (by decide) (by omega) (fun c5 => ?_) (fun c5 => ?_)
      · omega
      · refine ev_aload_n dX12_divide_8 rfl ?_
        refine ev_iload_n dX12_divide_9 rfl ?_
        refine ev_callV (cl_isCodeM g hn) ok_X12_isCode ml_X12_160 rfl rfl rfl rfl (Nat.le_of_ble_eq_true rfl) dX12_divide_10 (kI ?_)
        refine ev_if_neN 18 dX12_divide_13 (by decide) (by omega) (fun c13 => ?_) (fun c13 => ?_)
        · refine ev_iload_n dX12_divide_18 rfl ?_
          refine ev_iload_n dX12_divide_19 rfl ?_
          refine ev_callS (cl_dividesM (by omega) (by omega)) ok_X12_divides ml_X12_166 rfl rfl (Nat.le_of_ble_eq_true rfl) dX12_divide_20 (kI ?_)
          refine ev_if_eqN 32 dX12_divide_23 (by decide) (by omega) (fun c23 => ?_) (fun c23 => ?_)
          · refine ev_bipush (-5) dX12_divide_32 rfl ?_
            refine ev_iret dX12_divide_34 rfl ?_
            exact ⟨by unfold aDiv; rw [if_neg (b01_0.mp c23)], rfl⟩
          · have hd : dvd b a := b01_1.mp (by omega)
            have hle := dvd_le (by omega) (by omega) hd
            refine ev_iload_n dX12_divide_26 rfl ?_
            refine ev_iload_n dX12_divide_27 rfl ?_
            refine ev_isubN dX12_divide_28 (by omega) ?_
            refine ev_goto 34 dX12_divide_29 (by decide) ?_
            refine ev_iret dX12_divide_34 rfl ?_
            exact ⟨by unfold aDiv; rw [if_pos hd], rfl⟩
        · omega
    · have q2 := b01_f hy
      rw [aC2_b2 hn ha hy]
      refine ev_start 0 (lv := [some (.ref 67), some (.int (nI a)), some (.int y)]) rfl (by decide) (Nat.le_of_ble_eq_true rfl) ?_
      refine ev_aload_n dX12_divide_0 rfl ?_
      refine ev_iload_n dX12_divide_1 rfl ?_
      refine ev_callV (cl_isCodeM g hn) ok_X12_isCode ml_X12_160 rfl rfl rfl rfl (Nat.le_of_ble_eq_true rfl) dX12_divide_2 (kI ?_)
      refine ev_if_eqN 16 dX12_divide_5 (by decide) (by omega) (fun c5 => ?_) (fun c5 => ?_)
      · omega
      · refine ev_aload_n dX12_divide_8 rfl ?_
        refine ev_iload_n dX12_divide_9 rfl ?_
        refine ev_callV (cl_isCodeM g hn) ok_X12_isCode ml_X12_160 rfl rfl rfl rfl (Nat.le_of_ble_eq_true rfl) dX12_divide_10 (kI ?_)
        refine ev_if_neN 18 dX12_divide_13 (by decide) (by omega) (fun c13 => ?_) (fun c13 => ?_)
        · omega
        · refine ev_iconst (-1) dX12_divide_16 rfl ?_
          refine ev_iret dX12_divide_17 rfl ?_
          exact ⟨by with_reducible rfl, rfl⟩
  · have q1 := b01_f hx
    rw [aC2_b1 hx]
    refine ev_start 0 (lv := [some (.ref 67), some (.int x), some (.int y)]) rfl (by decide) (Nat.le_of_ble_eq_true rfl) ?_
    refine ev_aload_n dX12_divide_0 rfl ?_
    refine ev_iload_n dX12_divide_1 rfl ?_
    refine ev_callV (cl_isCodeM g hn) ok_X12_isCode ml_X12_160 rfl rfl rfl rfl (Nat.le_of_ble_eq_true rfl) dX12_divide_2 (kI ?_)
    refine ev_if_eqN 16 dX12_divide_5 (by decide) (by omega) (fun c5 => ?_) (fun c5 => ?_)
    · refine ev_iconst (-1) dX12_divide_16 rfl ?_
      refine ev_iret dX12_divide_17 rfl ?_
      exact ⟨by with_reducible rfl, rfl⟩
    · omega
theorem cl_gcdC {n N : Nat} {x y : Int32} (g : gC h n N) (ok : gOK n N) : Cl G (d + 2) M_X11_gcd [.ref 0, .int x, .int y] h (qI (aC2 n x y (fun a b => nI (gcdN a b))) h) := by
  have hn := ok.2.1
  have h4 := four_n hn
  by_cases hx : inR x (4 ^ n)
  · have q1 := b01_t hx
    obtain ⟨a, ha, rfl⟩ := hx
    by_cases hy : inR y (4 ^ n)
    · have q2 := b01_t hy
      obtain ⟨b, hb, rfl⟩ := hy
      rw [aC2_t hn ha hb]
      refine ev_start 0 (lv := [some (.ref 0), some (.int (nI a)), some (.int (nI b))]) rfl (by decide) (Nat.le_of_ble_eq_true rfl) ?_
      refine ev_aload_n dX11_gcd_0 rfl ?_
      refine ev_iload_n dX11_gcd_1 rfl ?_
      refine ev_callV (cl_isCodeC g hn) ok_X11_isCode ml_X11_168 rfl rfl rfl rfl (Nat.le_of_ble_eq_true rfl) dX11_gcd_2 (kI ?_)
      refine ev_if_eqN 24 dX11_gcd_5 (by decide) (by omega) (fun c5 => ?_) (fun c5 => ?_)
      · omega
      · refine ev_aload_n dX11_gcd_8 rfl ?_
        refine ev_iload_n dX11_gcd_9 rfl ?_
        refine ev_callV (cl_isCodeC g hn) ok_X11_isCode ml_X11_168 rfl rfl rfl rfl (Nat.le_of_ble_eq_true rfl) dX11_gcd_10 (kI ?_)
        refine ev_if_eqN 24 dX11_gcd_13 (by decide) (by omega) (fun c13 => ?_) (fun c13 => ?_)
        · omega
        · refine ev_iload_n dX11_gcd_16 rfl ?_
          refine ev_iload_n dX11_gcd_17 rfl ?_
          refine ev_callS (cl_commonDivisor (by omega) (by omega)) ok_X6_commonDivisor ml_X11_185 rfl rfl (Nat.le_of_ble_eq_true rfl) dX11_gcd_18 (kI ?_)
          refine ev_goto 25 dX11_gcd_21 (by decide) ?_
          refine ev_iret dX11_gcd_25 rfl ?_
          exact ⟨by with_reducible rfl, rfl⟩
    · have q2 := b01_f hy
      rw [aC2_b2 hn ha hy]
      refine ev_start 0 (lv := [some (.ref 0), some (.int (nI a)), some (.int y)]) rfl (by decide) (Nat.le_of_ble_eq_true rfl) ?_
      refine ev_aload_n dX11_gcd_0 rfl ?_
      refine ev_iload_n dX11_gcd_1 rfl ?_
      refine ev_callV (cl_isCodeC g hn) ok_X11_isCode ml_X11_168 rfl rfl rfl rfl (Nat.le_of_ble_eq_true rfl) dX11_gcd_2 (kI ?_)
      refine ev_if_eqN 24 dX11_gcd_5 (by decide) (by omega) (fun c5 => ?_) (fun c5 => ?_)
      · omega
      · refine ev_aload_n dX11_gcd_8 rfl ?_
        refine ev_iload_n dX11_gcd_9 rfl ?_
        refine ev_callV (cl_isCodeC g hn) ok_X11_isCode ml_X11_168 rfl rfl rfl rfl (Nat.le_of_ble_eq_true rfl) dX11_gcd_10 (kI ?_)
        refine ev_if_eqN 24 dX11_gcd_13 (by decide) (by omega) (fun c13 => ?_) (fun c13 => ?_)
        · refine ev_iconst (-1) dX11_gcd_24 rfl ?_
          refine ev_iret dX11_gcd_25 rfl ?_
          exact ⟨by with_reducible rfl, rfl⟩
        · omega
  · have q1 := b01_f hx
    rw [aC2_b1 hx]
    refine ev_start 0 (lv := [some (.ref 0), some (.int x), some (.int y)]) rfl (by decide) (Nat.le_of_ble_eq_true rfl) ?_
    refine ev_aload_n dX11_gcd_0 rfl ?_
    refine ev_iload_n dX11_gcd_1 rfl ?_
    refine ev_callV (cl_isCodeC g hn) ok_X11_isCode ml_X11_168 rfl rfl rfl rfl (Nat.le_of_ble_eq_true rfl) dX11_gcd_2 (kI ?_)
    refine ev_if_eqN 24 dX11_gcd_5 (by decide) (by omega) (fun c5 => ?_) (fun c5 => ?_)
    · refine ev_iconst (-1) dX11_gcd_24 rfl ?_
      refine ev_iret dX11_gcd_25 rfl ?_
      exact ⟨by with_reducible rfl, rfl⟩
    · omega
theorem cl_lcmC {n N : Nat} {x y : Int32} (g : gC h n N) (ok : gOK n N) : Cl G (d + 2) M_X11_lcm [.ref 0, .int x, .int y] h (qI (aC2 n x y (fun a b => nI (lcmN a b))) h) := by
  have hn := ok.2.1
  have h4 := four_n hn
  by_cases hx : inR x (4 ^ n)
  · have q1 := b01_t hx
    obtain ⟨a, ha, rfl⟩ := hx
    by_cases hy : inR y (4 ^ n)
    · have q2 := b01_t hy
      obtain ⟨b, hb, rfl⟩ := hy
      rw [aC2_t hn ha hb]
      have el := gcd_lcm (show a < 16384 by omega) (show b < 16384 by omega)
      have el' : lcmN a b = a + b - gcdN a b := by unfold lcmN; omega
      refine ev_start 0 (lv := [some (.ref 0), some (.int (nI a)), some (.int (nI b))]) rfl (by decide) (Nat.le_of_ble_eq_true rfl) ?_
      refine ev_aload_n dX11_lcm_0 rfl ?_
      refine ev_iload_n dX11_lcm_1 rfl ?_
      refine ev_callV (cl_isCodeC g hn) ok_X11_isCode ml_X11_168 rfl rfl rfl rfl (Nat.le_of_ble_eq_true rfl) dX11_lcm_2 (kI ?_)
      refine ev_if_eqN 28 dX11_lcm_5 (by decide) (by omega) (fun c5 => ?_) (fun c5 => ?_)
      · omega
      · refine ev_aload_n dX11_lcm_8 rfl ?_
        refine ev_iload_n dX11_lcm_9 rfl ?_
        refine ev_callV (cl_isCodeC g hn) ok_X11_isCode ml_X11_168 rfl rfl rfl rfl (Nat.le_of_ble_eq_true rfl) dX11_lcm_10 (kI ?_)
        refine ev_if_eqN 28 dX11_lcm_13 (by decide) (by omega) (fun c13 => ?_) (fun c13 => ?_)
        · omega
        · refine ev_iload_n dX11_lcm_16 rfl ?_
          refine ev_iload_n dX11_lcm_17 rfl ?_
          refine ev_iaddN dX11_lcm_18 ?_
          refine ev_iload_n dX11_lcm_19 rfl ?_
          refine ev_iload_n dX11_lcm_20 rfl ?_
          refine ev_callS (cl_commonDivisor (by omega) (by omega)) ok_X6_commonDivisor ml_X11_185 rfl rfl (Nat.le_of_ble_eq_true rfl) dX11_lcm_21 (kI ?_)
          refine ev_isubN dX11_lcm_24 (by omega) ?_
          refine ev_goto 29 dX11_lcm_25 (by decide) ?_
          refine ev_iret dX11_lcm_29 rfl ?_
          exact ⟨by rw [el'], rfl⟩
    · have q2 := b01_f hy
      rw [aC2_b2 hn ha hy]
      refine ev_start 0 (lv := [some (.ref 0), some (.int (nI a)), some (.int y)]) rfl (by decide) (Nat.le_of_ble_eq_true rfl) ?_
      refine ev_aload_n dX11_lcm_0 rfl ?_
      refine ev_iload_n dX11_lcm_1 rfl ?_
      refine ev_callV (cl_isCodeC g hn) ok_X11_isCode ml_X11_168 rfl rfl rfl rfl (Nat.le_of_ble_eq_true rfl) dX11_lcm_2 (kI ?_)
      refine ev_if_eqN 28 dX11_lcm_5 (by decide) (by omega) (fun c5 => ?_) (fun c5 => ?_)
      · omega
      · refine ev_aload_n dX11_lcm_8 rfl ?_
        refine ev_iload_n dX11_lcm_9 rfl ?_
        refine ev_callV (cl_isCodeC g hn) ok_X11_isCode ml_X11_168 rfl rfl rfl rfl (Nat.le_of_ble_eq_true rfl) dX11_lcm_10 (kI ?_)
        refine ev_if_eqN 28 dX11_lcm_13 (by decide) (by omega) (fun c13 => ?_) (fun c13 => ?_)
        · refine ev_iconst (-1) dX11_lcm_28 rfl ?_
          refine ev_iret dX11_lcm_29 rfl ?_
          exact ⟨by with_reducible rfl, rfl⟩
        · omega
  · have q1 := b01_f hx
    rw [aC2_b1 hx]
    refine ev_start 0 (lv := [some (.ref 0), some (.int x), some (.int y)]) rfl (by decide) (Nat.le_of_ble_eq_true rfl) ?_
    refine ev_aload_n dX11_lcm_0 rfl ?_
    refine ev_iload_n dX11_lcm_1 rfl ?_
    refine ev_callV (cl_isCodeC g hn) ok_X11_isCode ml_X11_168 rfl rfl rfl rfl (Nat.le_of_ble_eq_true rfl) dX11_lcm_2 (kI ?_)
    refine ev_if_eqN 28 dX11_lcm_5 (by decide) (by omega) (fun c5 => ?_) (fun c5 => ?_)
    · refine ev_iconst (-1) dX11_lcm_28 rfl ?_
      refine ev_iret dX11_lcm_29 rfl ?_
      exact ⟨by with_reducible rfl, rfl⟩
    · omega
theorem cl_multiplyM {n N : Nat} {x y : Int32} (g : gM h n N) (ok : gOK n N) : Cl G (d + 2) M_X12_multiply [.ref 67, .int x, .int y] h (qI (aC2 n x y aMul) h) := by
  have hn := ok.2.1
  have h4 := four_n hn
  by_cases hx : inR x (4 ^ n)
  · have q1 := b01_t hx
    obtain ⟨a, ha, rfl⟩ := hx
    by_cases hy : inR y (4 ^ n)
    · have q2 := b01_t hy
      obtain ⟨b, hb, rfl⟩ := hy
      rw [aC2_t hn ha hb]
      have loop : ∀ (k v : Nat), v + k = n → (∀ w, w < v → ex a w + ex b w ≤ 3) → Ev G (d + 2) M_X12_multiply 20 [some (.ref 67), some (.int (nI a)), some (.int (nI b)), some (.int (nI v))] [] h (qI (aMul a b) h) := by
        intro k
        induction k with
        | zero =>
          intro v hv hw
          obtain rfl : v = n := by omega
          refine ev_iload_n dX12_multiply_20 rfl ?_
          refine ev_aload_n dX12_multiply_21 rfl ?_
          refine ev_getIv (g.1) fl_X12_9 rfl rfl dX12_multiply_22 ?_
          refine ev_icmp_geN 52 dX12_multiply_25 (by decide) (by omega) (by omega) (fun c25 => ?_) (fun c25 => ?_)
          · refine ev_iload_n dX12_multiply_52 rfl ?_
            refine ev_iload_n dX12_multiply_53 rfl ?_
            refine ev_iaddN dX12_multiply_54 ?_
            refine ev_iret dX12_multiply_55 rfl ?_
            exact ⟨by
            unfold aMul
            rw [if_pos (fun w hw7 => by
              by_cases e : w < v
              · exact hw w e
              · rw [ex_big ha (by omega), ex_big hb (by omega)]; omega)], rfl⟩
          · omega
        | succ k ih =>
          intro v hv hw
          have x1 := ex_lt a v
          have x2 := ex_lt b v
          refine ev_iload_n dX12_multiply_20 rfl ?_
          refine ev_aload_n dX12_multiply_21 rfl ?_
          refine ev_getIv (g.1) fl_X12_9 rfl rfl dX12_multiply_22 ?_
          refine ev_icmp_geN 52 dX12_multiply_25 (by decide) (by omega) (by omega) (fun c25 => ?_) (fun c25 => ?_)
          · omega
          · refine ev_iload_n dX12_multiply_28 rfl ?_
            refine ev_iload_n dX12_multiply_29 rfl ?_
            refine ev_callS (cl_exponentOfM (by omega) (by omega)) ok_X12_exponentOf ml_X12_128 rfl rfl (Nat.le_of_ble_eq_true rfl) dX12_multiply_30 (kI ?_)
            refine ev_iload_n dX12_multiply_33 rfl ?_
            refine ev_iload_n dX12_multiply_34 rfl ?_
            refine ev_callS (cl_exponentOfM (by omega) (by omega)) ok_X12_exponentOf ml_X12_128 rfl rfl (Nat.le_of_ble_eq_true rfl) dX12_multiply_35 (kI ?_)
            refine ev_iaddN dX12_multiply_38 ?_
            refine ev_iconst (nI 3) dX12_multiply_39 rfl ?_
            refine ev_icmp_leN 46 dX12_multiply_40 (by decide) (by omega) (by omega) (fun c40 => ?_) (fun c40 => ?_)
            · refine ev_inc3N dX12_multiply_46 (by decide) rfl ?_
              refine ev_goto 20 dX12_multiply_49 (by decide) ?_
              exact ih (v + 1) (by omega) (fun w h1 => by
              by_cases e : w = v
              · subst e; omega
              · exact hw w (by omega))
            · refine ev_bipush (-3) dX12_multiply_43 rfl ?_
              refine ev_iret dX12_multiply_45 rfl ?_
              exact ⟨by unfold aMul; rw [if_neg (fun z => by have := z v (by omega); omega)], rfl⟩
      refine ev_start 1 (lv := [some (.ref 67), some (.int (nI a)), some (.int (nI b)), none]) rfl (by decide) (Nat.le_of_ble_eq_true rfl) ?_
      refine ev_aload_n dX12_multiply_0 rfl ?_
      refine ev_iload_n dX12_multiply_1 rfl ?_
      refine ev_callV (cl_isCodeM g hn) ok_X12_isCode ml_X12_160 rfl rfl rfl rfl (Nat.le_of_ble_eq_true rfl) dX12_multiply_2 (kI ?_)
      refine ev_if_eqN 16 dX12_multiply_5 (by decide) (by omega) (fun c5 => ?_) (fun c5 => ?_)
      · omega
      · refine ev_aload_n dX12_multiply_8 rfl ?_
        refine ev_iload_n dX12_multiply_9 rfl ?_
        refine ev_callV (cl_isCodeM g hn) ok_X12_isCode ml_X12_160 rfl rfl rfl rfl (Nat.le_of_ble_eq_true rfl) dX12_multiply_10 (kI ?_)
        refine ev_if_neN 18 dX12_multiply_13 (by decide) (by omega) (fun c13 => ?_) (fun c13 => ?_)
        · refine ev_iconst (nI 0) dX12_multiply_18 rfl ?_
          refine ev_ist3 dX12_multiply_19 (by decide) rfl ?_
          exact loop n 0 (by omega) (fun w h1 => absurd h1 (by omega))
        · omega
    · have q2 := b01_f hy
      rw [aC2_b2 hn ha hy]
      refine ev_start 1 (lv := [some (.ref 67), some (.int (nI a)), some (.int y), none]) rfl (by decide) (Nat.le_of_ble_eq_true rfl) ?_
      refine ev_aload_n dX12_multiply_0 rfl ?_
      refine ev_iload_n dX12_multiply_1 rfl ?_
      refine ev_callV (cl_isCodeM g hn) ok_X12_isCode ml_X12_160 rfl rfl rfl rfl (Nat.le_of_ble_eq_true rfl) dX12_multiply_2 (kI ?_)
      refine ev_if_eqN 16 dX12_multiply_5 (by decide) (by omega) (fun c5 => ?_) (fun c5 => ?_)
      · omega
      · refine ev_aload_n dX12_multiply_8 rfl ?_
        refine ev_iload_n dX12_multiply_9 rfl ?_
        refine ev_callV (cl_isCodeM g hn) ok_X12_isCode ml_X12_160 rfl rfl rfl rfl (Nat.le_of_ble_eq_true rfl) dX12_multiply_10 (kI ?_)
        refine ev_if_neN 18 dX12_multiply_13 (by decide) (by omega) (fun c13 => ?_) (fun c13 => ?_)
        · omega
        · refine ev_iconst (-1) dX12_multiply_16 rfl ?_
          refine ev_iret dX12_multiply_17 rfl ?_
          exact ⟨by with_reducible rfl, rfl⟩
  · have q1 := b01_f hx
    rw [aC2_b1 hx]
    refine ev_start 1 (lv := [some (.ref 67), some (.int x), some (.int y), none]) rfl (by decide) (Nat.le_of_ble_eq_true rfl) ?_
    refine ev_aload_n dX12_multiply_0 rfl ?_
    refine ev_iload_n dX12_multiply_1 rfl ?_
    refine ev_callV (cl_isCodeM g hn) ok_X12_isCode ml_X12_160 rfl rfl rfl rfl (Nat.le_of_ble_eq_true rfl) dX12_multiply_2 (kI ?_)
    refine ev_if_eqN 16 dX12_multiply_5 (by decide) (by omega) (fun c5 => ?_) (fun c5 => ?_)
    · refine ev_iconst (-1) dX12_multiply_16 rfl ?_
      refine ev_iret dX12_multiply_17 rfl ?_
      exact ⟨by with_reducible rfl, rfl⟩
    · omega
theorem cl_combinedL {n N : Nat} {x y : Int32} (g : gM h n N) (ok : gOK n N) : Cl G (d + 2) M_X12_combined [.ref 67, .int x, .int y, .int (nI 1)] h (qI (aC2 n x y (fun a b => nI (lcmN a b))) h) := by
  have hn := ok.2.1
  have h4 := four_n hn
  by_cases hx : inR x (4 ^ n)
  · have q1 := b01_t hx
    obtain ⟨a, ha, rfl⟩ := hx
    by_cases hy : inR y (4 ^ n)
    · have q2 := b01_t hy
      obtain ⟨b, hb, rfl⟩ := hy
      rw [aC2_t hn ha hb]
      have loop : ∀ (k v : Nat), v + k = n → ∀ x6 x7 : Option Value, Ev G (d + 2) M_X12_combined 24 [some (.ref 67), some (.int (nI a)), some (.int (nI b)), some (.int (nI 1)), some (.int (nI (sumTo v (fun w => max (ex a w) (ex b w) * 4 ^ w)))), some (.int (nI v)), x6, x7] [] h (qI (nI (lcmN a b)) h) := by
        intro k
        induction k with
        | zero =>
          intro v hv x6 x7
          obtain rfl : v = n := by omega
          rw [show sumTo v (fun w => max (ex a w) (ex b w) * 4 ^ w) = lcmN a b from (sumTo_z (by omega) (fun i h1 h2 => by rw [ex_big ha h1, ex_big hb h1]; simp)).symm]
          refine ev_iload dX12_combined_24 rfl ?_
          refine ev_aload_n dX12_combined_26 rfl ?_
          refine ev_getIv (g.1) fl_X12_9 rfl rfl dX12_combined_27 ?_
          refine ev_icmp_geN 88 dX12_combined_30 (by decide) (by omega) (by omega) (fun c30 => ?_) (fun c30 => ?_)
          · refine ev_iload dX12_combined_88 rfl ?_
            refine ev_iret dX12_combined_90 rfl ?_
            exact ⟨by with_reducible rfl, rfl⟩
          · omega
        | succ k ih =>
          intro v hv x6 x7
          have x1 := ex_lt a v
          have x2 := ex_lt b v
          have hs : sumTo v (fun w => max (ex a w) (ex b w) * 4 ^ w) < 4 ^ v := sum_lt4 v (fun i _ => by have := ex_lt a i; have := ex_lt b i; omega)
          have pv : 4 ^ v ≤ 4 ^ 6 := Nat.pow_le_pow_right (by decide) (by omega)
          have sh : ∀ p, p < 4 → p * 2 ^ (2 * v) < 2 ^ 32 := fun p hp => by
            rw [pow4]
            have := Nat.mul_le_mul (show p ≤ 3 by omega) pv
            omega
          have q := ih (v + 1) (by omega)
          simp only [sumTo] at q
          refine ev_iload dX12_combined_24 rfl ?_
          refine ev_aload_n dX12_combined_26 rfl ?_
          refine ev_getIv (g.1) fl_X12_9 rfl rfl dX12_combined_27 ?_
          refine ev_icmp_geN 88 dX12_combined_30 (by decide) (by omega) (by omega) (fun c30 => ?_) (fun c30 => ?_)
          · omega
          · refine ev_iload_n dX12_combined_33 rfl ?_
            refine ev_iload dX12_combined_34 rfl ?_
            refine ev_callS (cl_exponentOfM (by omega) (by omega)) ok_X12_exponentOf ml_X12_128 rfl rfl (Nat.le_of_ble_eq_true rfl) dX12_combined_36 (kI ?_)
            refine ev_ist6 dX12_combined_39 (by decide) rfl ?_
            refine ev_iload_n dX12_combined_41 rfl ?_
            refine ev_iload dX12_combined_42 rfl ?_
            refine ev_callS (cl_exponentOfM (by omega) (by omega)) ok_X12_exponentOf ml_X12_128 rfl rfl (Nat.le_of_ble_eq_true rfl) dX12_combined_44 (kI ?_)
            refine ev_ist7 dX12_combined_47 (by decide) rfl ?_
            refine ev_iload dX12_combined_49 rfl ?_
            refine ev_iload dX12_combined_51 rfl ?_
            refine ev_iload dX12_combined_53 rfl ?_
            refine ev_icmp_leN 62 dX12_combined_55 (by decide) (by omega) (by omega) (fun c55 => ?_) (fun c55 => ?_)
            · refine ev_iconst (nI 0) dX12_combined_62 rfl ?_
              refine ev_iload_n dX12_combined_63 rfl ?_
              refine ev_icmp_neN 72 dX12_combined_64 (by decide) (by omega) (by omega) (fun c64 => ?_) (fun c64 => ?_)
              · refine ev_iload dX12_combined_72 rfl ?_
                refine ev_iconst (nI 2) dX12_combined_74 rfl ?_
                refine ev_iload dX12_combined_75 rfl ?_
                refine ev_imulN dX12_combined_77 ?_
                refine ev_ishlN dX12_combined_78 (by omega) (sh _ (by omega)) ?_
                refine ev_iorN dX12_combined_79 ?_
                rw [or_add4 hs]
                refine ev_ist4 dX12_combined_80 (by decide) rfl ?_
                refine ev_inc5N dX12_combined_82 (by decide) rfl ?_
                refine ev_goto 24 dX12_combined_85 (by decide) ?_
                rw [show max (ex a v) (ex b v) = ex b v by omega] at q
                exact q _ _
              · omega
            · refine ev_iconst (nI 1) dX12_combined_58 rfl ?_
              refine ev_goto 63 dX12_combined_59 (by decide) ?_
              refine ev_iload_n dX12_combined_63 rfl ?_
              refine ev_icmp_neN 72 dX12_combined_64 (by decide) (by omega) (by omega) (fun c64 => ?_) (fun c64 => ?_)
              · omega
              · refine ev_iload dX12_combined_67 rfl ?_
                refine ev_goto 74 dX12_combined_69 (by decide) ?_
                refine ev_iconst (nI 2) dX12_combined_74 rfl ?_
                refine ev_iload dX12_combined_75 rfl ?_
                refine ev_imulN dX12_combined_77 ?_
                refine ev_ishlN dX12_combined_78 (by omega) (sh _ (by omega)) ?_
                refine ev_iorN dX12_combined_79 ?_
                rw [or_add4 hs]
                refine ev_ist4 dX12_combined_80 (by decide) rfl ?_
                refine ev_inc5N dX12_combined_82 (by decide) rfl ?_
                refine ev_goto 24 dX12_combined_85 (by decide) ?_
                rw [show max (ex a v) (ex b v) = ex a v by omega] at q
                exact q _ _
      refine ev_start 4 (lv := [some (.ref 67), some (.int (nI a)), some (.int (nI b)), some (.int (nI 1)), none, none, none, none]) rfl (by decide) (Nat.le_of_ble_eq_true rfl) ?_
      refine ev_aload_n dX12_combined_0 rfl ?_
      refine ev_iload_n dX12_combined_1 rfl ?_
      refine ev_callV (cl_isCodeM g hn) ok_X12_isCode ml_X12_160 rfl rfl rfl rfl (Nat.le_of_ble_eq_true rfl) dX12_combined_2 (kI ?_)
      refine ev_if_eqN 16 dX12_combined_5 (by decide) (by omega) (fun c5 => ?_) (fun c5 => ?_)
      · omega
      · refine ev_aload_n dX12_combined_8 rfl ?_
        refine ev_iload_n dX12_combined_9 rfl ?_
        refine ev_callV (cl_isCodeM g hn) ok_X12_isCode ml_X12_160 rfl rfl rfl rfl (Nat.le_of_ble_eq_true rfl) dX12_combined_10 (kI ?_)
        refine ev_if_neN 18 dX12_combined_13 (by decide) (by omega) (fun c13 => ?_) (fun c13 => ?_)
        · refine ev_iconst (nI 0) dX12_combined_18 rfl ?_
          refine ev_ist4 dX12_combined_19 (by decide) rfl ?_
          refine ev_iconst (nI 0) dX12_combined_21 rfl ?_
          refine ev_ist5 dX12_combined_22 (by decide) rfl ?_
          exact loop n 0 (by omega) none none
        · omega
    · have q2 := b01_f hy
      rw [aC2_b2 hn ha hy]
      refine ev_start 4 (lv := [some (.ref 67), some (.int (nI a)), some (.int y), some (.int (nI 1)), none, none, none, none]) rfl (by decide) (Nat.le_of_ble_eq_true rfl) ?_
      refine ev_aload_n dX12_combined_0 rfl ?_
      refine ev_iload_n dX12_combined_1 rfl ?_
      refine ev_callV (cl_isCodeM g hn) ok_X12_isCode ml_X12_160 rfl rfl rfl rfl (Nat.le_of_ble_eq_true rfl) dX12_combined_2 (kI ?_)
      refine ev_if_eqN 16 dX12_combined_5 (by decide) (by omega) (fun c5 => ?_) (fun c5 => ?_)
      · omega
      · refine ev_aload_n dX12_combined_8 rfl ?_
        refine ev_iload_n dX12_combined_9 rfl ?_
        refine ev_callV (cl_isCodeM g hn) ok_X12_isCode ml_X12_160 rfl rfl rfl rfl (Nat.le_of_ble_eq_true rfl) dX12_combined_10 (kI ?_)
        refine ev_if_neN 18 dX12_combined_13 (by decide) (by omega) (fun c13 => ?_) (fun c13 => ?_)
        · omega
        · refine ev_iconst (-1) dX12_combined_16 rfl ?_
          refine ev_iret dX12_combined_17 rfl ?_
          exact ⟨by with_reducible rfl, rfl⟩
  · have q1 := b01_f hx
    rw [aC2_b1 hx]
    refine ev_start 4 (lv := [some (.ref 67), some (.int x), some (.int y), some (.int (nI 1)), none, none, none, none]) rfl (by decide) (Nat.le_of_ble_eq_true rfl) ?_
    refine ev_aload_n dX12_combined_0 rfl ?_
    refine ev_iload_n dX12_combined_1 rfl ?_
    refine ev_callV (cl_isCodeM g hn) ok_X12_isCode ml_X12_160 rfl rfl rfl rfl (Nat.le_of_ble_eq_true rfl) dX12_combined_2 (kI ?_)
    refine ev_if_eqN 16 dX12_combined_5 (by decide) (by omega) (fun c5 => ?_) (fun c5 => ?_)
    · refine ev_iconst (-1) dX12_combined_16 rfl ?_
      refine ev_iret dX12_combined_17 rfl ?_
      exact ⟨by with_reducible rfl, rfl⟩
    · omega
theorem cl_lcmM {n N : Nat} {x y : Int32} (g : gM h n N) (ok : gOK n N) : Cl G (d + 3) M_X12_lcm [.ref 67, .int x, .int y] h (qI (aC2 n x y (fun a b => nI (lcmN a b))) h) := by
  refine ev_start 0 (lv := [some (.ref 67), some (.int x), some (.int y)]) rfl (by decide) (Nat.le_of_ble_eq_true rfl) ?_
  refine ev_aload_n dX12_lcm_0 rfl ?_
  refine ev_iload_n dX12_lcm_1 rfl ?_
  refine ev_iload_n dX12_lcm_2 rfl ?_
  refine ev_iconst (nI 1) dX12_lcm_3 rfl ?_
  refine ev_callV (cl_combinedL g ok) ok_X12_combined ml_X12_169 rfl rfl rfl rfl (Nat.le_of_ble_eq_true rfl) dX12_lcm_4 (kI ?_)
  refine ev_iret dX12_lcm_7 rfl ?_
  exact ⟨by with_reducible rfl, rfl⟩
theorem cl_combinedG {n N : Nat} {x y : Int32} (g : gM h n N) (ok : gOK n N) : Cl G (d + 2) M_X12_combined [.ref 67, .int x, .int y, .int (nI 0)] h (qI (aC2 n x y (fun a b => nI (gcdN a b))) h) := by
  have hn := ok.2.1
  have h4 := four_n hn
  by_cases hx : inR x (4 ^ n)
  · have q1 := b01_t hx
    obtain ⟨a, ha, rfl⟩ := hx
    by_cases hy : inR y (4 ^ n)
    · have q2 := b01_t hy
      obtain ⟨b, hb, rfl⟩ := hy
      rw [aC2_t hn ha hb]
      have loop : ∀ (k v : Nat), v + k = n → ∀ x6 x7 : Option Value, Ev G (d + 2) M_X12_combined 24 [some (.ref 67), some (.int (nI a)), some (.int (nI b)), some (.int (nI 0)), some (.int (nI (sumTo v (fun w => min (ex a w) (ex b w) * 4 ^ w)))), some (.int (nI v)), x6, x7] [] h (qI (nI (gcdN a b)) h) := by
        intro k
        induction k with
        | zero =>
          intro v hv x6 x7
          obtain rfl : v = n := by omega
          rw [show sumTo v (fun w => min (ex a w) (ex b w) * 4 ^ w) = gcdN a b from (gcd_sum hn ha hb).symm]
          refine ev_iload dX12_combined_24 rfl ?_
          refine ev_aload_n dX12_combined_26 rfl ?_
          refine ev_getIv (g.1) fl_X12_9 rfl rfl dX12_combined_27 ?_
          refine ev_icmp_geN 88 dX12_combined_30 (by decide) (by omega) (by omega) (fun c30 => ?_) (fun c30 => ?_)
          · refine ev_iload dX12_combined_88 rfl ?_
            refine ev_iret dX12_combined_90 rfl ?_
            exact ⟨by with_reducible rfl, rfl⟩
          · omega
        | succ k ih =>
          intro v hv x6 x7
          have x1 := ex_lt a v
          have x2 := ex_lt b v
          have hs : sumTo v (fun w => min (ex a w) (ex b w) * 4 ^ w) < 4 ^ v := sum_lt4 v (fun i _ => by have := ex_lt a i; have := ex_lt b i; omega)
          have pv : 4 ^ v ≤ 4 ^ 6 := Nat.pow_le_pow_right (by decide) (by omega)
          have sh : ∀ p, p < 4 → p * 2 ^ (2 * v) < 2 ^ 32 := fun p hp => by
            rw [pow4]
            have := Nat.mul_le_mul (show p ≤ 3 by omega) pv
            omega
          have q := ih (v + 1) (by omega)
          simp only [sumTo] at q
          refine ev_iload dX12_combined_24 rfl ?_
          refine ev_aload_n dX12_combined_26 rfl ?_
          refine ev_getIv (g.1) fl_X12_9 rfl rfl dX12_combined_27 ?_
          refine ev_icmp_geN 88 dX12_combined_30 (by decide) (by omega) (by omega) (fun c30 => ?_) (fun c30 => ?_)
          · omega
          · refine ev_iload_n dX12_combined_33 rfl ?_
            refine ev_iload dX12_combined_34 rfl ?_
            refine ev_callS (cl_exponentOfM (by omega) (by omega)) ok_X12_exponentOf ml_X12_128 rfl rfl (Nat.le_of_ble_eq_true rfl) dX12_combined_36 (kI ?_)
            refine ev_ist6 dX12_combined_39 (by decide) rfl ?_
            refine ev_iload_n dX12_combined_41 rfl ?_
            refine ev_iload dX12_combined_42 rfl ?_
            refine ev_callS (cl_exponentOfM (by omega) (by omega)) ok_X12_exponentOf ml_X12_128 rfl rfl (Nat.le_of_ble_eq_true rfl) dX12_combined_44 (kI ?_)
            refine ev_ist7 dX12_combined_47 (by decide) rfl ?_
            refine ev_iload dX12_combined_49 rfl ?_
            refine ev_iload dX12_combined_51 rfl ?_
            refine ev_iload dX12_combined_53 rfl ?_
            refine ev_icmp_leN 62 dX12_combined_55 (by decide) (by omega) (by omega) (fun c55 => ?_) (fun c55 => ?_)
            · refine ev_iconst (nI 0) dX12_combined_62 rfl ?_
              refine ev_iload_n dX12_combined_63 rfl ?_
              refine ev_icmp_neN 72 dX12_combined_64 (by decide) (by omega) (by omega) (fun c64 => ?_) (fun c64 => ?_)
              · omega
              · refine ev_iload dX12_combined_67 rfl ?_
                refine ev_goto 74 dX12_combined_69 (by decide) ?_
                refine ev_iconst (nI 2) dX12_combined_74 rfl ?_
                refine ev_iload dX12_combined_75 rfl ?_
                refine ev_imulN dX12_combined_77 ?_
                refine ev_ishlN dX12_combined_78 (by omega) (sh _ (by omega)) ?_
                refine ev_iorN dX12_combined_79 ?_
                rw [or_add4 hs]
                refine ev_ist4 dX12_combined_80 (by decide) rfl ?_
                refine ev_inc5N dX12_combined_82 (by decide) rfl ?_
                refine ev_goto 24 dX12_combined_85 (by decide) ?_
                rw [show min (ex a v) (ex b v) = ex a v by omega] at q
                exact q _ _
            · refine ev_iconst (nI 1) dX12_combined_58 rfl ?_
              refine ev_goto 63 dX12_combined_59 (by decide) ?_
              refine ev_iload_n dX12_combined_63 rfl ?_
              refine ev_icmp_neN 72 dX12_combined_64 (by decide) (by omega) (by omega) (fun c64 => ?_) (fun c64 => ?_)
              · refine ev_iload dX12_combined_72 rfl ?_
                refine ev_iconst (nI 2) dX12_combined_74 rfl ?_
                refine ev_iload dX12_combined_75 rfl ?_
                refine ev_imulN dX12_combined_77 ?_
                refine ev_ishlN dX12_combined_78 (by omega) (sh _ (by omega)) ?_
                refine ev_iorN dX12_combined_79 ?_
                rw [or_add4 hs]
                refine ev_ist4 dX12_combined_80 (by decide) rfl ?_
                refine ev_inc5N dX12_combined_82 (by decide) rfl ?_
                refine ev_goto 24 dX12_combined_85 (by decide) ?_
                rw [show min (ex a v) (ex b v) = ex b v by omega] at q
                exact q _ _
              · omega
      refine ev_start 4 (lv := [some (.ref 67), some (.int (nI a)), some (.int (nI b)), some (.int (nI 0)), none, none, none, none]) rfl (by decide) (Nat.le_of_ble_eq_true rfl) ?_
      refine ev_aload_n dX12_combined_0 rfl ?_
      refine ev_iload_n dX12_combined_1 rfl ?_
      refine ev_callV (cl_isCodeM g hn) ok_X12_isCode ml_X12_160 rfl rfl rfl rfl (Nat.le_of_ble_eq_true rfl) dX12_combined_2 (kI ?_)
      refine ev_if_eqN 16 dX12_combined_5 (by decide) (by omega) (fun c5 => ?_) (fun c5 => ?_)
      · omega
      · refine ev_aload_n dX12_combined_8 rfl ?_
        refine ev_iload_n dX12_combined_9 rfl ?_
        refine ev_callV (cl_isCodeM g hn) ok_X12_isCode ml_X12_160 rfl rfl rfl rfl (Nat.le_of_ble_eq_true rfl) dX12_combined_10 (kI ?_)
        refine ev_if_neN 18 dX12_combined_13 (by decide) (by omega) (fun c13 => ?_) (fun c13 => ?_)
        · refine ev_iconst (nI 0) dX12_combined_18 rfl ?_
          refine ev_ist4 dX12_combined_19 (by decide) rfl ?_
          refine ev_iconst (nI 0) dX12_combined_21 rfl ?_
          refine ev_ist5 dX12_combined_22 (by decide) rfl ?_
          exact loop n 0 (by omega) none none
        · omega
    · have q2 := b01_f hy
      rw [aC2_b2 hn ha hy]
      refine ev_start 4 (lv := [some (.ref 67), some (.int (nI a)), some (.int y), some (.int (nI 0)), none, none, none, none]) rfl (by decide) (Nat.le_of_ble_eq_true rfl) ?_
      refine ev_aload_n dX12_combined_0 rfl ?_
      refine ev_iload_n dX12_combined_1 rfl ?_
      refine ev_callV (cl_isCodeM g hn) ok_X12_isCode ml_X12_160 rfl rfl rfl rfl (Nat.le_of_ble_eq_true rfl) dX12_combined_2 (kI ?_)
      refine ev_if_eqN 16 dX12_combined_5 (by decide) (by omega) (fun c5 => ?_) (fun c5 => ?_)
      · omega
      · refine ev_aload_n dX12_combined_8 rfl ?_
        refine ev_iload_n dX12_combined_9 rfl ?_
        refine ev_callV (cl_isCodeM g hn) ok_X12_isCode ml_X12_160 rfl rfl rfl rfl (Nat.le_of_ble_eq_true rfl) dX12_combined_10 (kI ?_)
        refine ev_if_neN 18 dX12_combined_13 (by decide) (by omega) (fun c13 => ?_) (fun c13 => ?_)
        · omega
        · refine ev_iconst (-1) dX12_combined_16 rfl ?_
          refine ev_iret dX12_combined_17 rfl ?_
          exact ⟨by with_reducible rfl, rfl⟩
  · have q1 := b01_f hx
    rw [aC2_b1 hx]
    refine ev_start 4 (lv := [some (.ref 67), some (.int x), some (.int y), some (.int (nI 0)), none, none, none, none]) rfl (by decide) (Nat.le_of_ble_eq_true rfl) ?_
    refine ev_aload_n dX12_combined_0 rfl ?_
    refine ev_iload_n dX12_combined_1 rfl ?_
    refine ev_callV (cl_isCodeM g hn) ok_X12_isCode ml_X12_160 rfl rfl rfl rfl (Nat.le_of_ble_eq_true rfl) dX12_combined_2 (kI ?_)
    refine ev_if_eqN 16 dX12_combined_5 (by decide) (by omega) (fun c5 => ?_) (fun c5 => ?_)
    · refine ev_iconst (-1) dX12_combined_16 rfl ?_
      refine ev_iret dX12_combined_17 rfl ?_
      exact ⟨by with_reducible rfl, rfl⟩
    · omega
theorem cl_gcdM {n N : Nat} {x y : Int32} (g : gM h n N) (ok : gOK n N) : Cl G (d + 3) M_X12_gcd [.ref 67, .int x, .int y] h (qI (aC2 n x y (fun a b => nI (gcdN a b))) h) := by
  refine ev_start 0 (lv := [some (.ref 67), some (.int x), some (.int y)]) rfl (by decide) (Nat.le_of_ble_eq_true rfl) ?_
  refine ev_aload_n dX12_gcd_0 rfl ?_
  refine ev_iload_n dX12_gcd_1 rfl ?_
  refine ev_iload_n dX12_gcd_2 rfl ?_
  refine ev_iconst (nI 0) dX12_gcd_3 rfl ?_
  refine ev_callV (cl_combinedG g ok) ok_X12_combined ml_X12_169 rfl rfl rfl rfl (Nat.le_of_ble_eq_true rfl) dX12_gcd_4 (kI ?_)
  refine ev_iret dX12_gcd_7 rfl ?_
  exact ⟨by with_reducible rfl, rfl⟩
end Q4
