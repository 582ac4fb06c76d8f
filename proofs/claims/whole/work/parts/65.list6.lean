section LIST6
variable {G : MG} {d : Nat} {h : MH}
noncomputable def fdv (L : List Nat) (m : Nat) : Nat → Nat → Int32
  | 0, _ => -2
  | k + 1, i => if b01 (dvd (L.getD i 0) m) = 0 then fdv L m k (i + 1) else nI i
noncomputable def idA (n : Nat) (L : List Nat) (x : Int32) : Int32 := aIn x (4 ^ n) (fun m => fdv L m L.length 0)
theorem cl_firstDivisorOf {L : List Nat} {m : Nat} (r : rowIs h 40 L) (o : okL L) (hm : m < 16384) : Cl G (d + 2) M_X5_firstDivisorOf [.ref 39, .int (nI m)] h (qI (fdv L m L.length 0) h) := by
  have l24 := o.1
  have loop : ∀ (k i : Nat), i + k = L.length → Ev G (d + 2) M_X5_firstDivisorOf 2 [some (.ref 39), some (.int (nI m)), some (.int (nI i))] [] h (qI (fdv L m k i) h) := by
    intro k
    induction k with
    | zero =>
      intro i hi
      obtain rfl : i = L.length := by omega
      refine ev_iload_n dX5_firstDivisorOf_2 rfl ?_
      refine ev_aload_n dX5_firstDivisorOf_3 rfl ?_
      refine ev_getR fl_X5_14 rfl rfl dX5_firstDivisorOf_4 ?_
      refine ev_getIv (r.1) fl_X5_26 rfl rfl dX5_firstDivisorOf_7 ?_
      refine ev_icmp_geN 37 dX5_firstDivisorOf_10 (by decide) (by omega) (by omega) (fun c10 => ?_) (fun c10 => ?_)
      · refine ev_bipush (-2) dX5_firstDivisorOf_37 rfl ?_
        refine ev_iret dX5_firstDivisorOf_39 rfl ?_
        exact ⟨rfl, rfl⟩
      · omega
    | succ k ih =>
      intro i hi
      rw [fdv]
      refine ev_iload_n dX5_firstDivisorOf_2 rfl ?_
      refine ev_aload_n dX5_firstDivisorOf_3 rfl ?_
      refine ev_getR fl_X5_14 rfl rfl dX5_firstDivisorOf_4 ?_
      refine ev_getIv (r.1) fl_X5_26 rfl rfl dX5_firstDivisorOf_7 ?_
      refine ev_icmp_geN 37 dX5_firstDivisorOf_10 (by decide) (by omega) (by omega) (fun c10 => ?_) (fun c10 => ?_)
      · omega
      · refine ev_aload_n dX5_firstDivisorOf_13 rfl ?_
        refine ev_getR fl_X5_14 rfl rfl dX5_firstDivisorOf_14 ?_
        refine ev_getR fl_X5_34 rfl rfl dX5_firstDivisorOf_17 ?_
        refine ev_iload_n dX5_firstDivisorOf_20 rfl ?_
        refine ev_ialdv (r.2 i (by omega)) rfl dX5_firstDivisorOf_21 (by omega) (by omega) ?_
        refine ev_iload_n dX5_firstDivisorOf_22 rfl ?_
        refine ev_callS (cl_dividesC (o.2 i (by omega)) hm) ok_X6_divides ml_X5_45 rfl rfl (Nat.le_of_ble_eq_true rfl) dX5_firstDivisorOf_23 (kI ?_)
        refine ev_if_eqN 31 dX5_firstDivisorOf_26 (by decide) (by have := b01_lt (dvd (L.getD i 0) m); omega) (fun c26 => ?_) (fun c26 => ?_)
        · refine ev_inc2N dX5_firstDivisorOf_31 (by decide) rfl ?_
          refine ev_goto 2 dX5_firstDivisorOf_34 (by decide) ?_
          rw [if_pos c26]; exact ih (i + 1) (by omega)
        · refine ev_iload_n dX5_firstDivisorOf_29 rfl ?_
          refine ev_iret dX5_firstDivisorOf_30 rfl ?_
          exact ⟨by rw [if_neg c26], rfl⟩
  refine ev_start 1 (lv := [some (.ref 39), some (.int (nI m)), none]) rfl (by decide) (Nat.le_of_ble_eq_true rfl) ?_
  refine ev_iconst (nI 0) dX5_firstDivisorOf_0 rfl ?_
  refine ev_ist2 dX5_firstDivisorOf_1 (by decide) rfl ?_
  exact loop L.length 0 (by omega)
theorem cl_indexOfDivisorC {n N : Nat} {L : List Nat} {x : Int32} (g : gC h n N) (hn : n ≤ 7) (r : rowIs h 40 L) (o : okL L) : Cl G (d + 3) M_X11_indexOfDivisor [.ref 0, .int x] h (qI (idA n L x) h) := by
  have h4 := four_n hn
  unfold idA
  by_cases hx : inR x (4 ^ n)
  · have q1 := b01_t hx
    obtain ⟨m, hm, rfl⟩ := hx
    rw [aIn_t hm (by omega)]
    refine ev_start 0 (lv := [some (.ref 0), some (.int (nI m))]) rfl (by decide) (Nat.le_of_ble_eq_true rfl) ?_
    refine ev_aload_n dX11_indexOfDivisor_0 rfl ?_
    refine ev_iload_n dX11_indexOfDivisor_1 rfl ?_
    refine ev_callV (cl_isCodeC g hn) ok_X11_isCode ml_X11_168 rfl rfl rfl rfl (Nat.le_of_ble_eq_true rfl) dX11_indexOfDivisor_2 (kI ?_)
    refine ev_if_eqN 19 dX11_indexOfDivisor_5 (by decide) (by omega) (fun c5 => ?_) (fun c5 => ?_)
    · omega
    · refine ev_aload_n dX11_indexOfDivisor_8 rfl ?_
      refine ev_getR fl_X11_53 rfl rfl dX11_indexOfDivisor_9 ?_
      refine ev_iload_n dX11_indexOfDivisor_12 rfl ?_
      refine ev_callV (cl_firstDivisorOf r o (by omega)) ok_X5_firstDivisorOf ml_X11_281 rfl rfl rfl rfl (Nat.le_of_ble_eq_true rfl) dX11_indexOfDivisor_13 (kI ?_)
      refine ev_goto 20 dX11_indexOfDivisor_16 (by decide) ?_
      refine ev_iret dX11_indexOfDivisor_20 rfl ?_
      exact ⟨by with_reducible rfl, rfl⟩
  · have q1 := b01_f hx
    rw [aIn_f hx]
    refine ev_start 0 (lv := [some (.ref 0), some (.int x)]) rfl (by decide) (Nat.le_of_ble_eq_true rfl) ?_
    refine ev_aload_n dX11_indexOfDivisor_0 rfl ?_
    refine ev_iload_n dX11_indexOfDivisor_1 rfl ?_
    refine ev_callV (cl_isCodeC g hn) ok_X11_isCode ml_X11_168 rfl rfl rfl rfl (Nat.le_of_ble_eq_true rfl) dX11_indexOfDivisor_2 (kI ?_)
    refine ev_if_eqN 19 dX11_indexOfDivisor_5 (by decide) (by omega) (fun c5 => ?_) (fun c5 => ?_)
    · refine ev_iconst (-1) dX11_indexOfDivisor_19 rfl ?_
      refine ev_iret dX11_indexOfDivisor_20 rfl ?_
      exact ⟨by with_reducible rfl, rfl⟩
    · omega
theorem cl_indexOfDivisorM {n N : Nat} {L : List Nat} {x : Int32} (g : gM h n N) (hn : n ≤ 7) (r : lM h L) (o : okL L) : Cl G (d + 2) M_X12_indexOfDivisor [.ref 67, .int x] h (qI (idA n L x) h) := by
  have h4 := four_n hn
  have l24 := o.1
  unfold idA
  by_cases hx : inR x (4 ^ n)
  · have q1 := b01_t hx
    obtain ⟨m, hm, rfl⟩ := hx
    rw [aIn_t hm (by omega)]
    have loop : ∀ (k i : Nat), i + k = L.length → Ev G (d + 2) M_X12_indexOfDivisor 12 [some (.ref 67), some (.int (nI m)), some (.int (nI i))] [] h (qI (fdv L m k i) h) := by
      intro k
      induction k with
      | zero =>
        intro i hi
        obtain rfl : i = L.length := by omega
        refine ev_iload_n dX12_indexOfDivisor_12 rfl ?_
        refine ev_aload_n dX12_indexOfDivisor_13 rfl ?_
        refine ev_getIv (r.1) fl_X12_251 rfl rfl dX12_indexOfDivisor_14 ?_
        refine ev_icmp_geN 41 dX12_indexOfDivisor_17 (by decide) (by omega) (by omega) (fun c17 => ?_) (fun c17 => ?_)
        · refine ev_bipush (-2) dX12_indexOfDivisor_41 rfl ?_
          refine ev_iret dX12_indexOfDivisor_43 rfl ?_
          exact ⟨rfl, rfl⟩
        · omega
      | succ k ih =>
        intro i hi
        rw [fdv]
        refine ev_iload_n dX12_indexOfDivisor_12 rfl ?_
        refine ev_aload_n dX12_indexOfDivisor_13 rfl ?_
        refine ev_getIv (r.1) fl_X12_251 rfl rfl dX12_indexOfDivisor_14 ?_
        refine ev_icmp_geN 41 dX12_indexOfDivisor_17 (by decide) (by omega) (by omega) (fun c17 => ?_) (fun c17 => ?_)
        · omega
        · refine ev_aload_n dX12_indexOfDivisor_20 rfl ?_
          refine ev_getR fl_X12_50 rfl rfl dX12_indexOfDivisor_21 ?_
          refine ev_iload_n dX12_indexOfDivisor_24 rfl ?_
          refine ev_ialdv (r.2 i (by omega)) rfl dX12_indexOfDivisor_25 (by omega) (by omega) ?_
          refine ev_iload_n dX12_indexOfDivisor_26 rfl ?_
          refine ev_callS (cl_dividesM (o.2 i (by omega)) (by omega)) ok_X12_divides ml_X12_166 rfl rfl (Nat.le_of_ble_eq_true rfl) dX12_indexOfDivisor_27 (kI ?_)
          refine ev_if_eqN 35 dX12_indexOfDivisor_30 (by decide) (by have := b01_lt (dvd (L.getD i 0) m); omega) (fun c30 => ?_) (fun c30 => ?_)
          · refine ev_inc2N dX12_indexOfDivisor_35 (by decide) rfl ?_
            refine ev_goto 12 dX12_indexOfDivisor_38 (by decide) ?_
            rw [if_pos c30]; exact ih (i + 1) (by omega)
          · refine ev_iload_n dX12_indexOfDivisor_33 rfl ?_
            refine ev_iret dX12_indexOfDivisor_34 rfl ?_
            exact ⟨by rw [if_neg c30], rfl⟩
    refine ev_start 1 (lv := [some (.ref 67), some (.int (nI m)), none]) rfl (by decide) (Nat.le_of_ble_eq_true rfl) ?_
    refine ev_aload_n dX12_indexOfDivisor_0 rfl ?_
    refine ev_iload_n dX12_indexOfDivisor_1 rfl ?_
    refine ev_callV (cl_isCodeM g hn) ok_X12_isCode ml_X12_160 rfl rfl rfl rfl (Nat.le_of_ble_eq_true rfl) dX12_indexOfDivisor_2 (kI ?_)
    refine ev_if_neN 10 dX12_indexOfDivisor_5 (by decide) (by omega) (fun c5 => ?_) (fun c5 => ?_)
    · refine ev_iconst (nI 0) dX12_indexOfDivisor_10 rfl ?_
      refine ev_ist2 dX12_indexOfDivisor_11 (by decide) rfl ?_
      exact loop L.length 0 (by omega)
    · omega
  · have q1 := b01_f hx
    rw [aIn_f hx]
    refine ev_start 1 (lv := [some (.ref 67), some (.int x), none]) rfl (by decide) (Nat.le_of_ble_eq_true rfl) ?_
    refine ev_aload_n dX12_indexOfDivisor_0 rfl ?_
    refine ev_iload_n dX12_indexOfDivisor_1 rfl ?_
    refine ev_callV (cl_isCodeM g hn) ok_X12_isCode ml_X12_160 rfl rfl rfl rfl (Nat.le_of_ble_eq_true rfl) dX12_indexOfDivisor_2 (kI ?_)
    refine ev_if_neN 10 dX12_indexOfDivisor_5 (by decide) (by omega) (fun c5 => ?_) (fun c5 => ?_)
    · omega
    · refine ev_iconst (-1) dX12_indexOfDivisor_8 rfl ?_
      refine ev_iret dX12_indexOfDivisor_9 rfl ?_
      exact ⟨by with_reducible rfl, rfl⟩
/-! polarization -/
def gxF (L : List Nat) (v : Nat) : Nat → Nat
  | 0 => 0
  | i + 1 => max (gxF L v i) (ex (L.getD i 0) v)
def gx (L : List Nat) (v : Nat) : Nat := gxF L v L.length
theorem gxF_le (L : List Nat) (v i : Nat) : gxF L v i ≤ 3 := by
  induction i with
  | zero => exact Nat.zero_le _
  | succ i ih => have := ex_lt (L.getD i 0) v; rw [gxF]; omega
theorem cl_greatestExponentOf {L : List Nat} {v : Nat} (r : rowIs h 40 L) (o : okL L) (hv : v < 7) : Cl G (d + 1) M_X5_greatestExponentOf [.ref 39, .int (nI v)] h (qI (nI (gx L v)) h) := by
  have l24 := o.1
  have loop : ∀ (k i : Nat), i + k = L.length → Ev G (d + 1) M_X5_greatestExponentOf 4 [some (.ref 39), some (.int (nI v)), some (.int (nI (gxF L v i))), some (.int (nI i))] [] h (qI (nI (gx L v)) h) := by
    intro k
    induction k with
    | zero =>
      intro i hi
      obtain rfl : i = L.length := by omega
      refine ev_iload_n dX5_greatestExponentOf_4 rfl ?_
      refine ev_aload_n dX5_greatestExponentOf_5 rfl ?_
      refine ev_getR fl_X5_14 rfl rfl dX5_greatestExponentOf_6 ?_
      refine ev_getIv (r.1) fl_X5_26 rfl rfl dX5_greatestExponentOf_9 ?_
      refine ev_icmp_geN 39 dX5_greatestExponentOf_12 (by decide) (by omega) (by omega) (fun c12 => ?_) (fun c12 => ?_)
      · refine ev_iload_n dX5_greatestExponentOf_39 rfl ?_
        refine ev_iret dX5_greatestExponentOf_40 rfl ?_
        exact ⟨rfl, rfl⟩
      · omega
    | succ k ih =>
      intro i hi
      have gl := gxF_le L v i
      have xl := ex_lt (L.getD i 0) v
      have oi := o.2 i (by omega)
      refine ev_iload_n dX5_greatestExponentOf_4 rfl ?_
      refine ev_aload_n dX5_greatestExponentOf_5 rfl ?_
      refine ev_getR fl_X5_14 rfl rfl dX5_greatestExponentOf_6 ?_
      refine ev_getIv (r.1) fl_X5_26 rfl rfl dX5_greatestExponentOf_9 ?_
      refine ev_icmp_geN 39 dX5_greatestExponentOf_12 (by decide) (by omega) (by omega) (fun c12 => ?_) (fun c12 => ?_)
      · omega
      · refine ev_iload_n dX5_greatestExponentOf_15 rfl ?_
        refine ev_aload_n dX5_greatestExponentOf_16 rfl ?_
        refine ev_getR fl_X5_14 rfl rfl dX5_greatestExponentOf_17 ?_
        refine ev_getR fl_X5_34 rfl rfl dX5_greatestExponentOf_20 ?_
        refine ev_iload_n dX5_greatestExponentOf_23 rfl ?_
        refine ev_ialdv (r.2 i (by omega)) rfl dX5_greatestExponentOf_24 (by omega) (by omega) ?_
        refine ev_iload_n dX5_greatestExponentOf_25 rfl ?_
        refine ev_callS (cl_exponentOf (by omega) (by omega)) ok_X6_exponentOf ml_X5_51 rfl rfl (Nat.le_of_ble_eq_true rfl) dX5_greatestExponentOf_26 (kI ?_)
        refine ev_maxN ml_X5_63 (Nat.le_of_ble_eq_true rfl) dX5_greatestExponentOf_29 (by omega) (by omega) ?_
        refine ev_ist2 dX5_greatestExponentOf_32 (by decide) rfl ?_
        refine ev_inc3N dX5_greatestExponentOf_33 (by decide) rfl ?_
        refine ev_goto 4 dX5_greatestExponentOf_36 (by decide) ?_
        exact ih (i + 1) (by omega)
  refine ev_start 2 (lv := [some (.ref 39), some (.int (nI v)), none, none]) rfl (by decide) (Nat.le_of_ble_eq_true rfl) ?_
  refine ev_iconst (nI 0) dX5_greatestExponentOf_0 rfl ?_
  refine ev_ist2 dX5_greatestExponentOf_1 (by decide) rfl ?_
  refine ev_iconst (nI 0) dX5_greatestExponentOf_2 rfl ?_
  refine ev_ist3 dX5_greatestExponentOf_3 (by decide) rfl ?_
  exact loop L.length 0 (by omega)
theorem cl_greatestExponent {L : List Nat} {v : Nat} (r : lM h L) (o : okL L) (hv : v < 7) : Cl G (d + 1) M_X12_greatestExponent [.ref 67, .int (nI v)] h (qI (nI (gx L v)) h) := by
  have l24 := o.1
  have loop : ∀ (k i : Nat), i + k = L.length → Ev G (d + 1) M_X12_greatestExponent 4 [some (.ref 67), some (.int (nI v)), some (.int (nI (gxF L v i))), some (.int (nI i))] [] h (qI (nI (gx L v)) h) := by
    intro k
    induction k with
    | zero =>
      intro i hi
      obtain rfl : i = L.length := by omega
      refine ev_iload_n dX12_greatestExponent_4 rfl ?_
      refine ev_aload_n dX12_greatestExponent_5 rfl ?_
      refine ev_getIv (r.1) fl_X12_251 rfl rfl dX12_greatestExponent_6 ?_
      refine ev_icmp_geN 47 dX12_greatestExponent_9 (by decide) (by omega) (by omega) (fun c9 => ?_) (fun c9 => ?_)
      · refine ev_iload_n dX12_greatestExponent_47 rfl ?_
        refine ev_iret dX12_greatestExponent_48 rfl ?_
        exact ⟨rfl, rfl⟩
      · omega
    | succ k ih =>
      intro i hi
      have gl := gxF_le L v i
      have xl := ex_lt (L.getD i 0) v
      have oi := o.2 i (by omega)
      have q := ih (i + 1) (by omega)
      rw [gxF] at q
      refine ev_iload_n dX12_greatestExponent_4 rfl ?_
      refine ev_aload_n dX12_greatestExponent_5 rfl ?_
      refine ev_getIv (r.1) fl_X12_251 rfl rfl dX12_greatestExponent_6 ?_
      refine ev_icmp_geN 47 dX12_greatestExponent_9 (by decide) (by omega) (by omega) (fun c9 => ?_) (fun c9 => ?_)
      · omega
      · refine ev_aload_n dX12_greatestExponent_12 rfl ?_
        refine ev_getR fl_X12_50 rfl rfl dX12_greatestExponent_13 ?_
        refine ev_iload_n dX12_greatestExponent_16 rfl ?_
        refine ev_ialdv (r.2 i (by omega)) rfl dX12_greatestExponent_17 (by omega) (by omega) ?_
        refine ev_iload_n dX12_greatestExponent_18 rfl ?_
        refine ev_callS (cl_exponentOfM (by omega) (by omega)) ok_X12_exponentOf ml_X12_128 rfl rfl (Nat.le_of_ble_eq_true rfl) dX12_greatestExponent_19 (kI ?_)
        refine ev_iload_n dX12_greatestExponent_22 rfl ?_
        refine ev_icmp_leN 39 dX12_greatestExponent_23 (by decide) (by omega) (by omega) (fun c23 => ?_) (fun c23 => ?_)
        · refine ev_iload_n dX12_greatestExponent_39 rfl ?_
          refine ev_ist2 dX12_greatestExponent_40 (by decide) rfl ?_
          refine ev_inc3N dX12_greatestExponent_41 (by decide) rfl ?_
          refine ev_goto 4 dX12_greatestExponent_44 (by decide) ?_
          rw [Nat.max_eq_left (by omega)] at q; exact q
        · refine ev_aload_n dX12_greatestExponent_26 rfl ?_
          refine ev_getR fl_X12_50 rfl rfl dX12_greatestExponent_27 ?_
          refine ev_iload_n dX12_greatestExponent_30 rfl ?_
          refine ev_ialdv (r.2 i (by omega)) rfl dX12_greatestExponent_31 (by omega) (by omega) ?_
          refine ev_iload_n dX12_greatestExponent_32 rfl ?_
          refine ev_callS (cl_exponentOfM (by omega) (by omega)) ok_X12_exponentOf ml_X12_128 rfl rfl (Nat.le_of_ble_eq_true rfl) dX12_greatestExponent_33 (kI ?_)
          refine ev_goto 40 dX12_greatestExponent_36 (by decide) ?_
          refine ev_ist2 dX12_greatestExponent_40 (by decide) rfl ?_
          refine ev_inc3N dX12_greatestExponent_41 (by decide) rfl ?_
          refine ev_goto 4 dX12_greatestExponent_44 (by decide) ?_
          rw [Nat.max_eq_right (by omega)] at q; exact q
  refine ev_start 2 (lv := [some (.ref 67), some (.int (nI v)), none, none]) rfl (by decide) (Nat.le_of_ble_eq_true rfl) ?_
  refine ev_iconst (nI 0) dX12_greatestExponent_0 rfl ?_
  refine ev_ist2 dX12_greatestExponent_1 (by decide) rfl ?_
  refine ev_iconst (nI 0) dX12_greatestExponent_2 rfl ?_
  refine ev_ist3 dX12_greatestExponent_3 (by decide) rfl ?_
  exact loop L.length 0 (by omega)
def poT (L : List Nat) : Nat → Nat
  | 0 => 0
  | v + 1 => poT L v + gx L v
theorem poT_le (L : List Nat) (v : Nat) : poT L v ≤ 3 * v := by
  induction v with
  | zero => exact Nat.le_refl _
  | succ v ih => have : gx L v ≤ 3 := gxF_le L v _; rw [poT]; omega
theorem cl_polarizedTotal {L : List Nat} (r : rowIs h 40 L) (o : okL L) : Cl G (d + 2) M_X5_polarizedTotal [.ref 39] h (qI (nI (poT L 7)) h) := by
  have loop : ∀ (k v : Nat), v + k = 7 → Ev G (d + 2) M_X5_polarizedTotal 4 [some (.ref 39), some (.int (nI (poT L v))), some (.int (nI v))] [] h (qI (nI (poT L 7)) h) := by
    intro k
    induction k with
    | zero =>
      intro v hv
      obtain rfl : v = 7 := by omega
      refine ev_iload_n dX5_polarizedTotal_4 rfl ?_
      refine ev_bipush (nI 7) dX5_polarizedTotal_5 rfl ?_
      refine ev_icmp_geN 24 dX5_polarizedTotal_7 (by decide) (by omega) (by omega) (fun c7 => ?_) (fun c7 => ?_)
      · refine ev_iload_n dX5_polarizedTotal_24 rfl ?_
        refine ev_iret dX5_polarizedTotal_25 rfl ?_
        exact ⟨rfl, rfl⟩
      · omega
    | succ k ih =>
      intro v hv
      refine ev_iload_n dX5_polarizedTotal_4 rfl ?_
      refine ev_bipush (nI 7) dX5_polarizedTotal_5 rfl ?_
      refine ev_icmp_geN 24 dX5_polarizedTotal_7 (by decide) (by omega) (by omega) (fun c7 => ?_) (fun c7 => ?_)
      · omega
      · refine ev_iload_n dX5_polarizedTotal_10 rfl ?_
        refine ev_aload_n dX5_polarizedTotal_11 rfl ?_
        refine ev_iload_n dX5_polarizedTotal_12 rfl ?_
        refine ev_callV (cl_greatestExponentOf r o (by omega)) ok_X5_greatestExponentOf ml_X5_68 rfl rfl rfl rfl (Nat.le_of_ble_eq_true rfl) dX5_polarizedTotal_13 (kI ?_)
        refine ev_iaddN dX5_polarizedTotal_16 ?_
        refine ev_ist1 dX5_polarizedTotal_17 (by decide) rfl ?_
        refine ev_inc2N dX5_polarizedTotal_18 (by decide) rfl ?_
        refine ev_goto 4 dX5_polarizedTotal_21 (by decide) ?_
        exact ih (v + 1) (by omega)
  refine ev_start 2 (lv := [some (.ref 39), none, none]) rfl (by decide) (Nat.le_of_ble_eq_true rfl) ?_
  refine ev_iconst (nI 0) dX5_polarizedTotal_0 rfl ?_
  refine ev_ist1 dX5_polarizedTotal_1 (by decide) rfl ?_
  refine ev_iconst (nI 0) dX5_polarizedTotal_2 rfl ?_
  refine ev_ist2 dX5_polarizedTotal_3 (by decide) rfl ?_
  exact loop 7 0 (by omega)
theorem cl_polarizedVariableCountM {L : List Nat} (r : lM h L) (o : okL L) : Cl G (d + 2) M_X12_polarizedVariableCount [.ref 67] h (qI (nI (poT L 7)) h) := by
  have loop : ∀ (k v : Nat), v + k = 7 → Ev G (d + 2) M_X12_polarizedVariableCount 4 [some (.ref 67), some (.int (nI (poT L v))), some (.int (nI v))] [] h (qI (nI (poT L 7)) h) := by
    intro k
    induction k with
    | zero =>
      intro v hv
      obtain rfl : v = 7 := by omega
      refine ev_iload_n dX12_polarizedVariableCount_4 rfl ?_
      refine ev_bipush (nI 7) dX12_polarizedVariableCount_5 rfl ?_
      refine ev_icmp_geN 24 dX12_polarizedVariableCount_7 (by decide) (by omega) (by omega) (fun c7 => ?_) (fun c7 => ?_)
      · refine ev_iload_n dX12_polarizedVariableCount_24 rfl ?_
        refine ev_iret dX12_polarizedVariableCount_25 rfl ?_
        exact ⟨rfl, rfl⟩
      · omega
    | succ k ih =>
      intro v hv
      refine ev_iload_n dX12_polarizedVariableCount_4 rfl ?_
      refine ev_bipush (nI 7) dX12_polarizedVariableCount_5 rfl ?_
      refine ev_icmp_geN 24 dX12_polarizedVariableCount_7 (by decide) (by omega) (by omega) (fun c7 => ?_) (fun c7 => ?_)
      · omega
      · refine ev_iload_n dX12_polarizedVariableCount_10 rfl ?_
        refine ev_aload_n dX12_polarizedVariableCount_11 rfl ?_
        refine ev_iload_n dX12_polarizedVariableCount_12 rfl ?_
        refine ev_callV (cl_greatestExponent r o (by omega)) ok_X12_greatestExponent ml_X12_271 rfl rfl rfl rfl (Nat.le_of_ble_eq_true rfl) dX12_polarizedVariableCount_13 (kI ?_)
        refine ev_iaddN dX12_polarizedVariableCount_16 ?_
        refine ev_ist1 dX12_polarizedVariableCount_17 (by decide) rfl ?_
        refine ev_inc2N dX12_polarizedVariableCount_18 (by decide) rfl ?_
        refine ev_goto 4 dX12_polarizedVariableCount_21 (by decide) ?_
        exact ih (v + 1) (by omega)
  refine ev_start 2 (lv := [some (.ref 67), none, none]) rfl (by decide) (Nat.le_of_ble_eq_true rfl) ?_
  refine ev_iconst (nI 0) dX12_polarizedVariableCount_0 rfl ?_
  refine ev_ist1 dX12_polarizedVariableCount_1 (by decide) rfl ?_
  refine ev_iconst (nI 0) dX12_polarizedVariableCount_2 rfl ?_
  refine ev_ist2 dX12_polarizedVariableCount_3 (by decide) rfl ?_
  exact loop 7 0 (by omega)
theorem cl_polarizedVariableCountC {L : List Nat} (r : rowIs h 40 L) (o : okL L) : Cl G (d + 3) M_X11_polarizedVariableCount [.ref 0] h (qI (nI (poT L 7)) h) := by
  refine ev_start 0 (lv := [some (.ref 0)]) rfl (by decide) (Nat.le_of_ble_eq_true rfl) ?_
  refine ev_aload_n dX11_polarizedVariableCount_0 rfl ?_
  refine ev_getR fl_X11_53 rfl rfl dX11_polarizedVariableCount_1 ?_
  refine ev_callV (cl_polarizedTotal r o) ok_X5_polarizedTotal ml_X11_284 rfl rfl rfl rfl (Nat.le_of_ble_eq_true rfl) dX11_polarizedVariableCount_4 (kI ?_)
  refine ev_iret dX11_polarizedVariableCount_7 rfl ?_
  exact ⟨by with_reducible rfl, rfl⟩
def poS (L : List Nat) (i : Nat) : Nat → Nat
  | 0 => 0
  | v + 1 => poS L i v ||| (1 * 2 ^ ex (L.getD i 0) v - 1) * 2 ^ poT L v
theorem pz {e t : Nat} (he : e < 4) (ht : t ≤ 18) : (1 * 2 ^ e - 1) * 2 ^ t < 2 ^ 21 := by
  have h1 : 2 ^ t ≤ 2 ^ 18 := Nat.pow_le_pow_right (by decide) ht
  have h2 : 1 * 2 ^ e - 1 ≤ 7 := by
    rcases (show e = 0 ∨ e = 1 ∨ e = 2 ∨ e = 3 by omega) with rfl | rfl | rfl | rfl <;> decide
  exact Nat.lt_of_le_of_lt (Nat.mul_le_mul h2 h1) (by decide)
theorem po2 {e : Nat} (he : e < 4) : 1 * 2 ^ e ≤ 8 ∧ 1 ≤ 1 * 2 ^ e := by
  rcases (show e = 0 ∨ e = 1 ∨ e = 2 ∨ e = 3 by omega) with rfl | rfl | rfl | rfl <;> decide
noncomputable def poA (L : List Nat) (x : Int32) : Int32 := if x < 0 then -1 else if b01 (inR x L.length) = 0 then -2 else nI (poS L x.toNatClampNeg 7)
theorem cl_polarizationOf {L : List Nat} {i : Nat} (r : rowIs h 40 L) (o : okL L) (hi : i < L.length) : Cl G (d + 2) M_X5_polarizationOf [.ref 39, .int (nI i)] h (qI (nI (poS L i 7)) h) := by
  have l24 := o.1
  have oi := o.2 i hi
  have loop : ∀ (k v : Nat) (x5 : Option Value), v + k = 7 → Ev G (d + 2) M_X5_polarizationOf 7 [some (.ref 39), some (.int (nI i)), some (.int (nI (poS L i v))), some (.int (nI (poT L v))), some (.int (nI v)), x5] [] h (qI (nI (poS L i 7)) h) := by
    intro k
    induction k with
    | zero =>
      intro v x5 hv
      obtain rfl : v = 7 := by omega
      refine ev_iload dX5_polarizationOf_7 rfl ?_
      refine ev_bipush (nI 7) dX5_polarizationOf_9 rfl ?_
      refine ev_icmp_geN 56 dX5_polarizationOf_11 (by decide) (by omega) (by omega) (fun c11 => ?_) (fun c11 => ?_)
      · refine ev_iload_n dX5_polarizationOf_56 rfl ?_
        refine ev_iret dX5_polarizationOf_57 rfl ?_
        exact ⟨rfl, rfl⟩
      · omega
    | succ k ih =>
      intro v x5 hv
      have xl := ex_lt (L.getD i 0) v
      have tl := poT_le L v
      have p2 := po2 xl
      have p3 := pz xl (show poT L v ≤ 18 by omega)
      refine ev_iload dX5_polarizationOf_7 rfl ?_
      refine ev_bipush (nI 7) dX5_polarizationOf_9 rfl ?_
      refine ev_icmp_geN 56 dX5_polarizationOf_11 (by decide) (by omega) (by omega) (fun c11 => ?_) (fun c11 => ?_)
      · omega
      · refine ev_iconst (nI 1) dX5_polarizationOf_14 rfl ?_
        refine ev_aload_n dX5_polarizationOf_15 rfl ?_
        refine ev_getR fl_X5_14 rfl rfl dX5_polarizationOf_16 ?_
        refine ev_getR fl_X5_34 rfl rfl dX5_polarizationOf_19 ?_
        refine ev_iload_n dX5_polarizationOf_22 rfl ?_
        refine ev_ialdv (r.2 i hi) rfl dX5_polarizationOf_23 (by omega) (by omega) ?_
        refine ev_iload dX5_polarizationOf_24 rfl ?_
        refine ev_callS (cl_exponentOf (by omega) (by omega)) ok_X6_exponentOf ml_X5_51 rfl rfl (Nat.le_of_ble_eq_true rfl) dX5_polarizationOf_26 (kI ?_)
        refine ev_ishlN dX5_polarizationOf_29 (by omega) (by omega) ?_
        refine ev_iconst (nI 1) dX5_polarizationOf_30 rfl ?_
        refine ev_isubN dX5_polarizationOf_31 (by omega) ?_
        refine ev_ist5 dX5_polarizationOf_32 (by decide) rfl ?_
        refine ev_iload_n dX5_polarizationOf_34 rfl ?_
        refine ev_iload dX5_polarizationOf_35 rfl ?_
        refine ev_iload_n dX5_polarizationOf_37 rfl ?_
        refine ev_ishlN dX5_polarizationOf_38 (by omega) (Nat.lt_trans p3 (by decide)) ?_
        refine ev_iorN dX5_polarizationOf_39 ?_
        refine ev_ist2 dX5_polarizationOf_40 (by decide) rfl ?_
        refine ev_iload_n dX5_polarizationOf_41 rfl ?_
        refine ev_aload_n dX5_polarizationOf_42 rfl ?_
        refine ev_iload dX5_polarizationOf_43 rfl ?_
        refine ev_callV (cl_greatestExponentOf r o (by omega)) ok_X5_greatestExponentOf ml_X5_68 rfl rfl rfl rfl (Nat.le_of_ble_eq_true rfl) dX5_polarizationOf_45 (kI ?_)
        refine ev_iaddN dX5_polarizationOf_48 ?_
        refine ev_ist3 dX5_polarizationOf_49 (by decide) rfl ?_
        refine ev_inc4N dX5_polarizationOf_50 (by decide) rfl ?_
        refine ev_goto 7 dX5_polarizationOf_53 (by decide) ?_
        exact ih (v + 1) _ (by omega)
  refine ev_start 4 (lv := [some (.ref 39), some (.int (nI i)), none, none, none, none]) rfl (by decide) (Nat.le_of_ble_eq_true rfl) ?_
  refine ev_iconst (nI 0) dX5_polarizationOf_0 rfl ?_
  refine ev_ist2 dX5_polarizationOf_1 (by decide) rfl ?_
  refine ev_iconst (nI 0) dX5_polarizationOf_2 rfl ?_
  refine ev_ist3 dX5_polarizationOf_3 (by decide) rfl ?_
  refine ev_iconst (nI 0) dX5_polarizationOf_4 rfl ?_
  refine ev_ist4 dX5_polarizationOf_5 (by decide) rfl ?_
  exact loop 7 0 _ (by omega)
theorem cl_polarizedM_in {L : List Nat} {i : Nat} (r : lM h L) (o : okL L) (hi : i < L.length) : Cl G (d + 2) M_X12_polarized [.ref 67, .int (nI i)] h (qI (nI (poS L i 7)) h) := by
  have l24 := o.1
  have oi := o.2 i hi
  have loop : ∀ (k v : Nat) , v + k = 7 → Ev G (d + 2) M_X12_polarized 24 [some (.ref 67), some (.int (nI i)), some (.int (nI (poS L i v))), some (.int (nI (poT L v))), some (.int (nI v))] [] h (qI (nI (poS L i 7)) h) := by
    intro k
    induction k with
    | zero =>
      intro v hv
      obtain rfl : v = 7 := by omega
      refine ev_iload dX12_polarized_24 rfl ?_
      refine ev_bipush (nI 7) dX12_polarized_26 rfl ?_
      refine ev_icmp_geN 66 dX12_polarized_28 (by decide) (by omega) (by omega) (fun c28 => ?_) (fun c28 => ?_)
      · refine ev_iload_n dX12_polarized_66 rfl ?_
        refine ev_iret dX12_polarized_67 rfl ?_
        exact ⟨rfl, rfl⟩
      · omega
    | succ k ih =>
      intro v hv
      have xl := ex_lt (L.getD i 0) v
      have tl := poT_le L v
      have p2 := po2 xl
      have p3 := pz xl (show poT L v ≤ 18 by omega)
      refine ev_iload dX12_polarized_24 rfl ?_
      refine ev_bipush (nI 7) dX12_polarized_26 rfl ?_
      refine ev_icmp_geN 66 dX12_polarized_28 (by decide) (by omega) (by omega) (fun c28 => ?_) (fun c28 => ?_)
      · omega
      · refine ev_iload_n dX12_polarized_31 rfl ?_
        refine ev_iconst (nI 1) dX12_polarized_32 rfl ?_
        refine ev_aload_n dX12_polarized_33 rfl ?_
        refine ev_getR fl_X12_50 rfl rfl dX12_polarized_34 ?_
        refine ev_iload_n dX12_polarized_37 rfl ?_
        refine ev_ialdv (r.2 i hi) rfl dX12_polarized_38 (by omega) (by omega) ?_
        refine ev_iload dX12_polarized_39 rfl ?_
        refine ev_callS (cl_exponentOfM (by omega) (by omega)) ok_X12_exponentOf ml_X12_128 rfl rfl (Nat.le_of_ble_eq_true rfl) dX12_polarized_41 (kI ?_)
        refine ev_ishlN dX12_polarized_44 (by omega) (by omega) ?_
        refine ev_iconst (nI 1) dX12_polarized_45 rfl ?_
        refine ev_isubN dX12_polarized_46 (by omega) ?_
        refine ev_iload_n dX12_polarized_47 rfl ?_
        refine ev_ishlN dX12_polarized_48 (by omega) (Nat.lt_trans p3 (by decide)) ?_
        refine ev_iorN dX12_polarized_49 ?_
        refine ev_ist2 dX12_polarized_50 (by decide) rfl ?_
        refine ev_iload_n dX12_polarized_51 rfl ?_
        refine ev_aload_n dX12_polarized_52 rfl ?_
        refine ev_iload dX12_polarized_53 rfl ?_
        refine ev_callV (cl_greatestExponent r o (by omega)) ok_X12_greatestExponent ml_X12_271 rfl rfl rfl rfl (Nat.le_of_ble_eq_true rfl) dX12_polarized_55 (kI ?_)
        refine ev_iaddN dX12_polarized_58 ?_
        refine ev_ist3 dX12_polarized_59 (by decide) rfl ?_
        refine ev_inc4N dX12_polarized_60 (by decide) rfl ?_
        refine ev_goto 24 dX12_polarized_63 (by decide) ?_
        exact ih (v + 1) (by omega)
  refine ev_start 3 (lv := [some (.ref 67), some (.int (nI i)), none, none, none]) rfl (by decide) (Nat.le_of_ble_eq_true rfl) ?_
  refine ev_iload_n dX12_polarized_0 rfl ?_
  refine ev_if_geN 6 dX12_polarized_1 (by decide) (by omega) (fun c1 => ?_) (fun c1 => ?_)
  · refine ev_iload_n dX12_polarized_6 rfl ?_
    refine ev_aload_n dX12_polarized_7 rfl ?_
    refine ev_getIv (r.1) fl_X12_251 rfl rfl dX12_polarized_8 ?_
    refine ev_icmp_ltN 17 dX12_polarized_11 (by decide) (by omega) (by omega) (fun c11 => ?_) (fun c11 => ?_)
    · refine ev_iconst (nI 0) dX12_polarized_17 rfl ?_
      refine ev_ist2 dX12_polarized_18 (by decide) rfl ?_
      refine ev_iconst (nI 0) dX12_polarized_19 rfl ?_
      refine ev_ist3 dX12_polarized_20 (by decide) rfl ?_
      refine ev_iconst (nI 0) dX12_polarized_21 rfl ?_
      refine ev_ist4 dX12_polarized_22 (by decide) rfl ?_
      exact loop 7 0 (by omega)
    · omega
  · exact c1.elim
theorem cl_polarizedC {L : List Nat} {x : Int32} (r : rowIs h 40 L) (o : okL L) : Cl G (d + 3) M_X11_polarized [.ref 0, .int x] h (qI (poA L x) h) := by
  have l24 := o.1
  unfold poA
  by_cases hx : inR x L.length
  · have q1 := b01_t hx
    rw [q1, if_neg (show ¬ 1 = 0 by decide)]
    obtain ⟨i, hi, rfl⟩ := hx
    rw [nI_clamp (by omega), if_neg (nI_pos (by omega))]
    refine ev_start 0 (lv := [some (.ref 0), some (.int (nI i))]) rfl (by decide) (Nat.le_of_ble_eq_true rfl) ?_
    refine ev_iload_n dX11_polarized_0 rfl ?_
    refine ev_if_geN 6 dX11_polarized_1 (by decide) (by omega) (fun c1 => ?_) (fun c1 => ?_)
    · refine ev_aload_n dX11_polarized_6 rfl ?_
      refine ev_getR fl_X11_53 rfl rfl dX11_polarized_7 ?_
      refine ev_getR fl_X11_253 rfl rfl dX11_polarized_10 ?_
      refine ev_iload_n dX11_polarized_13 rfl ?_
      refine ev_callV (cl_has row_40 r.1 (by omega)) ok_X7_has ml_X11_274 rfl rfl rfl rfl (Nat.le_of_ble_eq_true rfl) dX11_polarized_14 (kI ?_)
      refine ev_if_eqN 31 dX11_polarized_17 (by decide) (by omega) (fun c17 => ?_) (fun c17 => ?_)
      · omega
      · refine ev_aload_n dX11_polarized_20 rfl ?_
        refine ev_getR fl_X11_53 rfl rfl dX11_polarized_21 ?_
        refine ev_iload_n dX11_polarized_24 rfl ?_
        refine ev_callV (cl_polarizationOf r o hi) ok_X5_polarizationOf ml_X11_287 rfl rfl rfl rfl (Nat.le_of_ble_eq_true rfl) dX11_polarized_25 (kI ?_)
        refine ev_goto 33 dX11_polarized_28 (by decide) ?_
        refine ev_iret dX11_polarized_33 rfl ?_
        exact ⟨by with_reducible rfl, rfl⟩
    · exact c1.elim
  · have q1 := b01_f hx
    rw [q1, if_pos (show 0 = 0 from rfl)]
    refine ev_start 0 (lv := [some (.ref 0), some (.int x)]) rfl (by decide) (Nat.le_of_ble_eq_true rfl) ?_
    refine ev_iload_n dX11_polarized_0 rfl ?_
    refine ev_if_ge 6 dX11_polarized_1 (by decide) (fun c1 => ?_) (fun c1 => ?_)
    · refine ev_aload_n dX11_polarized_6 rfl ?_
      refine ev_getR fl_X11_53 rfl rfl dX11_polarized_7 ?_
      refine ev_getR fl_X11_253 rfl rfl dX11_polarized_10 ?_
      refine ev_iload_n dX11_polarized_13 rfl ?_
      refine ev_callV (cl_has row_40 r.1 (by omega)) ok_X7_has ml_X11_274 rfl rfl rfl rfl (Nat.le_of_ble_eq_true rfl) dX11_polarized_14 (kI ?_)
      refine ev_if_eqN 31 dX11_polarized_17 (by decide) (by omega) (fun c17 => ?_) (fun c17 => ?_)
      · refine ev_bipush (-2) dX11_polarized_31 rfl ?_
        refine ev_iret dX11_polarized_33 rfl ?_
        exact ⟨by rw [if_neg (Int32.not_lt.mpr c1)], rfl⟩
      · omega
    · refine ev_iconst (-1) dX11_polarized_4 rfl ?_
      refine ev_iret dX11_polarized_5 rfl ?_
      exact ⟨by rw [if_pos (Int32.not_le.mp c1)], rfl⟩
theorem cl_polarizedM {L : List Nat} {x : Int32} (r : lM h L) (o : okL L) : Cl G (d + 2) M_X12_polarized [.ref 67, .int x] h (qI (poA L x) h) := by
  have l24 := o.1
  unfold poA
  by_cases hx : inR x L.length
  · have q1 := b01_t hx
    rw [q1, if_neg (show ¬ 1 = 0 by decide)]
    obtain ⟨i, hi, rfl⟩ := hx
    rw [nI_clamp (by omega), if_neg (nI_pos (by omega))]
    exact cl_polarizedM_in r o hi
  · have q1 := b01_f hx
    rw [q1, if_pos (show 0 = 0 from rfl)]
    refine ev_start 3 (lv := [some (.ref 67), some (.int x), none, none, none]) rfl (by decide) (Nat.le_of_ble_eq_true rfl) ?_
    refine ev_iload_n dX12_polarized_0 rfl ?_
    refine ev_if_ge 6 dX12_polarized_1 (by decide) (fun c1 => ?_) (fun c1 => ?_)
    · refine ev_iload_n dX12_polarized_6 rfl ?_
      refine ev_aload_n dX12_polarized_7 rfl ?_
      refine ev_getIv (r.1) fl_X12_251 rfl rfl dX12_polarized_8 ?_
      refine ev_icmp_lt 17 dX12_polarized_11 (by decide) (fun c11 => ?_) (fun c11 => ?_)
      · exact absurd (inR_of (by omega) (Int32.not_lt.mpr c1) (Int32.not_le.mpr c11)) hx
      · refine ev_bipush (-2) dX12_polarized_14 rfl ?_
        refine ev_iret dX12_polarized_16 rfl ?_
        exact ⟨by rw [if_neg (Int32.not_lt.mpr c1)], rfl⟩
    · refine ev_iconst (-1) dX12_polarized_4 rfl ?_
      refine ev_iret dX12_polarized_5 rfl ?_
      exact ⟨by rw [if_pos (Int32.not_le.mp c1)], rfl⟩
end LIST6
