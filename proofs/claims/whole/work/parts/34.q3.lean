section Q3
variable {G : MG} {d : Nat} {h : MH}
theorem ex_or (a b v : Nat) : ex (a ||| b) v = ex a v ||| ex b v := by
  unfold ex
  rw [← pow4, show (4 : Nat) = 2 ^ 2 from rfl, ← Nat.or_mod_two_pow, ← Nat.or_div_two_pow]
theorem ex_xor (a b v : Nat) : ex (a ^^^ b) v = ex a v ^^^ ex b v := by
  unfold ex
  rw [← pow4, show (4 : Nat) = 2 ^ 2 from rfl, ← Nat.xor_mod_two_pow, ← Nat.xor_div_two_pow]
theorem ex_andn (a b v : Nat) : ex (andn a b) v = andn (ex a v) (ex b v) := by
  unfold andn; rw [ex_xor, ex_and]
theorem ex_5461 {v : Nat} (hv : v < 7) : ex 5461 v = 1 := by
  rcases (show v = 0 ∨ v = 1 ∨ v = 2 ∨ v = 3 ∨ v = 4 ∨ v = 5 ∨ v = 6 by omega) with rfl | rfl | rfl | rfl | rfl | rfl | rfl <;> decide
theorem ex_half (a v : Nat) (hv : v < 7) : ex (a / 2 ^ 1 &&& 5461) v = ex a v / 2 := by
  rw [ex_and, ex_5461 hv, nat_and1]
  unfold ex
  rcases (show v = 0 ∨ v = 1 ∨ v = 2 ∨ v = 3 ∨ v = 4 ∨ v = 5 ∨ v = 6 by omega) with rfl | rfl | rfl | rfl | rfl | rfl | rfl <;> simp only [Nat.pow_zero, Nat.div_one, Nat.reducePow] <;> omega
def exc (a b : Nat) : Nat := andn (a / 2 ^ 1 &&& 5461) (b / 2 ^ 1 &&& 5461) ||| (andn (andn a b) ((a / 2 ^ 1 &&& 5461) ^^^ (b / 2 ^ 1 &&& 5461)) &&& 5461)
theorem exc_dig : ∀ x, x < 4 → ∀ y, y < 4 → andn (x / 2) (y / 2) ||| (andn (andn x y) ((x / 2) ^^^ (y / 2)) &&& 1) = if y < x then 1 else 0 := by decide +kernel
theorem ex_exc {a b v : Nat} (hv : v < 7) : ex (exc a b) v = if ex b v < ex a v then 1 else 0 := by
  unfold exc
  rw [ex_or, ex_andn, ex_half _ _ hv, ex_half _ _ hv, ex_and, ex_andn, ex_andn, ex_xor, ex_half _ _ hv, ex_half _ _ hv, ex_5461 hv]
  exact exc_dig _ (ex_lt a v) _ (ex_lt b v)
theorem exc_lt {a b : Nat} : exc a b ≤ 5461 := by
  have e : exc a b = exc a b &&& 5461 := by
    apply Nat.eq_of_testBit_eq
    intro i
    unfold exc
    simp only [Nat.testBit_or, Nat.testBit_and, andn_bit]
    cases Nat.testBit 5461 i <;> simp
  rw [e]; exact Nat.and_le_right
theorem exc_0 {a b : Nat} : exc a b = 0 ↔ dvd a b := by
  constructor
  · intro e v hv
    have := ex_exc (a := a) (b := b) hv
    rw [e, show ex 0 v = 0 by unfold ex; simp] at this
    split at this
    · omega
    · omega
  · intro q
    have := exc_lt (a := a) (b := b)
    refine ex7 (by omega) (fun w hw => ?_)
    rw [ex_exc hw, if_neg (by have := q w hw; omega)]
theorem cl_exceeding {a b : Nat} (ha : a < 16384) (hb : b < 16384) : Cl G d M_X6_exceeding [.int (nI a), .int (nI b)] h (qI (nI (exc a b)) h) := by
  refine ev_start 4 (lv := [some (.int (nI a)), some (.int (nI b)), none, none, none, none]) rfl (by decide) (Nat.le_of_ble_eq_true rfl) ?_
  refine ev_iload_n dX6_exceeding_0 rfl ?_
  refine ev_iconst (nI 1) dX6_exceeding_1 rfl ?_
  refine ev_ishrN dX6_exceeding_2 (by omega) (by omega) ?_
  refine ev_sipush (nI 5461) dX6_exceeding_3 rfl ?_
  refine ev_iandN dX6_exceeding_6 ?_
  refine ev_ist2 dX6_exceeding_7 (by decide) rfl ?_
  refine ev_iload_n dX6_exceeding_8 rfl ?_
  refine ev_iconst (nI 1) dX6_exceeding_9 rfl ?_
  refine ev_ishrN dX6_exceeding_10 (by omega) (by omega) ?_
  refine ev_sipush (nI 5461) dX6_exceeding_11 rfl ?_
  refine ev_iandN dX6_exceeding_14 ?_
  refine ev_ist3 dX6_exceeding_15 (by decide) rfl ?_
  refine ev_iload_n dX6_exceeding_16 rfl ?_
  refine ev_iload_n dX6_exceeding_17 rfl ?_
  refine ev_iconst (-1) dX6_exceeding_18 rfl ?_
  refine ev_ixor dX6_exceeding_19 ?_
  refine ev_iandC dX6_exceeding_20 ?_
  refine ev_ist4 dX6_exceeding_21 (by decide) rfl ?_
  refine ev_iload_n dX6_exceeding_23 rfl ?_
  refine ev_iload_n dX6_exceeding_24 rfl ?_
  refine ev_iconst (-1) dX6_exceeding_25 rfl ?_
  refine ev_ixor dX6_exceeding_26 ?_
  refine ev_iandC dX6_exceeding_27 ?_
  refine ev_iload_n dX6_exceeding_28 rfl ?_
  refine ev_iload_n dX6_exceeding_29 rfl ?_
  refine ev_ixorN dX6_exceeding_30 ?_
  refine ev_iconst (-1) dX6_exceeding_31 rfl ?_
  refine ev_ixor dX6_exceeding_32 ?_
  refine ev_iandC dX6_exceeding_33 ?_
  refine ev_sipush (nI 5461) dX6_exceeding_34 rfl ?_
  refine ev_iandN dX6_exceeding_37 ?_
  refine ev_ist5 dX6_exceeding_38 (by decide) rfl ?_
  refine ev_iload dX6_exceeding_40 rfl ?_
  refine ev_iload dX6_exceeding_42 rfl ?_
  refine ev_iorN dX6_exceeding_44 ?_
  refine ev_iret dX6_exceeding_45 rfl ?_
  exact ⟨rfl, rfl⟩
theorem cl_dividesC {a b : Nat} (ha : a < 16384) (hb : b < 16384) : Cl G (d + 1) M_X6_divides [.int (nI a), .int (nI b)] h (qI (nI (b01 (dvd a b))) h) := by
  have := exc_lt (a := a) (b := b)
  refine ev_start 0 (lv := [some (.int (nI a)), some (.int (nI b))]) rfl (by decide) (Nat.le_of_ble_eq_true rfl) ?_
  refine ev_iload_n dX6_divides_0 rfl ?_
  refine ev_iload_n dX6_divides_1 rfl ?_
  refine ev_callS (cl_exceeding ha hb) ok_X6_exceeding ml_X6_17 rfl rfl (Nat.le_of_ble_eq_true rfl) dX6_divides_2 (kI ?_)
  refine ev_if_neN 12 dX6_divides_5 (by decide) (by omega) (fun c5 => ?_) (fun c5 => ?_)
  · refine ev_iconst (nI 0) dX6_divides_12 rfl ?_
    refine ev_zret dX6_divides_13 rfl rfl ?_
    exact ⟨by rw [b01_f (fun z => c5 (exc_0.mpr z))], rfl⟩
  · refine ev_iconst (nI 1) dX6_divides_8 rfl ?_
    refine ev_goto 13 dX6_divides_9 (by decide) ?_
    refine ev_zret dX6_divides_13 rfl rfl ?_
    exact ⟨by rw [b01_t (exc_0.mp (by omega))], rfl⟩
theorem cl_dividesM {a b : Nat} (ha : a < 16384) (hb : b < 16384) : Cl G (d + 1) M_X12_divides [.int (nI a), .int (nI b)] h (qI (nI (b01 (dvd a b))) h) := by
  have loop : ∀ (k v : Nat), v + k = 7 → (∀ w, w < v → ex a w ≤ ex b w) → Ev G (d + 1) M_X12_divides 2 [some (.int (nI a)), some (.int (nI b)), some (.int (nI v))] [] h (qI (nI (b01 (dvd a b))) h) := by
    intro k
    induction k with
    | zero =>
      intro v hv hw
      obtain rfl : v = 7 := by omega
      refine ev_iload_n dX12_divides_2 rfl ?_
      refine ev_bipush (nI 7) dX12_divides_3 rfl ?_
      refine ev_icmp_geN 29 dX12_divides_5 (by decide) (by omega) (by omega) (fun c5 => ?_) (fun c5 => ?_)
      · refine ev_iconst (nI 1) dX12_divides_29 rfl ?_
        refine ev_zret dX12_divides_30 rfl rfl ?_
        exact ⟨by rw [b01_t (show dvd a b from hw)], rfl⟩
      · omega
    | succ k ih =>
      intro v hv hw
      have x1 := ex_lt a v
      have x2 := ex_lt b v
      refine ev_iload_n dX12_divides_2 rfl ?_
      refine ev_bipush (nI 7) dX12_divides_3 rfl ?_
      refine ev_icmp_geN 29 dX12_divides_5 (by decide) (by omega) (by omega) (fun c5 => ?_) (fun c5 => ?_)
      · omega
      · refine ev_iload_n dX12_divides_8 rfl ?_
        refine ev_iload_n dX12_divides_9 rfl ?_
        refine ev_callS (cl_exponentOfM (by omega) (by omega)) ok_X12_exponentOf ml_X12_128 rfl rfl (Nat.le_of_ble_eq_true rfl) dX12_divides_10 (kI ?_)
        refine ev_iload_n dX12_divides_13 rfl ?_
        refine ev_iload_n dX12_divides_14 rfl ?_
        refine ev_callS (cl_exponentOfM (by omega) (by omega)) ok_X12_exponentOf ml_X12_128 rfl rfl (Nat.le_of_ble_eq_true rfl) dX12_divides_15 (kI ?_)
        refine ev_icmp_leN 23 dX12_divides_18 (by decide) (by omega) (by omega) (fun c18 => ?_) (fun c18 => ?_)
        · refine ev_inc2N dX12_divides_23 (by decide) rfl ?_
          refine ev_goto 2 dX12_divides_26 (by decide) ?_
          exact ih (v + 1) (by omega) (fun w h1 => by
          by_cases e : w = v
          · subst e; omega
          · exact hw w (by omega))
        · refine ev_iconst (nI 0) dX12_divides_21 rfl ?_
          refine ev_zret dX12_divides_22 rfl rfl ?_
          exact ⟨by rw [b01_f (show ¬ dvd a b from fun z => by have := z v (by omega); omega)], rfl⟩
  refine ev_start 1 (lv := [some (.int (nI a)), some (.int (nI b)), none]) rfl (by decide) (Nat.le_of_ble_eq_true rfl) ?_
  refine ev_iconst (nI 0) dX12_divides_0 rfl ?_
  refine ev_ist2 dX12_divides_1 (by decide) rfl ?_
  exact loop 7 0 (by omega) (fun w h1 => absurd h1 (by omega))
def gcdN (a b : Nat) : Nat := andn a (3 * exc a b) ||| (b &&& 3 * exc a b)
theorem low_3 {e : Nat} : ∀ v, (∀ w, w < v → ex e w ≤ 1) → 3 * (e % 4 ^ v) < 4 ^ v
  | 0, _ => by rw [Nat.pow_zero, Nat.mod_one]; decide
  | v + 1, h => by
    have i := low_3 v (fun w hw => h w (by omega))
    have k := h v (by omega)
    unfold ex at k
    rw [Nat.mod_pow_succ, Nat.pow_succ]
    generalize 4 ^ v = p at *
    generalize e / p % 4 = q at *
    have : p * q ≤ p * 1 := Nat.mul_le_mul_left p k
    omega
theorem ex_3 {e v : Nat} (h : ∀ w, w < 7 → ex e w ≤ 1) (hv : v < 7) : ex (3 * e) v = 3 * ex e v := by
  have l := low_3 (e := e) v (fun w hw => h w (by omega))
  have k := h v hv
  have p0 : 0 < 4 ^ v := Nat.pow_pos (by decide)
  unfold ex at *
  have e1 : 3 * e / 4 ^ v = 3 * (e / 4 ^ v) := by
    have := Nat.div_add_mod e (4 ^ v)
    generalize hp : 4 ^ v = p at *
    generalize e / p = q at *
    generalize e % p = r at *
    rw [← this, show 3 * (p * q + r) = p * (3 * q) + 3 * r by rw [Nat.mul_add, Nat.mul_left_comm], Nat.mul_add_div p0, Nat.div_eq_of_lt l]; rfl
  rw [e1]
  generalize e / 4 ^ v = q at *
  omega
theorem gcd_dig : ∀ x, x < 4 → ∀ y, y < 4 → andn x (3 * (if y < x then 1 else 0)) ||| (y &&& 3 * (if y < x then 1 else 0)) = min x y := by decide +kernel
theorem ex_gcd {a b v : Nat} (hv : v < 7) : ex (gcdN a b) v = min (ex a v) (ex b v) := by
  have k : ∀ v, v < 7 → ex (exc a b) v ≤ 1 := fun v hv => by rw [ex_exc hv]; split <;> omega
  unfold gcdN
  rw [ex_or, ex_andn, ex_and, ex_3 k hv, ex_exc hv]
  exact gcd_dig _ (ex_lt a v) _ (ex_lt b v)
theorem gcd_lt {a b : Nat} (ha : a < 16384) (hb : b < 16384) : gcdN a b < 16384 := or_lt14 (andn_lt ha) (and_lt hb)
theorem num_mod (a : Nat) : ∀ k, a % 4 ^ k = sumTo k (fun v => ex a v * 4 ^ v)
  | 0 => by rw [Nat.pow_zero, Nat.mod_one]; rfl
  | k + 1 => by
    rw [Nat.mod_pow_succ, num_mod a k]
    simp only [sumTo]
    unfold ex
    rw [Nat.mul_comm (4 ^ k)]
theorem num_sum {a : Nat} (ha : a < 16384) : a = sumTo 7 (fun v => ex a v * 4 ^ v) := by
  rw [← num_mod, Nat.mod_eq_of_lt ha]
theorem sumTo_mono {f g : Nat → Nat} : ∀ n, (∀ i, i < n → f i ≤ g i) → sumTo n f ≤ sumTo n g
  | 0, _ => Nat.le_refl _
  | n + 1, h => by
    have := sumTo_mono n (fun i hi => h i (by omega))
    have := h n (by omega)
    simp only [sumTo]; omega
theorem sumTo_add (n : Nat) (f g : Nat → Nat) : sumTo n f + sumTo n g = sumTo n (fun i => f i + g i) := by
  induction n with
  | zero => rfl
  | succ n ih => simp only [sumTo]; omega
theorem gcd_lcm {a b : Nat} (ha : a < 16384) (hb : b < 16384) : a + b = gcdN a b + sumTo 7 (fun v => max (ex a v) (ex b v) * 4 ^ v) := by
  have e1 := num_sum (gcd_lt ha hb)
  rw [sumTo_c (g := fun v => min (ex a v) (ex b v) * 4 ^ v) (fun v hv => by rw [ex_gcd hv])] at e1
  rw [e1, sumTo_add]
  have e2 := num_sum ha
  have e3 := num_sum hb
  have e4 : a + b = sumTo 7 (fun v => ex a v * 4 ^ v) + sumTo 7 (fun v => ex b v * 4 ^ v) := by omega
  rw [e4, sumTo_add]
  refine sumTo_c (fun v hv => ?_)
  rw [← Nat.add_mul, ← Nat.add_mul]
  congr 1
  omega
theorem cl_commonDivisor {a b : Nat} (ha : a < 16384) (hb : b < 16384) : Cl G (d + 1) M_X6_commonDivisor [.int (nI a), .int (nI b)] h (qI (nI (gcdN a b)) h) := by
  refine ev_start 1 (lv := [some (.int (nI a)), some (.int (nI b)), none]) rfl (by decide) (Nat.le_of_ble_eq_true rfl) ?_
  refine ev_iconst (nI 3) dX6_commonDivisor_0 rfl ?_
  refine ev_iload_n dX6_commonDivisor_1 rfl ?_
  refine ev_iload_n dX6_commonDivisor_2 rfl ?_
  refine ev_callS (cl_exceeding ha hb) ok_X6_exceeding ml_X6_17 rfl rfl (Nat.le_of_ble_eq_true rfl) dX6_commonDivisor_3 (kI ?_)
  refine ev_imulN dX6_commonDivisor_6 ?_
  refine ev_ist2 dX6_commonDivisor_7 (by decide) rfl ?_
  refine ev_iload_n dX6_commonDivisor_8 rfl ?_
  refine ev_iload_n dX6_commonDivisor_9 rfl ?_
  refine ev_iconst (-1) dX6_commonDivisor_10 rfl ?_
  refine ev_ixor dX6_commonDivisor_11 ?_
  refine ev_iandC dX6_commonDivisor_12 ?_
  refine ev_iload_n dX6_commonDivisor_13 rfl ?_
  refine ev_iload_n dX6_commonDivisor_14 rfl ?_
  refine ev_iandN dX6_commonDivisor_15 ?_
  refine ev_iorN dX6_commonDivisor_16 ?_
  refine ev_iret dX6_commonDivisor_17 rfl ?_
  exact ⟨rfl, rfl⟩
/-- the answer of a query with two codes -/
noncomputable def aC2 (n : Nat) (x y : Int32) (f : Nat → Nat → Int32) : Int32 := aIn x (4 ^ n) (fun a => aIn y (4 ^ n) (f a))
noncomputable def aMul (a b : Nat) : Int32 := @ite _ (∀ v, v < 7 → ex a v + ex b v ≤ 3) (Classical.propDecidable _) (nI (a + b)) (-3)
noncomputable def aDiv (a b : Nat) : Int32 := @ite _ (dvd b a) (Classical.propDecidable _) (nI (a - b)) (-5)
def lcmN (a b : Nat) : Nat := sumTo 7 (fun v => max (ex a v) (ex b v) * 4 ^ v)
theorem dvd_le {a b : Nat} (ha : a < 16384) (hb : b < 16384) (q : dvd a b) : a ≤ b := by
  have := sumTo_mono (f := fun v => ex a v * 4 ^ v) (g := fun v => ex b v * 4 ^ v) 7 (fun v hv => Nat.mul_le_mul_right _ (q v hv))
  rw [← num_sum ha, ← num_sum hb] at this
  exact this
theorem ex_top {b v : Nat} (hb : b < 16384) (hv : v < 7) : ex (16383 - b) v = 3 - ex b v := by
  unfold ex
  rcases (show v = 0 ∨ v = 1 ∨ v = 2 ∨ v = 3 ∨ v = 4 ∨ v = 5 ∨ v = 6 by omega) with rfl | rfl | rfl | rfl | rfl | rfl | rfl <;> simp only [Nat.pow_zero, Nat.div_one, Nat.reducePow] <;> omega
theorem dvd_top {a b : Nat} (hb : b < 16384) : dvd a (16383 - b) ↔ ∀ v, v < 7 → ex a v + ex b v ≤ 3 := by
  constructor
  · intro q v hv
    have := q v hv
    rw [ex_top hb hv] at this
    have := ex_lt a v
    have := ex_lt b v
    omega
  · intro q v hv
    rw [ex_top hb hv]
    have := q v hv
    omega
end Q3
