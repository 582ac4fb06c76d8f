section POP
def pcs : Nat → Nat → Nat
  | 0, _ => 0
  | k + 1, x => x % 2 + pcs k (x / 2)
theorem pcs_add (a b : Nat) : ∀ x, pcs (a + b) x = pcs a x + pcs b (x / 2 ^ a) := by
  induction a with
  | zero => intro x; simp [pcs]
  | succ a ih =>
    intro x
    rw [show a + 1 + b = (a + b) + 1 by omega]
    show x % 2 + pcs (a + b) (x / 2) = x % 2 + pcs a (x / 2) + pcs b (x / 2 ^ (a + 1))
    rw [ih, Nat.div_div_eq_div_mul, show 2 * 2 ^ a = 2 ^ (a + 1) by rw [Nat.pow_succ]; omega]
    omega
theorem pcs_mod (k : Nat) : ∀ x, pcs k (x % 2 ^ k) = pcs k x := by
  induction k with
  | zero => intro x; rfl
  | succ k ih =>
    intro x
    show x % 2 ^ (k + 1) % 2 + pcs k (x % 2 ^ (k + 1) / 2) = x % 2 + pcs k (x / 2)
    have e1 : x % 2 ^ (k + 1) % 2 = x % 2 := Nat.mod_mod_of_dvd x (by rw [Nat.pow_succ]; exact Nat.dvd_mul_left 2 _)
    have e2 : x % 2 ^ (k + 1) / 2 = (x / 2) % 2 ^ k := by
      rw [Nat.pow_succ']
      exact Nat.mod_mul_right_div_self x 2 (2 ^ k)
    rw [e1, e2, ih]
theorem pcs_z (k : Nat) : pcs k 0 = 0 := by
  induction k with
  | zero => rfl
  | succ k ih => show 0 % 2 + pcs k (0 / 2) = 0; simp [ih]
def sumTo : Nat → (Nat → Nat) → Nat
  | 0, _ => 0
  | n + 1, f => sumTo n f + f n
theorem sumTo_c {n : Nat} {f g : Nat → Nat} (h : ∀ i, i < n → f i = g i) : sumTo n f = sumTo n g := by
  induction n with
  | zero => rfl
  | succ n ih => show sumTo n f + f n = sumTo n g + g n; rw [ih (fun i hi => h i (by omega)), h n (by omega)]
theorem sumTo_z {n k : Nat} {f : Nat → Nat} (hk : n ≤ k) (h : ∀ i, n ≤ i → i < k → f i = 0) : sumTo k f = sumTo n f := by
  induction k with
  | zero => rw [show n = 0 by omega]
  | succ k ih =>
    by_cases e : n = k + 1
    · rw [e]
    · show sumTo k f + f k = sumTo n f
      rw [ih (by omega) (fun i h1 h2 => h i h1 (by omega)), h k (by omega) (by omega), Nat.add_zero]
theorem sumTo_le {n b : Nat} {f : Nat → Nat} (h : ∀ i, i < n → f i ≤ b) : sumTo n f ≤ n * b := by
  induction n with
  | zero => exact Nat.zero_le _
  | succ n ih =>
    have h1 := ih (fun i hi => h i (by omega))
    have h2 := h n (by omega)
    show sumTo n f + f n ≤ (n + 1) * b
    rw [Nat.succ_mul]; omega
theorem pop_pcs : ∀ x, x < 128 → pop x = pcs 7 x := by decide +kernel
theorem pcs7_le : ∀ x, x < 128 → pcs 7 x ≤ 7 := by decide +kernel
theorem pcs_rows (N : Nat) : pcs 49 N = sumTo 7 (fun v => pop (nb N v)) := by
  have e : ∀ v, pop (nb N v) = pcs 7 (N / 2 ^ (7 * v)) := by
    intro v
    rw [pop_pcs _ (nb_lt N v)]
    unfold nb
    rw [show (128 : Nat) = 2 ^ 7 from rfl, pcs_mod]
  simp only [sumTo, e]
  rw [show (49 : Nat) = 7 + (7 + (7 + (7 + (7 + (7 + 7))))) from rfl, pcs_add, pcs_add, pcs_add, pcs_add, pcs_add, pcs_add]
  simp only [Nat.div_div_eq_div_mul, ← Nat.pow_add]
  simp only [Nat.mul_zero, Nat.mul_one, Nat.pow_zero, Nat.div_one, Nat.reduceMul, Nat.reduceAdd]
  omega
end POP
section SWAR
def m5 : Nat → Nat
  | 0 => 0
  | k + 1 => 85 + 256 * m5 k
def m3 : Nat → Nat
  | 0 => 0
  | k + 1 => 51 + 256 * m3 k
def mF : Nat → Nat
  | 0 => 0
  | k + 1 => 15 + 256 * mF k
def z1 (k x : Nat) : Nat := x - (x / 2 ^ 1 &&& m5 k)
def z2 (k x : Nat) : Nat := (x &&& m3 k) + (x / 2 ^ 2 &&& m3 k)
def z3 (k x : Nat) : Nat := (x + x / 2 ^ 4) &&& mF k
theorem and_split {a m : Nat} (ha : a < 256) (hm : m < 256) (x y : Nat) : (a + 256 * x) &&& (m + 256 * y) = (a &&& m) + 256 * (x &&& y) := by
  have h1 : a &&& m < 256 := and_lt ha
  apply Nat.eq_of_testBit_eq
  intro i
  rw [Nat.testBit_and, Nat.add_comm a, Nat.add_comm m, Nat.add_comm (a &&& m), show (256 : Nat) = 2 ^ 8 from rfl, Nat.testBit_two_pow_mul_add _ ha, Nat.testBit_two_pow_mul_add _ hm, Nat.testBit_two_pow_mul_add _ h1]
  by_cases c : i < 8
  · simp only [c, if_true, Nat.testBit_and]
  · simp only [c, if_false, Nat.testBit_and]
theorem f1 : ∀ a, a < 256 → ∀ t, t < 2 → (a / 2 + 128 * t) &&& 85 = a / 2 &&& 85 := by decide +kernel
theorem f2 : ∀ a, a < 256 → ∀ t, t < 4 → (a / 4 + 64 * t) &&& 51 = a / 4 &&& 51 := by decide +kernel
theorem f3 : ∀ a, a < 69 → ∀ t, t < 5 → (a + a / 16 + 16 * t) &&& 15 = (a + a / 16) &&& 15 := by decide +kernel
theorem z1_s (k a x : Nat) (ha : a < 256) : z1 (k + 1) (a + 256 * x) = z1 1 a + 256 * z1 k x := by
  have e1 : (a + 256 * x) / 2 = (a / 2 + 128 * (x % 2)) + 256 * (x / 2) := by omega
  have l1 : (a / 2 &&& 85) ≤ a := Nat.le_trans Nat.and_le_left (Nat.div_le_self _ _)
  have l2 : (x / 2 &&& m5 k) ≤ x := Nat.le_trans Nat.and_le_left (Nat.div_le_self _ _)
  show a + 256 * x - ((a + 256 * x) / 2 &&& (85 + 256 * m5 k)) = a - (a / 2 &&& 85) + 256 * (x - (x / 2 &&& m5 k))
  rw [e1, and_split (by omega) (by decide), f1 a ha _ (Nat.mod_lt _ (by decide))]
  omega
theorem z2_s (k a x : Nat) (ha : a < 256) : z2 (k + 1) (a + 256 * x) = z2 1 a + 256 * z2 k x := by
  have e1 : (a + 256 * x) / 4 = (a / 4 + 64 * (x % 4)) + 256 * (x / 4) := by omega
  show (a + 256 * x &&& (51 + 256 * m3 k)) + ((a + 256 * x) / 4 &&& (51 + 256 * m3 k)) = (a &&& 51) + (a / 4 &&& 51) + 256 * ((x &&& m3 k) + (x / 4 &&& m3 k))
  rw [e1, and_split ha (by decide), and_split (by omega) (by decide), f2 a ha _ (Nat.mod_lt _ (by decide))]
  omega
theorem z3_s (k a x : Nat) (ha : a < 69) (hx : x % 16 < 5) : z3 (k + 1) (a + 256 * x) = z3 1 a + 256 * z3 k x := by
  have e1 : (a + 256 * x) + (a + 256 * x) / 16 = (a + a / 16 + 16 * (x % 16)) + 256 * (x + x / 16) := by omega
  show ((a + 256 * x) + (a + 256 * x) / 16) &&& (15 + 256 * mF k) = ((a + a / 16) &&& (15 + 256 * 0)) + 256 * ((x + x / 16) &&& mF k)
  rw [e1, and_split (by omega) (by decide), f3 a ha _ hx]
theorem b2 : ∀ a, a < 256 → z1 1 a < 256 ∧ z2 1 (z1 1 a) < 69 ∧ z2 1 (z1 1 a) % 16 < 5 ∧ z3 1 (z2 1 (z1 1 a)) = pcs 8 a ∧ pcs 8 a ≤ 8 := by decide +kernel
theorem zz_s (k a x : Nat) (ha : a < 256) (hx : z2 k (z1 k x) % 16 < 5) : z3 (k + 1) (z2 (k + 1) (z1 (k + 1) (a + 256 * x))) = pcs 8 a + 256 * z3 k (z2 k (z1 k x)) ∧ z2 (k + 1) (z1 (k + 1) (a + 256 * x)) % 16 < 5 := by
  obtain ⟨h1, h2, h3, h4, -⟩ := b2 a ha
  rw [z1_s k a x ha, z2_s k _ _ h1, z3_s k _ _ h2 hx, h4]
  exact ⟨rfl, by omega⟩
theorem z0 (x : Nat) : z3 0 (z2 0 (z1 0 x)) = 0 ∧ z2 0 (z1 0 x) % 16 < 5 := by
  simp [z1, z2, z3, m5, m3, mF]
/-- the sum of the ones, as Long.bitCount finds it -/
theorem swar {N : Nat} (hN : N < 2 ^ 49) :
    ((let t := z3 8 (z2 8 (z1 8 N)); let t4 := t + t / 2 ^ 8; let t5 := t4 + t4 / 2 ^ 16; t5 + t5 / 2 ^ 32) &&& 127) = pcs 49 N := by
  obtain ⟨a0, x0, h0, r0⟩ : ∃ a x, a < 256 ∧ (N = a + 256 * x ∧ a = N % 256 ∧ x = N / 256) := ⟨N % 256, N / 256, Nat.mod_lt _ (by decide), by omega, rfl, rfl⟩
  obtain ⟨a1, x1, h1, r1⟩ : ∃ a x, a < 256 ∧ (x0 = a + 256 * x ∧ a = x0 % 256 ∧ x = x0 / 256) := ⟨x0 % 256, x0 / 256, Nat.mod_lt _ (by decide), by omega, rfl, rfl⟩
  obtain ⟨a2, x2, h2, r2⟩ : ∃ a x, a < 256 ∧ (x1 = a + 256 * x ∧ a = x1 % 256 ∧ x = x1 / 256) := ⟨x1 % 256, x1 / 256, Nat.mod_lt _ (by decide), by omega, rfl, rfl⟩
  obtain ⟨a3, x3, h3, r3⟩ : ∃ a x, a < 256 ∧ (x2 = a + 256 * x ∧ a = x2 % 256 ∧ x = x2 / 256) := ⟨x2 % 256, x2 / 256, Nat.mod_lt _ (by decide), by omega, rfl, rfl⟩
  obtain ⟨a4, x4, h4, r4⟩ : ∃ a x, a < 256 ∧ (x3 = a + 256 * x ∧ a = x3 % 256 ∧ x = x3 / 256) := ⟨x3 % 256, x3 / 256, Nat.mod_lt _ (by decide), by omega, rfl, rfl⟩
  obtain ⟨a5, x5, h5, r5⟩ : ∃ a x, a < 256 ∧ (x4 = a + 256 * x ∧ a = x4 % 256 ∧ x = x4 / 256) := ⟨x4 % 256, x4 / 256, Nat.mod_lt _ (by decide), by omega, rfl, rfl⟩
  obtain ⟨a6, x6, h6, r6⟩ : ∃ a x, a < 256 ∧ (x5 = a + 256 * x ∧ a = x5 % 256 ∧ x = x5 / 256) := ⟨x5 % 256, x5 / 256, Nat.mod_lt _ (by decide), by omega, rfl, rfl⟩
  have hx6 : x6 = 0 := by omega
  have k7 := zz_s 0 a6 x6 h6 (z0 x6).2
  rw [← r6.1, (z0 x6).1] at k7
  have k6 := zz_s 1 a5 x5 h5 k7.2
  rw [← r5.1, k7.1] at k6
  have k5 := zz_s 2 a4 x4 h4 k6.2
  rw [← r4.1, k6.1] at k5
  have k4 := zz_s 3 a3 x3 h3 k5.2
  rw [← r3.1, k5.1] at k4
  have k3 := zz_s 4 a2 x2 h2 k4.2
  rw [← r2.1, k4.1] at k3
  have k2 := zz_s 5 a1 x1 h1 k3.2
  rw [← r1.1, k3.1] at k2
  have k1 := zz_s 6 a0 x0 h0 k2.2
  rw [← r0.1, k2.1] at k1
  have k8 : z3 8 (z2 8 (z1 8 N)) = z3 7 (z2 7 (z1 7 N)) := by
    have hz : ∀ k x, x < 256 ^ k → z1 (k + 1) x = z1 k x := by
      intro k
      induction k with
      | zero => intro x hx; have : x = 0 := by omega
                subst this; rfl
      | succ k ih =>
        intro x hx
        have e : x = x % 256 + 256 * (x / 256) := by omega
        have hq : x / 256 < 256 ^ k := by rw [Nat.pow_succ] at hx; omega
        rw [e, z1_s (k + 1) _ _ (Nat.mod_lt _ (by decide)), z1_s k _ _ (Nat.mod_lt _ (by decide)), ih _ hq]
    have hz2 : ∀ k x, x < 256 ^ k → z2 (k + 1) x = z2 k x := by
      intro k
      induction k with
      | zero => intro x hx; have : x = 0 := by omega
                subst this; rfl
      | succ k ih =>
        intro x hx
        have e : x = x % 256 + 256 * (x / 256) := by omega
        have hq : x / 256 < 256 ^ k := by rw [Nat.pow_succ] at hx; omega
        rw [e, z2_s (k + 1) _ _ (Nat.mod_lt _ (by decide)), z2_s k _ _ (Nat.mod_lt _ (by decide)), ih _ hq]
    have l1 : z1 7 N < 256 ^ 7 := Nat.lt_of_le_of_lt (Nat.sub_le _ _) (by omega)
    have l2 : z2 7 (z1 7 N) < 2 ^ 51 := by
      have q1 : (z1 7 N &&& m3 7) ≤ z1 7 N := Nat.and_le_left
      have q2 : (z1 7 N / 2 ^ 2 &&& m3 7) ≤ z1 7 N := Nat.le_trans Nat.and_le_left (Nat.div_le_self _ _)
      have q3 : z1 7 N ≤ N := Nat.sub_le _ _
      show (z1 7 N &&& m3 7) + (z1 7 N / 2 ^ 2 &&& m3 7) < 2 ^ 51
      omega
    rw [hz 7 N (by omega), hz2 7 _ l1]
    generalize z2 7 (z1 7 N) = y at l2 ⊢
    show (y + y / 2 ^ 4) &&& mF 8 = (y + y / 2 ^ 4) &&& mF 7
    have l3 : y + y / 2 ^ 4 < 2 ^ 56 := by omega
    generalize y + y / 2 ^ 4 = w at l3 ⊢
    apply Nat.eq_of_testBit_eq
    intro i
    rw [Nat.testBit_and, Nat.testBit_and]
    by_cases c : i < 56
    · have : (mF 8).testBit i = (mF 7).testBit i := by
        have hall : ∀ i, i < 56 → (mF 8).testBit i = (mF 7).testBit i := by decide +kernel
        exact hall i c
      rw [this]
    · rw [bit_out l3 (by omega)]; rfl
  rw [k8, k1.1]
  have s0 := (b2 a0 h0).2.2.2.2
  have s1 := (b2 a1 h1).2.2.2.2
  have s2 := (b2 a2 h2).2.2.2.2
  have s3 := (b2 a3 h3).2.2.2.2
  have s4 := (b2 a4 h4).2.2.2.2
  have s5 := (b2 a5 h5).2.2.2.2
  have s6 := (b2 a6 h6).2.2.2.2
  have hsum : pcs 49 N = pcs 8 a0 + pcs 8 a1 + pcs 8 a2 + pcs 8 a3 + pcs 8 a4 + pcs 8 a5 + pcs 8 a6 := by
    have e56 : pcs 56 N = pcs 49 N := by
      rw [show (56 : Nat) = 49 + 7 from rfl, pcs_add, Nat.div_eq_of_lt hN, pcs_z, Nat.add_zero]
    have md : ∀ x, pcs 8 (x % 256) = pcs 8 x := fun x => pcs_mod 8 x
    rw [← e56, show (56 : Nat) = 8 + (8 + (8 + (8 + (8 + (8 + 8))))) from rfl, pcs_add, pcs_add, pcs_add, pcs_add, pcs_add, pcs_add, r6.2.1, r5.2.1, r4.2.1, r3.2.1, r2.2.1, r1.2.1, r0.2.1, md, md, md, md, md, md, md, r5.2.2, r4.2.2, r3.2.2, r2.2.2, r1.2.2, r0.2.2]
    simp only [show (2 : Nat) ^ 8 = 256 from rfl]
    omega
  rw [hsum]
  generalize pcs 8 a0 = p0 at *
  generalize pcs 8 a1 = p1 at *
  generalize pcs 8 a2 = p2 at *
  generalize pcs 8 a3 = p3 at *
  generalize pcs 8 a4 = p4 at *
  generalize pcs 8 a5 = p5 at *
  generalize pcs 8 a6 = p6 at *
  show _ &&& 127 = _
  rw [show (127 : Nat) = 2 ^ 7 - 1 from rfl, Nat.and_two_pow_sub_one_eq_mod]
  clear k1 k2 k3 k4 k5 k6 k7 k8 r0 r1 r2 r3 r4 r5 r6 hsum h0 h1 h2 h3 h4 h5 h6 hN hx6
  simp only
  have q1 : (p0 + 256 * (p1 + 256 * (p2 + 256 * (p3 + 256 * (p4 + 256 * (p5 + 256 * (p6 + 256 * 0))))))) / 2 ^ 8 = p1 + 256 * (p2 + 256 * (p3 + 256 * (p4 + 256 * (p5 + 256 * (p6 + 256 * 0))))) := by omega
  rw [q1]
  have q2 : p0 + 256 * (p1 + 256 * (p2 + 256 * (p3 + 256 * (p4 + 256 * (p5 + 256 * (p6 + 256 * 0)))))) + (p1 + 256 * (p2 + 256 * (p3 + 256 * (p4 + 256 * (p5 + 256 * (p6 + 256 * 0)))))) = (p0 + p1) + 256 * ((p1 + p2) + 256 * ((p2 + p3) + 256 * ((p3 + p4) + 256 * ((p4 + p5) + 256 * ((p5 + p6) + 256 * p6))))) := by omega
  rw [q2]
  have q3 : ((p0 + p1) + 256 * ((p1 + p2) + 256 * ((p2 + p3) + 256 * ((p3 + p4) + 256 * ((p4 + p5) + 256 * ((p5 + p6) + 256 * p6)))))) / 2 ^ 16 = (p2 + p3) + 256 * ((p3 + p4) + 256 * ((p4 + p5) + 256 * ((p5 + p6) + 256 * p6))) := by omega
  rw [q3]
  have q4 : (p0 + p1) + 256 * ((p1 + p2) + 256 * ((p2 + p3) + 256 * ((p3 + p4) + 256 * ((p4 + p5) + 256 * ((p5 + p6) + 256 * p6))))) + ((p2 + p3) + 256 * ((p3 + p4) + 256 * ((p4 + p5) + 256 * ((p5 + p6) + 256 * p6)))) = (p0 + p1 + p2 + p3) + 256 * ((p1 + p2 + p3 + p4) + 256 * ((p2 + p3 + p4 + p5) + 256 * ((p3 + p4 + p5 + p6) + 256 * ((p4 + p5 + p6) + 256 * ((p5 + p6) + 256 * p6))))) := by omega
  rw [q4]
  have q5 : ((p0 + p1 + p2 + p3) + 256 * ((p1 + p2 + p3 + p4) + 256 * ((p2 + p3 + p4 + p5) + 256 * ((p3 + p4 + p5 + p6) + 256 * ((p4 + p5 + p6) + 256 * ((p5 + p6) + 256 * p6)))))) / 2 ^ 32 = (p4 + p5 + p6) + 256 * ((p5 + p6) + 256 * p6) := by omega
  rw [q5]
  omega
end SWAR
