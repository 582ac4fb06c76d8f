section MATH
/-- the exponent of the variable v, the degree, the number of ones -/
def ex (m v : Nat) : Nat := m / 4 ^ v % 4
def deg (m : Nat) : Nat := ex m 0 + ex m 1 + ex m 2 + ex m 3 + ex m 4 + ex m 5 + ex m 6
def bt (m v : Nat) : Nat := m / 2 ^ v % 2
def pop (m : Nat) : Nat := bt m 0 + bt m 1 + bt m 2 + bt m 3 + bt m 4 + bt m 5 + bt m 6 + bt m 7 + bt m 8 + bt m 9 + bt m 10 + bt m 11 + bt m 12 + bt m 13
theorem nat_and1 (x : Nat) : x &&& 1 = x % 2 := Nat.and_one_is_mod x
theorem nat_and3 (x : Nat) : x &&& 3 = x % 4 := Nat.and_two_pow_sub_one_eq_mod x 2
theorem pow4 (v : Nat) : 2 ^ (2 * v) = 4 ^ v := by rw [Nat.pow_mul]
theorem ex_lt (m v : Nat) : ex m v < 4 := Nat.mod_lt _ (by decide)
theorem bt_lt (m v : Nat) : bt m v < 2 := Nat.mod_lt _ (by decide)
theorem all2 {P : Nat → Prop} (h : ∀ i, i < 128 → ∀ j, j < 128 → P (128 * i + j)) {m : Nat} (hm : m < 16384) : P m := by
  have := h (m / 128) (by omega) (m % 128) (by omega)
  rwa [show 128 * (m / 128) + m % 128 = m by omega] at this
def bcF (a : Nat) : Nat :=
  let x1 := a - (a / 2 ^ 1 &&& 1431655765)
  let x2 := (x1 &&& 858993459) + (x1 / 2 ^ 2 &&& 858993459)
  let x3 := (x2 + x2 / 2 ^ 4) &&& 252645135
  let x4 := x3 + x3 / 2 ^ 8
  let x5 := x4 + x4 / 2 ^ 16
  x5 &&& 63
theorem bcF_pop {a : Nat} (h : a < 16384) : bcF a = pop a := by
  refine all2 (P := fun a => bcF a = pop a) ?_ h
  decide +kernel
theorem deg_pop {m : Nat} (h : m < 16384) : pop m + pop (m / 2 ^ 1 &&& 5461) = deg m := by
  refine all2 (P := fun m => pop m + pop (m / 2 ^ 1 &&& 5461) = deg m) ?_ h
  decide +kernel
end MATH
