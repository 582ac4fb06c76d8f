section BITS
theorem tb_iff (x v : Nat) : x / 2 ^ v &&& 1 = 1 ↔ x.testBit v = true := by
  rw [nat_and1, Nat.testBit_eq_decide_div_mod_eq]; simp
theorem tb_0 (x v : Nat) : x / 2 ^ v &&& 1 = 0 ↔ x.testBit v = false := by
  rw [nat_and1, Nat.testBit_eq_decide_div_mod_eq]
  have : x / 2 ^ v % 2 < 2 := Nat.mod_lt _ (by decide)
  simp; 
theorem tb_n0 (x v : Nat) : ¬ (x / 2 ^ v &&& 1 = 0) ↔ x.testBit v = true := by
  rw [tb_0]; cases x.testBit v <;> simp
theorem tb_n1 (x v : Nat) : ¬ (x / 2 ^ v &&& 1 = 1) ↔ x.testBit v = false := by
  rw [tb_iff]; cases x.testBit v <;> simp
theorem tb_lt1 (x v : Nat) : (x / 2 ^ v &&& 1) < 2 := by rw [nat_and1]; exact Nat.mod_lt _ (by decide)
theorem and_lt {a b k : Nat} (h : a < k) : a &&& b < k := Nat.lt_of_le_of_lt Nat.and_le_left h
theorem and_lt' {a b k : Nat} (h : b < k) : a &&& b < k := Nat.lt_of_le_of_lt Nat.and_le_right h
theorem or_lt7 {a b : Nat} (ha : a < 128) (hb : b < 128) : a ||| b < 128 := Nat.or_lt_two_pow (n := 7) ha hb
theorem or_lt14 {a b : Nat} (ha : a < 16384) (hb : b < 16384) : a ||| b < 16384 := Nat.or_lt_two_pow (n := 14) ha hb
theorem or_lt49 {a b : Nat} (ha : a < 2 ^ 49) (hb : b < 2 ^ 49) : a ||| b < 2 ^ 49 := Nat.or_lt_two_pow (n := 49) ha hb
theorem xor_lt49 {a b : Nat} (ha : a < 2 ^ 49) (hb : b < 2 ^ 49) : a ^^^ b < 2 ^ 49 := Nat.xor_lt_two_pow (n := 49) ha hb
theorem andn_le (a b : Nat) : andn a b ≤ a := by
  apply Nat.le_of_testBit
  intro i hi
  rw [andn_bit] at hi
  simp at hi; exact hi.1
theorem andn_lt {a b k : Nat} (h : a < k) : andn a b < k := Nat.lt_of_le_of_lt (andn_le a b) h
theorem pow_lt {v k : Nat} (h : v < k) : 2 ^ v < 2 ^ k := Nat.pow_lt_pow_right (by decide) h
/-- two sets of the vertices below k with the same members are one -/
theorem set_ext {a b k : Nat} (ha : a < 2 ^ k) (hb : b < 2 ^ k) (h : ∀ i, i < k → a.testBit i = b.testBit i) : a = b := by
  apply Nat.eq_of_testBit_eq
  intro i
  by_cases hi : i < k
  · exact h i hi
  · rw [Nat.testBit_lt_two_pow (Nat.lt_of_lt_of_le ha (Nat.pow_le_pow_right (by decide) (by omega))), Nat.testBit_lt_two_pow (Nat.lt_of_lt_of_le hb (Nat.pow_le_pow_right (by decide) (by omega)))]
theorem set_ne0 {a k : Nat} (ha : a < 2 ^ k) : ¬ a = 0 ↔ ∃ i, i < k ∧ a.testBit i = true := by
  constructor
  · intro h
    apply Classical.byContradiction
    intro q
    apply h
    refine set_ext ha (Nat.two_pow_pos k) (fun i hi => ?_)
    rw [Nat.zero_testBit]
    cases hb : a.testBit i with
    | false => rfl
    | true => exact absurd ⟨i, hi, hb⟩ q
  · rintro ⟨i, hi, hb⟩ rfl
    rw [Nat.zero_testBit] at hb; cases hb
theorem set_eq0 {a k : Nat} (ha : a < 2 ^ k) : a = 0 ↔ ∀ i, i < k → a.testBit i = false := by
  constructor
  · rintro rfl i _; exact Nat.zero_testBit i
  · intro h; exact set_ext ha (Nat.two_pow_pos k) (fun i hi => by rw [h i hi, Nat.zero_testBit])
theorem bit_out {a k i : Nat} (ha : a < 2 ^ k) (hi : k ≤ i) : a.testBit i = false := Nat.testBit_lt_two_pow (Nat.lt_of_lt_of_le ha (Nat.pow_le_pow_right (by decide) hi))
theorem bit_lt {a k i : Nat} (ha : a < 2 ^ k) (hb : a.testBit i = true) : i < k := by
  apply Classical.byContradiction
  intro q
  rw [bit_out ha (by omega)] at hb; cases hb
theorem pow_bit (v i : Nat) : (2 ^ v).testBit i = decide (v = i) := Nat.testBit_two_pow
theorem all_bit (k i : Nat) : (2 ^ k - 1).testBit i = decide (i < k) := Nat.testBit_two_pow_sub_one k i
/-! the matrix, row by row -/
def nb (N v : Nat) : Nat := N / 2 ^ (7 * v) % 128
theorem nb_lt (N v : Nat) : nb N v < 128 := Nat.mod_lt _ (by decide)
theorem nb_bit (N u v : Nat) (hv : v < 7) : (nb N u).testBit v = N.testBit (7 * u + v) := by
  unfold nb
  rw [show (128 : Nat) = 2 ^ 7 from rfl, Nat.testBit_mod_two_pow, Nat.testBit_div_two_pow]
  simp [hv, Nat.add_comm]
theorem mat_ext {N K : Nat} (hN : N < 2 ^ 49) (hK : K < 2 ^ 49) (h : ∀ u v, u < 7 → v < 7 → (nb N u).testBit v = (nb K u).testBit v) : N = K := by
  refine set_ext hN hK (fun i hi => ?_)
  have := h (i / 7) (i % 7) (by omega) (by omega)
  rw [nb_bit _ _ _ (by omega), nb_bit _ _ _ (by omega), show 7 * (i / 7) + i % 7 = i by omega] at this
  exact this
/-- the graph's number of vertices and matrix are in order -/
def gOK (n N : Nat) : Prop := 1 ≤ n ∧ n ≤ 7 ∧ N < 2 ^ 49 ∧ ∀ u v, u < 7 → v < 7 → (nb N u).testBit v = true → u < n ∧ v < n ∧ u ≠ v ∧ (nb N v).testBit u = true
def gC (h : MH) (n N : Nat) : Prop := h.1 1 0 = nI n ∧ h.2 1 1 = lN N
def gM (h : MH) (n N : Nat) : Prop := h.1 67 0 = nI n ∧ ∀ v, v < 7 → h.1 68 v = nI (nb N v)
theorem gOK.nb_n {n N : Nat} (g : gOK n N) {u : Nat} (hu : u < 7) : nb N u < 2 ^ n := by
  apply Nat.lt_pow_two_of_testBit
  intro i hi
  cases hb : (nb N u).testBit i with
  | false => rfl
  | true =>
    have h7 : i < 7 := bit_lt (k := 7) (nb_lt N u) hb
    have := (g.2.2.2 u i hu h7 hb).2.1
    omega
theorem gOK.sym {n N u v : Nat} (g : gOK n N) (hu : u < 7) (hv : v < 7) : (nb N u).testBit v = (nb N v).testBit u := by
  cases h1 : (nb N u).testBit v with
  | true => exact (g.2.2.2 u v hu hv h1).2.2.2.symm
  | false =>
    cases h2 : (nb N v).testBit u with
    | false => rfl
    | true => rw [(g.2.2.2 v u hv hu h2).2.2.2] at h1; cases h1
theorem gOK.irr {n N u : Nat} (g : gOK n N) (hu : u < 7) : (nb N u).testBit u = false := by
  cases h1 : (nb N u).testBit u with
  | false => rfl
  | true => exact absurd rfl (g.2.2.2 u u hu hu h1).2.2.1
theorem two_n {n : Nat} (h : n ≤ 7) : 2 ^ n ≤ 128 := Nat.pow_le_pow_right (n := 2) (by decide) h
theorem four_n {n : Nat} (h : n ≤ 7) : 4 ^ n ≤ 16384 := Nat.pow_le_pow_right (n := 4) (by decide) h
theorem two_pos (n : Nat) : 1 ≤ 2 ^ n := Nat.two_pow_pos n
theorem four_pos (n : Nat) : 1 ≤ 4 ^ n := Nat.pos_of_ne_zero (by intro h; have := Nat.pow_pos (n := n) (show 0 < 4 by decide); omega)
variable {G : MG} {d : Nat} {h : MH}
theorem cl_neighborsIn {N v : Nat} (hN : N < 2 ^ 49) (hv : v < 7) : Cl G d M_X1_neighborsIn [.long (lN N), .int (nI v)] h (qI (nI (nb N v)) h) := by
  have e : nb N v = N / 2 ^ (7 * v) &&& 127 := (Nat.and_two_pow_sub_one_eq_mod _ 7).symm
  rw [e]
  refine ev_start 0 (lv := [some (.long (lN N)), none, some (.int (nI v))]) rfl (by decide) (Nat.le_of_ble_eq_true rfl) ?_
  refine ev_lload_n dX1_neighborsIn_0 rfl ?_
  refine ev_bipush (nI 7) dX1_neighborsIn_1 rfl ?_
  refine ev_iload_n dX1_neighborsIn_3 rfl ?_
  refine ev_imulN dX1_neighborsIn_4 ?_
  refine ev_lushrN dX1_neighborsIn_5 (by omega) (by omega) ?_
  refine ev_l2iN dX1_neighborsIn_6 ?_
  refine ev_bipush (nI 127) dX1_neighborsIn_7 rfl ?_
  refine ev_iandN dX1_neighborsIn_9 ?_
  refine ev_iret dX1_neighborsIn_10 rfl ?_
  exact ⟨by with_reducible rfl, rfl⟩
def eb (u v : Nat) : Nat := 2 ^ (7 * u + v) ||| 2 ^ (7 * v + u)
theorem eb_lt {u v : Nat} (hu : u < 7) (hv : v < 7) : eb u v < 2 ^ 49 := or_lt49 (pow_lt (by omega)) (pow_lt (by omega))
theorem nb_eb {u v a b : Nat} (hu : u < 7) (hv : v < 7) (ha : a < 7) (hb : b < 7) : (nb (eb u v) a).testBit b = decide ((a = u ∧ b = v) ∨ (a = v ∧ b = u)) := by
  rw [nb_bit _ _ _ hb]
  unfold eb
  rw [Nat.testBit_or, pow_bit, pow_bit]
  rw [← Bool.decide_or]
  congr 1
  apply propext
  constructor
  · rintro (h | h)
    · left; omega
    · right; omega
  · rintro (⟨rfl, rfl⟩ | ⟨rfl, rfl⟩)
    · left; rfl
    · right; rfl
theorem nb_or (N K u v : Nat) (hv : v < 7) : (nb (N ||| K) u).testBit v = ((nb N u).testBit v || (nb K u).testBit v) := by
  rw [nb_bit _ _ _ hv, nb_bit _ _ _ hv, nb_bit _ _ _ hv, Nat.testBit_or]
theorem nb_xor (N K u v : Nat) (hv : v < 7) : (nb (N ^^^ K) u).testBit v = ((nb N u).testBit v ^^ (nb K u).testBit v) := by
  rw [nb_bit _ _ _ hv, nb_bit _ _ _ hv, nb_bit _ _ _ hv, Nat.testBit_xor]
theorem nb_andn (N K u v : Nat) (hv : v < 7) : (nb (andn N K) u).testBit v = ((nb N u).testBit v && !(nb K u).testBit v) := by
  rw [nb_bit _ _ _ hv, nb_bit _ _ _ hv, nb_bit _ _ _ hv, andn_bit]
theorem nb_0 (u v : Nat) (hv : v < 7) : (nb 0 u).testBit v = false := by rw [nb_bit _ _ _ hv, Nat.zero_testBit]
theorem cl_edgeBits {u v : Nat} (hu : u < 7) (hv : v < 7) : Cl G d M_X1_edgeBits [.int (nI u), .int (nI v)] h (qL (lN (eb u v)) h) := by
  have e1 : 1 * 2 ^ (7 * u + v) = 2 ^ (7 * u + v) := Nat.one_mul _
  have e2 : 1 * 2 ^ (7 * v + u) = 2 ^ (7 * v + u) := Nat.one_mul _
  have b1 : 2 ^ (7 * u + v) < 2 ^ 64 := pow_lt (by omega)
  have b2 : 2 ^ (7 * v + u) < 2 ^ 64 := pow_lt (by omega)
  unfold eb
  refine ev_start 0 (lv := [some (.int (nI u)), some (.int (nI v))]) rfl (by decide) (Nat.le_of_ble_eq_true rfl) ?_
  refine ev_lconst (lN 1) dX1_edgeBits_0 rfl ?_
  refine ev_bipush (nI 7) dX1_edgeBits_1 rfl ?_
  refine ev_iload_n dX1_edgeBits_3 rfl ?_
  refine ev_imulN dX1_edgeBits_4 ?_
  refine ev_iload_n dX1_edgeBits_5 rfl ?_
  refine ev_iaddN dX1_edgeBits_6 ?_
  refine ev_lshlN dX1_edgeBits_7 (by omega) (by rw [e1]; exact b1) ?_
  refine ev_lconst (lN 1) dX1_edgeBits_8 rfl ?_
  refine ev_bipush (nI 7) dX1_edgeBits_9 rfl ?_
  refine ev_iload_n dX1_edgeBits_11 rfl ?_
  refine ev_imulN dX1_edgeBits_12 ?_
  refine ev_iload_n dX1_edgeBits_13 rfl ?_
  refine ev_iaddN dX1_edgeBits_14 ?_
  refine ev_lshlN dX1_edgeBits_15 (by omega) (by rw [e2]; exact b2) ?_
  rw [e1, e2]
  refine ev_lorN dX1_edgeBits_16 ?_
  refine ev_lret dX1_edgeBits_17 rfl ?_
  exact ⟨by with_reducible rfl, rfl⟩
theorem cl_allVerticesC {n N : Nat} (g : gC h n N) (hn : n ≤ 7) : Cl G d M_X1_allVertices [.ref 1] h (qI (nI (2 ^ n - 1)) h) := by
  have e1 : 1 * 2 ^ n = 2 ^ n := Nat.one_mul _
  have := two_n hn
  have := two_pos n
  refine ev_start 0 (lv := [some (.ref 1)]) rfl (by decide) (Nat.le_of_ble_eq_true rfl) ?_
  refine ev_iconst (nI 1) dX1_allVertices_0 rfl ?_
  refine ev_aload_n dX1_allVertices_1 rfl ?_
  refine ev_getIv (g.1) fl_X1_9 rfl rfl dX1_allVertices_2 ?_
  refine ev_ishlN dX1_allVertices_5 (by omega) (by omega) ?_
  rw [e1]
  refine ev_iconst (nI 1) dX1_allVertices_6 rfl ?_
  refine ev_isubN dX1_allVertices_7 (by omega) ?_
  refine ev_iret dX1_allVertices_8 rfl ?_
  exact ⟨by with_reducible rfl, rfl⟩
theorem cl_allVerticesM {n N : Nat} (g : gM h n N) (hn : n ≤ 7) : Cl G d M_X12_allVertices [.ref 67] h (qI (nI (2 ^ n - 1)) h) := by
  have e1 : 1 * 2 ^ n = 2 ^ n := Nat.one_mul _
  have := two_n hn
  have := two_pos n
  refine ev_start 0 (lv := [some (.ref 67)]) rfl (by decide) (Nat.le_of_ble_eq_true rfl) ?_
  refine ev_iconst (nI 1) dX12_allVertices_0 rfl ?_
  refine ev_aload_n dX12_allVertices_1 rfl ?_
  refine ev_getIv (g.1) fl_X12_9 rfl rfl dX12_allVertices_2 ?_
  refine ev_ishlN dX12_allVertices_5 (by omega) (by omega) ?_
  rw [e1]
  refine ev_iconst (nI 1) dX12_allVertices_6 rfl ?_
  refine ev_isubN dX12_allVertices_7 (by omega) ?_
  refine ev_iret dX12_allVertices_8 rfl ?_
  exact ⟨by with_reducible rfl, rfl⟩
theorem cl_greatestCode {n N : Nat} (g : gC h n N) (hn : n ≤ 7) : Cl G d M_X1_greatestCode [.ref 1] h (qI (nI (4 ^ n - 1)) h) := by
  have e1 : 1 * 2 ^ (2 * n) = 4 ^ n := by rw [Nat.one_mul, pow4]
  have := four_n hn
  have := four_pos n
  refine ev_start 0 (lv := [some (.ref 1)]) rfl (by decide) (Nat.le_of_ble_eq_true rfl) ?_
  refine ev_iconst (nI 1) dX1_greatestCode_0 rfl ?_
  refine ev_iconst (nI 2) dX1_greatestCode_1 rfl ?_
  refine ev_aload_n dX1_greatestCode_2 rfl ?_
  refine ev_getIv (g.1) fl_X1_9 rfl rfl dX1_greatestCode_3 ?_
  refine ev_imulN dX1_greatestCode_6 ?_
  refine ev_ishlN dX1_greatestCode_7 (by omega) (by rw [e1]; omega) ?_
  rw [e1]
  refine ev_iconst (nI 1) dX1_greatestCode_8 rfl ?_
  refine ev_isubN dX1_greatestCode_9 (by omega) ?_
  refine ev_iret dX1_greatestCode_10 rfl ?_
  exact ⟨by with_reducible rfl, rfl⟩
theorem cl_codeCount {n N : Nat} (g : gM h n N) (hn : n ≤ 7) : Cl G d M_X12_codeCount [.ref 67] h (qI (nI (4 ^ n)) h) := by
  have e1 : 1 * 2 ^ (2 * n) = 4 ^ n := by rw [Nat.one_mul, pow4]
  have := four_n hn
  rw [← e1]
  refine ev_start 0 (lv := [some (.ref 67)]) rfl (by decide) (Nat.le_of_ble_eq_true rfl) ?_
  refine ev_iconst (nI 1) dX12_codeCount_0 rfl ?_
  refine ev_iconst (nI 2) dX12_codeCount_1 rfl ?_
  refine ev_aload_n dX12_codeCount_2 rfl ?_
  refine ev_getIv (g.1) fl_X12_9 rfl rfl dX12_codeCount_3 ?_
  refine ev_imulN dX12_codeCount_6 ?_
  refine ev_ishlN dX12_codeCount_7 (by omega) (by rw [e1]; omega) ?_
  refine ev_iret dX12_codeCount_8 rfl ?_
  exact ⟨by with_reducible rfl, rfl⟩
theorem cl_isVertexC {n N : Nat} {x : Int32} (g : gC h n N) (hn : n ≤ 7) : Cl G d M_X11_isVertex [.ref 0, .int x] h (qI (nI (b01 (inR x n))) h) := by
  refine ev_start 0 (lv := [some (.ref 0), some (.int x)]) rfl (by decide) (Nat.le_of_ble_eq_true rfl) ?_
  refine ev_iload_n dX11_isVertex_0 rfl ?_
  refine ev_if_lt 19 dX11_isVertex_1 (by decide) (fun c1 => ?_) (fun c1 => ?_)
  · refine ev_iconst (nI 0) dX11_isVertex_19 rfl ?_
    refine ev_zret dX11_isVertex_20 rfl rfl ?_
    rw [b01_f (inR_neg (by omega) c1)]; exact ⟨by with_reducible rfl, rfl⟩
  · refine ev_iload_n dX11_isVertex_4 rfl ?_
    refine ev_aload_n dX11_isVertex_5 rfl ?_
    refine ev_getR fl_X11_14 rfl rfl dX11_isVertex_6 ?_
    refine ev_getIv (g.1) fl_X11_78 rfl rfl dX11_isVertex_9 ?_
    refine ev_icmp_ge 19 dX11_isVertex_12 (by decide) (fun c12 => ?_) (fun c12 => ?_)
    · refine ev_iconst (nI 0) dX11_isVertex_19 rfl ?_
      refine ev_zret dX11_isVertex_20 rfl rfl ?_
      rw [b01_f (inR_ge (by omega) c12)]; exact ⟨by with_reducible rfl, rfl⟩
    · refine ev_iconst (nI 1) dX11_isVertex_15 rfl ?_
      refine ev_goto 20 dX11_isVertex_16 (by decide) ?_
      refine ev_zret dX11_isVertex_20 rfl rfl ?_
      rw [b01_t (inR_of (by omega) c1 c12)]; exact ⟨by with_reducible rfl, rfl⟩
theorem cl_isVertexM {n N : Nat} {x : Int32} (g : gM h n N) (h1 : 1 ≤ n) (hn : n ≤ 7) : Cl G (d + 1) M_X12_isVertex [.ref 67, .int x] h (qI (nI (b01 (inR x n))) h) := by
  rw [b01_c (rg_inR (by omega))]
  refine ev_start 0 (lv := [some (.ref 67), some (.int x)]) rfl (by decide) (Nat.le_of_ble_eq_true rfl) ?_
  refine ev_iload_n dX12_isVertex_0 rfl ?_
  refine ev_i2l dX12_isVertex_1 rfl ?_
  refine ev_lconst (lN 0) dX12_isVertex_2 rfl ?_
  refine ev_aload_n dX12_isVertex_3 rfl ?_
  refine ev_getIv (g.1) fl_X12_9 rfl rfl dX12_isVertex_4 ?_
  refine ev_iconst (nI 1) dX12_isVertex_7 rfl ?_
  refine ev_isubN dX12_isVertex_8 (by omega) ?_
  refine ev_i2lN dX12_isVertex_9 (by omega) ?_
  refine ev_callS (cl_btw (a := 0) (b := n - 1) rfl (nI_l (by omega)).symm (by omega) (by omega)) ok_X12_isBetween ml_X12_79 rfl rfl (Nat.le_of_ble_eq_true rfl) dX12_isVertex_10 (kI ?_)
  refine ev_zret dX12_isVertex_13 rfl (by have := b01_lt (rg x 0 (n - 1)); rcases (show b01 (rg x 0 (n - 1)) = 0 ∨ b01 (rg x 0 (n - 1)) = 1 by omega) with e | e <;> rw [e] <;> rfl) ?_
  exact ⟨by with_reducible rfl, rfl⟩
theorem cl_isCodeC {n N : Nat} {x : Int32} (g : gC h n N) (hn : n ≤ 7) : Cl G (d + 1) M_X11_isCode [.ref 0, .int x] h (qI (nI (b01 (inR x (4 ^ n)))) h) := by
  have h4 := four_n hn
  have h5 := four_pos n
  refine ev_start 0 (lv := [some (.ref 0), some (.int x)]) rfl (by decide) (Nat.le_of_ble_eq_true rfl) ?_
  refine ev_iload_n dX11_isCode_0 rfl ?_
  refine ev_if_lt 19 dX11_isCode_1 (by decide) (fun c1 => ?_) (fun c1 => ?_)
  · refine ev_iconst (nI 0) dX11_isCode_19 rfl ?_
    refine ev_zret dX11_isCode_20 rfl rfl ?_
    rw [b01_f (inR_neg (by omega) c1)]; exact ⟨by with_reducible rfl, rfl⟩
  · refine ev_iload_n dX11_isCode_4 rfl ?_
    refine ev_aload_n dX11_isCode_5 rfl ?_
    refine ev_getR fl_X11_14 rfl rfl dX11_isCode_6 ?_
    refine ev_callV (cl_greatestCode g hn) ok_X1_greatestCode ml_X11_137 rfl rfl rfl rfl (Nat.le_of_ble_eq_true rfl) dX11_isCode_9 (kI ?_)
    refine ev_icmp_gt 19 dX11_isCode_12 (by decide) (fun c12 => ?_) (fun c12 => ?_)
    · refine ev_iconst (nI 0) dX11_isCode_19 rfl ?_
      refine ev_zret dX11_isCode_20 rfl rfl ?_
      rw [b01_f (fun q => by obtain ⟨j, hj, rfl⟩ := q; exact absurd ((nI_ltI (by omega) (by omega)).mp c12) (by omega))]; exact ⟨by with_reducible rfl, rfl⟩
    · refine ev_iconst (nI 1) dX11_isCode_15 rfl ?_
      refine ev_goto 20 dX11_isCode_16 (by decide) ?_
      refine ev_zret dX11_isCode_20 rfl rfl ?_
      obtain ⟨j, hj, rfl⟩ := nI_of c1
      have : j < 4 ^ n := Nat.lt_of_not_le (fun q => c12 ((nI_ltI (by omega) hj).mpr (by omega)))
      rw [b01_t ⟨j, this, rfl⟩]; exact ⟨by with_reducible rfl, rfl⟩
theorem cl_isCodeM {n N : Nat} {x : Int32} (g : gM h n N) (hn : n ≤ 7) : Cl G (d + 1) M_X12_isCode [.ref 67, .int x] h (qI (nI (b01 (inR x (4 ^ n)))) h) := by
  have h4 := four_n hn
  have h5 := four_pos n
  rw [b01_c (rg_inR (by omega))]
  refine ev_start 0 (lv := [some (.ref 67), some (.int x)]) rfl (by decide) (Nat.le_of_ble_eq_true rfl) ?_
  refine ev_iload_n dX12_isCode_0 rfl ?_
  refine ev_i2l dX12_isCode_1 rfl ?_
  refine ev_lconst (lN 0) dX12_isCode_2 rfl ?_
  refine ev_aload_n dX12_isCode_3 rfl ?_
  refine ev_callV (cl_codeCount g hn) ok_X12_codeCount ml_X12_125 rfl rfl rfl rfl (Nat.le_of_ble_eq_true rfl) dX12_isCode_4 (kI ?_)
  refine ev_iconst (nI 1) dX12_isCode_7 rfl ?_
  refine ev_isubN dX12_isCode_8 (by omega) ?_
  refine ev_i2lN dX12_isCode_9 (by omega) ?_
  refine ev_callS (cl_btw (a := 0) (b := 4 ^ n - 1) rfl (nI_l (by omega)).symm (by omega) (by omega)) ok_X12_isBetween ml_X12_79 rfl rfl (Nat.le_of_ble_eq_true rfl) dX12_isCode_10 (kI ?_)
  refine ev_zret dX12_isCode_13 rfl (by have := b01_lt (rg x 0 (4 ^ n - 1)); rcases (show b01 (rg x 0 (4 ^ n - 1)) = 0 ∨ b01 (rg x 0 (4 ^ n - 1)) = 1 by omega) with e | e <;> rw [e] <;> rfl) ?_
  exact ⟨by with_reducible rfl, rfl⟩
theorem cl_isEdge {n N u v : Nat} (g : gM h n N) (hu : u < 7) (hv : v < 7) : Cl G d M_X12_isEdge [.ref 67, .int (nI u), .int (nI v)] h (qI (nI (b01 ((nb N u).testBit v = true))) h) := by
  have := nb_lt N u
  have := tb_lt1 (nb N u) v
  refine ev_start 0 (lv := [some (.ref 67), some (.int (nI u)), some (.int (nI v))]) rfl (by decide) (Nat.le_of_ble_eq_true rfl) ?_
  refine ev_aload_n dX12_isEdge_0 rfl ?_
  refine ev_getR fl_X12_15 rfl rfl dX12_isEdge_1 ?_
  refine ev_iload_n dX12_isEdge_4 rfl ?_
  refine ev_ialdv (g.2 u hu) rfl dX12_isEdge_5 (by omega) (by omega) ?_
  refine ev_iload_n dX12_isEdge_6 rfl ?_
  refine ev_ishrN dX12_isEdge_7 (by omega) (by omega) ?_
  refine ev_iconst (nI 1) dX12_isEdge_8 rfl ?_
  refine ev_iandN dX12_isEdge_9 ?_
  refine ev_iconst (nI 1) dX12_isEdge_10 rfl ?_
  refine ev_icmp_neN 18 dX12_isEdge_11 (by decide) (by omega) (by omega) (fun c11 => ?_) (fun c11 => ?_)
  · refine ev_iconst (nI 0) dX12_isEdge_18 rfl ?_
    refine ev_zret dX12_isEdge_19 rfl rfl ?_
    rw [b01_f (fun q => c11 ((tb_iff _ _).mpr q))]; exact ⟨by with_reducible rfl, rfl⟩
  · refine ev_iconst (nI 1) dX12_isEdge_14 rfl ?_
    refine ev_goto 19 dX12_isEdge_15 (by decide) ?_
    refine ev_zret dX12_isEdge_19 rfl rfl ?_
    rw [b01_t ((tb_iff _ _).mp c11)]; exact ⟨by with_reducible rfl, rfl⟩
end BITS
