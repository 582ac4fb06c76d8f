section CORE4
/-- the ones of a that b hasn't -/
def andn (a b : Nat) : Nat := a ^^^ (a &&& b)
theorem andn_bit (a b i : Nat) : (andn a b).testBit i = (a.testBit i && !b.testBit i) := by
  unfold andn
  rw [Nat.testBit_xor, Nat.testBit_and]
  cases a.testBit i <;> cases b.testBit i <;> rfl
theorem nI_andn (a b : Nat) : nI a &&& (nI b ^^^ (-1)) = nI (andn a b) := by
  unfold andn
  rw [← nI_xor, ← nI_and]
  generalize nI a = x
  generalize nI b = y
  apply Int32.toBitVec_inj.mp
  show x.toBitVec &&& (y.toBitVec ^^^ BitVec.allOnes 32) = x.toBitVec ^^^ (x.toBitVec &&& y.toBitVec)
  apply BitVec.eq_of_getLsbD_eq
  intro i hi
  simp only [BitVec.getLsbD_and, BitVec.getLsbD_xor, BitVec.getLsbD_allOnes, hi]
  cases x.toBitVec.getLsbD i <;> cases y.toBitVec.getLsbD i <;> rfl
theorem lN_and (a b : Nat) : lN a &&& lN b = lN (a &&& b) := by
  apply Int64.toBitVec_inj.mp
  show BitVec.ofNat 64 a &&& BitVec.ofNat 64 b = BitVec.ofNat 64 (a &&& b)
  apply BitVec.eq_of_toNat_eq
  simp [Nat.and_mod_two_pow]
theorem lN_or (a b : Nat) : lN a ||| lN b = lN (a ||| b) := by
  apply Int64.toBitVec_inj.mp
  show BitVec.ofNat 64 a ||| BitVec.ofNat 64 b = BitVec.ofNat 64 (a ||| b)
  apply BitVec.eq_of_toNat_eq
  simp [Nat.or_mod_two_pow]
theorem lN_xor (a b : Nat) : lN a ^^^ lN b = lN (a ^^^ b) := by
  apply Int64.toBitVec_inj.mp
  show BitVec.ofNat 64 a ^^^ BitVec.ofNat 64 b = BitVec.ofNat 64 (a ^^^ b)
  apply BitVec.eq_of_toNat_eq
  simp [Nat.xor_mod_two_pow]
theorem lN_andn (a b : Nat) : lN a &&& (lN b ^^^ (-1)) = lN (andn a b) := by
  unfold andn
  rw [← lN_xor, ← lN_and]
  generalize lN a = x
  generalize lN b = y
  apply Int64.toBitVec_inj.mp
  show x.toBitVec &&& (y.toBitVec ^^^ BitVec.allOnes 64) = x.toBitVec ^^^ (x.toBitVec &&& y.toBitVec)
  apply BitVec.eq_of_getLsbD_eq
  intro i hi
  simp only [BitVec.getLsbD_and, BitVec.getLsbD_xor, BitVec.getLsbD_allOnes, hi]
  cases x.toBitVec.getLsbD i <;> cases y.toBitVec.getLsbD i <;> rfl
theorem lN_tn {n : Nat} (h : n < 2 ^ 64) : (lN n).toBitVec.toNat = n := by
  show (BitVec.ofNat 64 n).toNat = n
  rw [BitVec.toNat_ofNat, Nat.mod_eq_of_lt h]
theorem lN_us : ∀ b, b < 64 → (((nI b).toInt64.toUInt64 &&& Int64.toUInt64 63).toBitVec % 64).toNat = b := by decide
theorem lN_sm : ∀ b, b < 64 → (((nI b).toInt64 &&& 63).toBitVec.smod 64).toNat = b := by decide
theorem lN_ushr {a b : Nat} (ha : a < 2 ^ 64) (hb : b < 64) : ((lN a).toUInt64 >>> ((nI b).toInt64.toUInt64 &&& Int64.toUInt64 63)).toInt64 = lN (a / 2 ^ b) := by
  apply Int64.toBitVec_inj.mp
  apply BitVec.eq_of_toNat_eq
  have e : ((lN a).toUInt64 >>> ((nI b).toInt64.toUInt64 &&& Int64.toUInt64 63)).toInt64.toBitVec = (lN a).toBitVec >>> b := by
    have := lN_us b hb
    have e2 : (lN a).toBitVec >>> b = (lN a).toBitVec >>> (((nI b).toInt64.toUInt64 &&& Int64.toUInt64 63).toBitVec % 64).toNat := by rw [this]
    rw [e2]
    exact UInt64.toBitVec_shiftRight _ _
  rw [e, BitVec.toNat_ushiftRight, Nat.shiftRight_eq_div_pow, lN_tn ha, lN_tn (Nat.lt_of_le_of_lt (Nat.div_le_self _ _) ha)]
theorem lN_shl {a b : Nat} (hb : b < 64) (h : a * 2 ^ b < 2 ^ 64) : lN a <<< ((nI b).toInt64 &&& 63) = lN (a * 2 ^ b) := by
  apply Int64.toBitVec_inj.mp
  apply BitVec.eq_of_toNat_eq
  have ha : a < 2 ^ 64 := Nat.lt_of_le_of_lt (Nat.le_mul_of_pos_right a (Nat.two_pow_pos b)) h
  have e : (lN a <<< ((nI b).toInt64 &&& 63)).toBitVec.toNat = (lN a).toBitVec.toNat * 2 ^ b % 2 ^ 64 := by
    show ((lN a).toBitVec <<< (((nI b).toInt64 &&& 63).toBitVec.smod 64).toNat).toNat = _
    rw [lN_sm b hb, BitVec.toNat_shiftLeft, Nat.shiftLeft_eq]
  rw [e, lN_tn ha, lN_tn h, Nat.mod_eq_of_lt h]
theorem i2l_le (x y : Int32) : x.toInt64 ≤ y.toInt64 ↔ x ≤ y := by
  rw [Int64.le_iff_toInt_le, Int32.le_iff_toInt_le, Int32.toInt_toInt64, Int32.toInt_toInt64]
variable {G : MG} {d : Nat} {M : MI} {pc : Nat} {lv : List (Option Value)} {st : List Value} {h : MH} {Q : Option Value → MH → Prop}
theorem ev_iandC {a b : Nat} (hd : decode M.2.1 pc = .ok (.iand, 1)) (k : Ev G d M (pc + 1) lv (.int (nI (andn a b)) :: st) h Q) : Ev G d M pc lv (.int (nI b ^^^ (-1)) :: .int (nI a) :: st) h Q := ev_iand hd (by rw [nI_andn]; exact k)
theorem ev_landC {a b : Nat} (hd : decode M.2.1 pc = .ok (.land, 1)) (k : Ev G d M (pc + 1) lv (.long (lN (andn a b)) :: st) h Q) : Ev G d M pc lv (.long (lN b ^^^ (-1)) :: .long (lN a) :: st) h Q := ev_land hd (by rw [lN_andn]; exact k)
theorem ev_landN {a b : Nat} (hd : decode M.2.1 pc = .ok (.land, 1)) (k : Ev G d M (pc + 1) lv (.long (lN (a &&& b)) :: st) h Q) : Ev G d M pc lv (.long (lN b) :: .long (lN a) :: st) h Q := ev_land hd (by rw [lN_and]; exact k)
theorem ev_lorN {a b : Nat} (hd : decode M.2.1 pc = .ok (.lor, 1)) (k : Ev G d M (pc + 1) lv (.long (lN (a ||| b)) :: st) h Q) : Ev G d M pc lv (.long (lN b) :: .long (lN a) :: st) h Q := ev_lor hd (by rw [lN_or]; exact k)
theorem ev_lxorN {a b : Nat} (hd : decode M.2.1 pc = .ok (.lxor, 1)) (k : Ev G d M (pc + 1) lv (.long (lN (a ^^^ b)) :: st) h Q) : Ev G d M pc lv (.long (lN b) :: .long (lN a) :: st) h Q := ev_lxor hd (by rw [lN_xor]; exact k)
theorem ev_laddN {a b : Nat} (hd : decode M.2.1 pc = .ok (.ladd, 1)) (k : Ev G d M (pc + 1) lv (.long (lN (a + b)) :: st) h Q) : Ev G d M pc lv (.long (lN b) :: .long (lN a) :: st) h Q := ev_ladd hd (by rw [lN_add]; exact k)
theorem ev_lsubN {a b : Nat} (hd : decode M.2.1 pc = .ok (.lsub, 1)) (hab : b ≤ a) (k : Ev G d M (pc + 1) lv (.long (lN (a - b)) :: st) h Q) : Ev G d M pc lv (.long (lN b) :: .long (lN a) :: st) h Q := ev_lsub hd (by rw [lN_sub hab]; exact k)
theorem ev_lmulN {a b : Nat} (hd : decode M.2.1 pc = .ok (.lmul, 1)) (k : Ev G d M (pc + 1) lv (.long (lN (a * b)) :: st) h Q) : Ev G d M pc lv (.long (lN b) :: .long (lN a) :: st) h Q := ev_lmul hd (by rw [lN_mul]; exact k)
theorem lN_ne0 {n : Nat} (h0 : 0 < n) (h : n < 2 ^ 63) : ¬ lN n = 0 := fun e => by
  have := (pk_lEQ h (by decide)).mp (e.trans (show (0 : Int64) = lN 0 from rfl))
  omega
theorem ev_ldivN {a b : Nat} (hd : decode M.2.1 pc = .ok (.ldiv, 1)) (ha : a < 2 ^ 63) (h0 : 0 < b) (hb : b < 2 ^ 63) (k : Ev G d M (pc + 1) lv (.long (lN (a / b)) :: st) h Q) : Ev G d M pc lv (.long (lN b) :: .long (lN a) :: st) h Q := ev_ldiv hd (lN_ne0 h0 hb) (by rw [pk_lDiv ha h0 hb]; exact k)
theorem ev_lshlN {a b : Nat} (hd : decode M.2.1 pc = .ok (.lshl, 1)) (hb : b < 64) (ha : a * 2 ^ b < 2 ^ 64) (k : Ev G d M (pc + 1) lv (.long (lN (a * 2 ^ b)) :: st) h Q) : Ev G d M pc lv (.int (nI b) :: .long (lN a) :: st) h Q := ev_lshl hd (lN_shl hb ha) k
theorem ev_lushrN {a b : Nat} (hd : decode M.2.1 pc = .ok (.lushr, 1)) (ha : a < 2 ^ 64) (hb : b < 64) (k : Ev G d M (pc + 1) lv (.long (lN (a / 2 ^ b)) :: st) h Q) : Ev G d M pc lv (.int (nI b) :: .long (lN a) :: st) h Q := ev_lushr hd (lN_ushr ha hb) k
theorem ev_l2iN {a : Nat} (hd : decode M.2.1 pc = .ok (.l2i, 1)) (k : Ev G d M (pc + 1) lv (.int (nI a) :: st) h Q) : Ev G d M pc lv (.long (lN a) :: st) h Q := ev_l2i hd (lN_i a) k
theorem ev_i2lN {a : Nat} (hd : decode M.2.1 pc = .ok (.i2l, 1)) (ha : a < 2 ^ 31) (k : Ev G d M (pc + 1) lv (.long (lN a) :: st) h Q) : Ev G d M pc lv (.int (nI a) :: st) h Q := ev_i2l hd (nI_l ha) k
/-- x is one of a .. b -/
def rg (x : Int32) (a b : Nat) : Prop := ∃ j : Nat, a ≤ j ∧ j ≤ b ∧ x = nI j
theorem rg_iff {x : Int32} {a b : Nat} (hb : b < 2 ^ 31) (hab : a ≤ b) : rg x a b ↔ nI a ≤ x ∧ x ≤ nI b := by
  constructor
  · rintro ⟨j, h1, h2, rfl⟩
    exact ⟨nI_le h1 (by omega), nI_le h2 hb⟩
  · rintro ⟨h1, h2⟩
    have h0 : ¬ x < 0 := fun z => absurd (Int32.le_trans (show (0 : Int32) ≤ nI a from nI_pos' (by omega)) h1) (Int32.not_le.mpr z)
    obtain ⟨j, hj, rfl⟩ := nI_of h0
    exact ⟨j, (nI_leI (by omega) hj).mp h1, (nI_leI hj hb).mp h2, rfl⟩
theorem rg_inR {x : Int32} {n : Nat} (hn : 0 < n) : inR x n ↔ rg x 0 (n - 1) := by
  constructor
  · rintro ⟨j, h1, rfl⟩; exact ⟨j, by omega, by omega, rfl⟩
  · rintro ⟨j, _, h1, rfl⟩; exact ⟨j, by omega, rfl⟩
theorem rg_nI {j a b : Nat} (hj : j < 2 ^ 31) (hb : b < 2 ^ 31) : rg (nI j) a b ↔ a ≤ j ∧ j ≤ b := by
  constructor
  · rintro ⟨i, h1, h2, e⟩
    have := (nI_eq hj (by omega)).mp e
    omega
  · rintro ⟨h1, h2⟩; exact ⟨j, h1, h2, rfl⟩
theorem cl_isBetween {x y z : Int64} : Cl G d M_X12_isBetween [.long x, .long y, .long z] h (qI (nI (b01 (y ≤ x ∧ x ≤ z))) h) := by
  refine ev_start 0 (lv := [some (.long x), none, some (.long y), none, some (.long z), none]) rfl (by decide) (Nat.le_of_ble_eq_true rfl) ?_
  refine ev_lload_n dX12_isBetween_0 rfl ?_
  refine ev_lload_n dX12_isBetween_1 rfl ?_
  refine ev_lcmp dX12_isBetween_2 ?_
  refine ev_if_lt 17 dX12_isBetween_3 (by decide) (fun c3 => ?_) (fun c3 => ?_)
  · refine ev_iconst (nI 0) dX12_isBetween_17 rfl ?_
    refine ev_zret dX12_isBetween_18 rfl rfl ?_
    exact ⟨by rw [b01_f (fun q => absurd q.1 (Int64.not_le.mpr ((lg_cmp_lt _ _).mp c3)))], rfl⟩
  · refine ev_lload_n dX12_isBetween_6 rfl ?_
    refine ev_lload dX12_isBetween_7 rfl ?_
    refine ev_lcmp dX12_isBetween_9 ?_
    refine ev_if_gt 17 dX12_isBetween_10 (by decide) (fun c10 => ?_) (fun c10 => ?_)
    · refine ev_iconst (nI 0) dX12_isBetween_17 rfl ?_
      refine ev_zret dX12_isBetween_18 rfl rfl ?_
      exact ⟨by rw [b01_f (fun q => absurd q.2 (Int64.not_le.mpr ((lg_cmp_gt _ _).mp c10)))], rfl⟩
    · refine ev_iconst (nI 1) dX12_isBetween_13 rfl ?_
      refine ev_goto 18 dX12_isBetween_14 (by decide) ?_
      refine ev_zret dX12_isBetween_18 rfl rfl ?_
      exact ⟨by rw [b01_t ⟨Int64.not_lt.mp (fun q => c3 ((lg_cmp_lt _ _).mpr q)), Int64.not_lt.mp (fun q => c10 ((lg_cmp_gt _ _).mpr q))⟩], rfl⟩
/-- isBetween on ints, by numbers -/
theorem cl_btw {x : Int32} {a b : Nat} {y z : Int64} (hy : y = (nI a).toInt64) (hz : z = (nI b).toInt64) (hb : b < 2 ^ 31) (hab : a ≤ b) : Cl G d M_X12_isBetween [.long x.toInt64, .long y, .long z] h (qI (nI (b01 (rg x a b))) h) := by
  subst hy; subst hz
  rw [b01_c (rg_iff hb hab), ← b01_c (show ((nI a).toInt64 ≤ x.toInt64 ∧ x.toInt64 ≤ (nI b).toInt64) ↔ (nI a ≤ x ∧ x ≤ nI b) by rw [i2l_le, i2l_le])]
  exact cl_isBetween
end CORE4
