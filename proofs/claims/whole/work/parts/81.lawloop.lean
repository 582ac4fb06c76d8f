section LAWLOOP
variable {G : MG} {p : Program} {e : Env} {s : State} {m : MethodId} {below : List Frame} {meth : Method} {c : Code} {b L : Nat} {xs : Nat → Int32} {h : MH} {pc : Nat} {x : Int32} {st : List Value}
theorem and127 (x : Int32) : ∃ v, v < 128 ∧ x &&& nI 127 = nI v := by
  refine ⟨x.toBitVec.toNat &&& 127, Nat.lt_succ_of_le Nat.and_le_right, ?_⟩
  apply Int32.toBitVec_inj.mp
  apply BitVec.eq_of_toNat_eq
  have h1 : (x.toBitVec.toNat &&& 127) < 2 ^ 32 := Nat.lt_of_le_of_lt Nat.and_le_right (by decide)
  show (x.toBitVec &&& (nI 127).toBitVec).toNat = (BitVec.ofNat 32 (x.toBitVec.toNat &&& 127)).toNat
  rw [BitVec.toNat_and, BitVec.toNat_ofNat, Nat.mod_eq_of_lt h1]
  rfl
theorem lw_tsIn {v off : Int} {n : Nat} {tgt : Nat} (C : LwC G p s m meth c b L xs) {dflt lo hi : Int} {offs : Array Int} {len : Nat} (hd : decode cL_law pc = .ok (.tableswitch dflt lo hi offs, len)) (h1 : ¬ (nI n).toInt < lo) (h2 : ¬ hi < (nI n).toInt) (ho : offs[((nI n).toInt - lo).toNat]? = some off) (ht : (pc : Int) + off = (tgt : Int)) (k : Lw G p e s m below meth c b tgt x st h) : Lw G p e s m below meth c b pc x (.int (nI n) :: st) h := by
  intro H locs ls hP hD hS hl
  exact lv_tableIn (tgt := tgt) C.1.1 C.1.2.1 hd h1 h2 ho ht (k H locs ls hP hD hS hl)
theorem lw_tsOut {n : Nat} {tgt : Nat} (C : LwC G p s m meth c b L xs) {dflt lo hi : Int} {offs : Array Int} {len : Nat} (hd : decode cL_law pc = .ok (.tableswitch dflt lo hi offs, len)) (h1 : (nI n).toInt < lo ∨ hi < (nI n).toInt) (ht : (pc : Int) + dflt = (tgt : Int)) (k : Lw G p e s m below meth c b tgt x st h) : Lw G p e s m below meth c b pc x (.int (nI n) :: st) h := by
  intro H locs ls hP hD hS hl
  exact lv_tableOut (tgt := tgt) C.1.1 C.1.2.1 hd h1 ht (k H locs ls hP hD hS hl)
theorem law_sw {i v : Nat} (C : LwC G p s m meth c b L xs) (hi : i + 4 ≤ L) (hv : v < 128) (iv : Inv h) (k : LwK G p e s m below meth c b i) : Lw G p e s m below meth c b 32 (nI i) [.int (nI v)] h := by
  have e0 : 0 ≤ v := Nat.zero_le v
  rcases Nat.eq_or_lt_of_le e0 with z | e1
  · subst z
    exact lw_tsIn (v := 0) (tgt := 376) C dL_law_32 (by decide) (by decide) rfl (by decide) (law_0 C hi iv k)
  replace e1 : 1 ≤ v := e1
  clear e0
  rcases Nat.eq_or_lt_of_le e1 with z | e2
  · subst z
    exact lw_tsIn (v := 0) (tgt := 399) C dL_law_32 (by decide) (by decide) rfl (by decide) (law_1 C hi iv k)
  replace e2 : 2 ≤ v := e2
  clear e1
  rcases Nat.eq_or_lt_of_le e2 with z | e3
  · subst z
    exact lw_tsIn (v := 0) (tgt := 432) C dL_law_32 (by decide) (by decide) rfl (by decide) (law_2 C hi iv k)
  replace e3 : 3 ≤ v := e3
  clear e2
  rcases Nat.eq_or_lt_of_le e3 with z | e4
  · subst z
    exact lw_tsIn (v := 0) (tgt := 455) C dL_law_32 (by decide) (by decide) rfl (by decide) (law_3 C hi iv k)
  replace e4 : 4 ≤ v := e4
  clear e3
  rcases Nat.eq_or_lt_of_le e4 with z | e5
  · subst z
    exact lw_tsIn (v := 0) (tgt := 468) C dL_law_32 (by decide) (by decide) rfl (by decide) (law_4 C hi iv k)
  replace e5 : 5 ≤ v := e5
  clear e4
  rcases Nat.eq_or_lt_of_le e5 with z | e6
  · subst z
    exact lw_tsIn (v := 0) (tgt := 481) C dL_law_32 (by decide) (by decide) rfl (by decide) (law_5 C hi iv k)
  replace e6 : 6 ≤ v := e6
  clear e5
  rcases Nat.eq_or_lt_of_le e6 with z | e7
  · subst z
    exact lw_tsIn (v := 0) (tgt := 494) C dL_law_32 (by decide) (by decide) rfl (by decide) (law_6 C hi iv k)
  replace e7 : 7 ≤ v := e7
  clear e6
  rcases Nat.eq_or_lt_of_le e7 with z | e8
  · subst z
    exact lw_tsIn (v := 0) (tgt := 517) C dL_law_32 (by decide) (by decide) rfl (by decide) (law_7 C hi iv k)
  replace e8 : 8 ≤ v := e8
  clear e7
  rcases Nat.eq_or_lt_of_le e8 with z | e9
  · subst z
    exact lw_tsIn (v := 0) (tgt := 530) C dL_law_32 (by decide) (by decide) rfl (by decide) (law_8 C hi iv k)
  replace e9 : 9 ≤ v := e9
  clear e8
  rcases Nat.eq_or_lt_of_le e9 with z | e10
  · subst z
    exact lw_tsIn (v := 0) (tgt := 543) C dL_law_32 (by decide) (by decide) rfl (by decide) (law_9 C hi iv k)
  replace e10 : 10 ≤ v := e10
  clear e9
  rcases Nat.eq_or_lt_of_le e10 with z | e11
  · subst z
    exact lw_tsIn (v := 0) (tgt := 556) C dL_law_32 (by decide) (by decide) rfl (by decide) (law_10 C hi iv k)
  replace e11 : 11 ≤ v := e11
  clear e10
  rcases Nat.eq_or_lt_of_le e11 with z | e12
  · subst z
    exact lw_tsIn (v := 0) (tgt := 569) C dL_law_32 (by decide) (by decide) rfl (by decide) (law_11 C hi iv k)
  replace e12 : 12 ≤ v := e12
  clear e11
  rcases Nat.eq_or_lt_of_le e12 with z | e13
  · subst z
    exact lw_tsIn (v := 0) (tgt := 592) C dL_law_32 (by decide) (by decide) rfl (by decide) (law_12 C hi iv k)
  replace e13 : 13 ≤ v := e13
  clear e12
  rcases Nat.eq_or_lt_of_le e13 with z | e14
  · subst z
    exact lw_tsIn (v := 0) (tgt := 605) C dL_law_32 (by decide) (by decide) rfl (by decide) (law_13 C hi iv k)
  replace e14 : 14 ≤ v := e14
  clear e13
  rcases Nat.eq_or_lt_of_le e14 with z | e15
  · subst z
    exact lw_tsIn (v := 0) (tgt := 618) C dL_law_32 (by decide) (by decide) rfl (by decide) (law_14 C hi iv k)
  replace e15 : 15 ≤ v := e15
  clear e14
  rcases Nat.eq_or_lt_of_le e15 with z | e16
  · subst z
    exact lw_tsIn (v := 0) (tgt := 641) C dL_law_32 (by decide) (by decide) rfl (by decide) (law_15 C hi iv k)
  replace e16 : 16 ≤ v := e16
  clear e15
  rcases Nat.eq_or_lt_of_le e16 with z | e17
  · subst z
    exact lw_tsIn (v := 0) (tgt := 674) C dL_law_32 (by decide) (by decide) rfl (by decide) (law_16 C hi iv k)
  replace e17 : 17 ≤ v := e17
  clear e16
  rcases Nat.eq_or_lt_of_le e17 with z | e18
  · subst z
    exact lw_tsIn (v := 0) (tgt := 697) C dL_law_32 (by decide) (by decide) rfl (by decide) (law_17 C hi iv k)
  replace e18 : 18 ≤ v := e18
  clear e17
  rcases Nat.eq_or_lt_of_le e18 with z | e19
  · subst z
    exact lw_tsIn (v := 0) (tgt := 720) C dL_law_32 (by decide) (by decide) rfl (by decide) (law_18 C hi iv k)
  replace e19 : 19 ≤ v := e19
  clear e18
  rcases Nat.eq_or_lt_of_le e19 with z | e20
  · subst z
    exact lw_tsIn (v := 0) (tgt := 753) C dL_law_32 (by decide) (by decide) rfl (by decide) (law_19 C hi iv k)
  replace e20 : 20 ≤ v := e20
  clear e19
  rcases Nat.eq_or_lt_of_le e20 with z | e21
  · subst z
    exact lw_tsIn (v := 0) (tgt := 776) C dL_law_32 (by decide) (by decide) rfl (by decide) (law_20 C hi iv k)
  replace e21 : 21 ≤ v := e21
  clear e20
  rcases Nat.eq_or_lt_of_le e21 with z | e22
  · subst z
    exact lw_tsIn (v := 0) (tgt := 799) C dL_law_32 (by decide) (by decide) rfl (by decide) (law_21 C hi iv k)
  replace e22 : 22 ≤ v := e22
  clear e21
  rcases Nat.eq_or_lt_of_le e22 with z | e23
  · subst z
    exact lw_tsIn (v := 0) (tgt := 832) C dL_law_32 (by decide) (by decide) rfl (by decide) (law_22 C hi iv k)
  replace e23 : 23 ≤ v := e23
  clear e22
  rcases Nat.eq_or_lt_of_le e23 with z | e24
  · subst z
    exact lw_tsIn (v := 0) (tgt := 865) C dL_law_32 (by decide) (by decide) rfl (by decide) (law_23 C hi iv k)
  replace e24 : 24 ≤ v := e24
  clear e23
  rcases Nat.eq_or_lt_of_le e24 with z | e25
  · subst z
    exact lw_tsIn (v := 0) (tgt := 898) C dL_law_32 (by decide) (by decide) rfl (by decide) (law_24 C hi iv k)
  replace e25 : 25 ≤ v := e25
  clear e24
  rcases Nat.eq_or_lt_of_le e25 with z | e26
  · subst z
    exact lw_tsIn (v := 0) (tgt := 931) C dL_law_32 (by decide) (by decide) rfl (by decide) (law_25 C hi iv k)
  replace e26 : 26 ≤ v := e26
  clear e25
  rcases Nat.eq_or_lt_of_le e26 with z | e27
  · subst z
    exact lw_tsIn (v := 0) (tgt := 954) C dL_law_32 (by decide) (by decide) rfl (by decide) (law_26 C hi iv k)
  replace e27 : 27 ≤ v := e27
  clear e26
  rcases Nat.eq_or_lt_of_le e27 with z | e28
  · subst z
    exact lw_tsIn (v := 0) (tgt := 987) C dL_law_32 (by decide) (by decide) rfl (by decide) (law_27 C hi iv k)
  replace e28 : 28 ≤ v := e28
  clear e27
  rcases Nat.eq_or_lt_of_le e28 with z | e29
  · subst z
    exact lw_tsIn (v := 0) (tgt := 1010) C dL_law_32 (by decide) (by decide) rfl (by decide) (law_28 C hi iv k)
  replace e29 : 29 ≤ v := e29
  clear e28
  rcases Nat.eq_or_lt_of_le e29 with z | e30
  · subst z
    exact lw_tsIn (v := 0) (tgt := 1043) C dL_law_32 (by decide) (by decide) rfl (by decide) (law_29 C hi iv k)
  replace e30 : 30 ≤ v := e30
  clear e29
  rcases Nat.eq_or_lt_of_le e30 with z | e31
  · subst z
    exact lw_tsIn (v := 0) (tgt := 1066) C dL_law_32 (by decide) (by decide) rfl (by decide) (law_30 C hi iv k)
  replace e31 : 31 ≤ v := e31
  clear e30
  rcases Nat.eq_or_lt_of_le e31 with z | e32
  · subst z
    exact lw_tsIn (v := 0) (tgt := 1089) C dL_law_32 (by decide) (by decide) rfl (by decide) (law_31 C hi iv k)
  replace e32 : 32 ≤ v := e32
  clear e31
  rcases Nat.eq_or_lt_of_le e32 with z | e33
  · subst z
    exact lw_tsIn (v := 0) (tgt := 1122) C dL_law_32 (by decide) (by decide) rfl (by decide) (law_32 C hi iv k)
  replace e33 : 33 ≤ v := e33
  clear e32
  rcases Nat.eq_or_lt_of_le e33 with z | e34
  · subst z
    exact lw_tsIn (v := 0) (tgt := 1155) C dL_law_32 (by decide) (by decide) rfl (by decide) (law_33 C hi iv k)
  replace e34 : 34 ≤ v := e34
  clear e33
  rcases Nat.eq_or_lt_of_le e34 with z | e35
  · subst z
    exact lw_tsIn (v := 0) (tgt := 1198) C dL_law_32 (by decide) (by decide) rfl (by decide) (law_34 C hi iv k)
  replace e35 : 35 ≤ v := e35
  clear e34
  rcases Nat.eq_or_lt_of_le e35 with z | e36
  · subst z
    exact lw_tsIn (v := 0) (tgt := 1241) C dL_law_32 (by decide) (by decide) rfl (by decide) (law_35 C hi iv k)
  replace e36 : 36 ≤ v := e36
  clear e35
  rcases Nat.eq_or_lt_of_le e36 with z | e37
  · subst z
    exact lw_tsIn (v := 0) (tgt := 1284) C dL_law_32 (by decide) (by decide) rfl (by decide) (law_36 C hi iv k)
  replace e37 : 37 ≤ v := e37
  clear e36
  rcases Nat.eq_or_lt_of_le e37 with z | e38
  · subst z
    exact lw_tsIn (v := 0) (tgt := 1317) C dL_law_32 (by decide) (by decide) rfl (by decide) (law_37 C hi iv k)
  replace e38 : 38 ≤ v := e38
  clear e37
  rcases Nat.eq_or_lt_of_le e38 with z | e39
  · subst z
    exact lw_tsIn (v := 0) (tgt := 1361) C dL_law_32 (by decide) (by decide) rfl (by decide) (law_38 C hi iv k)
  replace e39 : 39 ≤ v := e39
  clear e38
  rcases Nat.eq_or_lt_of_le e39 with z | e40
  · subst z
    exact lw_tsIn (v := 0) (tgt := 1384) C dL_law_32 (by decide) (by decide) rfl (by decide) (law_39 C hi iv k)
  replace e40 : 40 ≤ v := e40
  clear e39
  rcases Nat.eq_or_lt_of_le e40 with z | e41
  · subst z
    exact lw_tsIn (v := 0) (tgt := 1417) C dL_law_32 (by decide) (by decide) rfl (by decide) (law_40 C hi iv k)
  replace e41 : 41 ≤ v := e41
  clear e40
  rcases Nat.eq_or_lt_of_le e41 with z | e42
  · subst z
    exact lw_tsIn (v := 0) (tgt := 1430) C dL_law_32 (by decide) (by decide) rfl (by decide) (law_41 C hi iv k)
  replace e42 : 42 ≤ v := e42
  clear e41
  rcases Nat.eq_or_lt_of_le e42 with z | e43
  · subst z
    exact lw_tsIn (v := 0) (tgt := 1453) C dL_law_32 (by decide) (by decide) rfl (by decide) (law_42 C hi iv k)
  replace e43 : 43 ≤ v := e43
  clear e42
  rcases Nat.eq_or_lt_of_le e43 with z | e44
  · subst z
    exact lw_tsIn (v := 0) (tgt := 1476) C dL_law_32 (by decide) (by decide) rfl (by decide) (law_43 C hi iv k)
  replace e44 : 44 ≤ v := e44
  clear e43
  rcases Nat.eq_or_lt_of_le e44 with z | e45
  · subst z
    exact lw_tsIn (v := 0) (tgt := 1509) C dL_law_32 (by decide) (by decide) rfl (by decide) (law_44 C hi iv k)
  replace e45 : 45 ≤ v := e45
  clear e44
  rcases Nat.eq_or_lt_of_le e45 with z | e46
  · subst z
    exact lw_tsIn (v := 0) (tgt := 1542) C dL_law_32 (by decide) (by decide) rfl (by decide) (law_45 C hi iv k)
  replace e46 : 46 ≤ v := e46
  clear e45
  rcases Nat.eq_or_lt_of_le e46 with z | e47
  · subst z
    exact lw_tsIn (v := 0) (tgt := 1565) C dL_law_32 (by decide) (by decide) rfl (by decide) (law_46 C hi iv k)
  replace e47 : 47 ≤ v := e47
  clear e46
  rcases Nat.eq_or_lt_of_le e47 with z | e48
  · subst z
    exact lw_tsIn (v := 0) (tgt := 1578) C dL_law_32 (by decide) (by decide) rfl (by decide) (law_47 C hi iv k)
  replace e48 : 48 ≤ v := e48
  clear e47
  rcases Nat.eq_or_lt_of_le e48 with z | e49
  · subst z
    exact lw_tsIn (v := 0) (tgt := 1611) C dL_law_32 (by decide) (by decide) rfl (by decide) (law_48 C hi iv k)
  replace e49 : 49 ≤ v := e49
  clear e48
  rcases Nat.eq_or_lt_of_le e49 with z | e50
  · subst z
    exact lw_tsIn (v := 0) (tgt := 1634) C dL_law_32 (by decide) (by decide) rfl (by decide) (law_49 C hi iv k)
  replace e50 : 50 ≤ v := e50
  clear e49
  rcases Nat.eq_or_lt_of_le e50 with z | e51
  · subst z
    exact lw_tsIn (v := 0) (tgt := 1667) C dL_law_32 (by decide) (by decide) rfl (by decide) (law_50 C hi iv k)
  replace e51 : 51 ≤ v := e51
  clear e50
  rcases Nat.eq_or_lt_of_le e51 with z | e52
  · subst z
    exact lw_tsIn (v := 0) (tgt := 1690) C dL_law_32 (by decide) (by decide) rfl (by decide) (law_51 C hi iv k)
  replace e52 : 52 ≤ v := e52
  clear e51
  rcases Nat.eq_or_lt_of_le e52 with z | e53
  · subst z
    exact lw_tsIn (v := 0) (tgt := 1713) C dL_law_32 (by decide) (by decide) rfl (by decide) (law_52 C hi iv k)
  replace e53 : 53 ≤ v := e53
  clear e52
  rcases Nat.eq_or_lt_of_le e53 with z | e54
  · subst z
    exact lw_tsIn (v := 0) (tgt := 1736) C dL_law_32 (by decide) (by decide) rfl (by decide) (law_53 C hi iv k)
  replace e54 : 54 ≤ v := e54
  clear e53
  rcases Nat.eq_or_lt_of_le e54 with z | e55
  · subst z
    exact lw_tsIn (v := 0) (tgt := 1749) C dL_law_32 (by decide) (by decide) rfl (by decide) (law_54 C hi iv k)
  replace e55 : 55 ≤ v := e55
  clear e54
  rcases Nat.eq_or_lt_of_le e55 with z | e56
  · subst z
    exact lw_tsIn (v := 0) (tgt := 1772) C dL_law_32 (by decide) (by decide) rfl (by decide) (law_55 C hi iv k)
  replace e56 : 56 ≤ v := e56
  clear e55
  rcases Nat.eq_or_lt_of_le e56 with z | e57
  · subst z
    exact lw_tsIn (v := 0) (tgt := 1785) C dL_law_32 (by decide) (by decide) rfl (by decide) (law_56 C hi iv k)
  replace e57 : 57 ≤ v := e57
  clear e56
  rcases Nat.eq_or_lt_of_le e57 with z | e58
  · subst z
    exact lw_tsIn (v := 0) (tgt := 1798) C dL_law_32 (by decide) (by decide) rfl (by decide) (law_57 C hi iv k)
  replace e58 : 58 ≤ v := e58
  clear e57
  rcases Nat.eq_or_lt_of_le e58 with z | e59
  · subst z
    exact lw_tsIn (v := 0) (tgt := 1821) C dL_law_32 (by decide) (by decide) rfl (by decide) (law_58 C hi iv k)
  replace e59 : 59 ≤ v := e59
  clear e58
  rcases Nat.eq_or_lt_of_le e59 with z | e60
  · subst z
    exact lw_tsIn (v := 0) (tgt := 1834) C dL_law_32 (by decide) (by decide) rfl (by decide) (law_59 C hi iv k)
  replace e60 : 60 ≤ v := e60
  clear e59
  rcases Nat.eq_or_lt_of_le e60 with z | e61
  · subst z
    exact lw_tsIn (v := 0) (tgt := 1857) C dL_law_32 (by decide) (by decide) rfl (by decide) (law_60 C hi iv k)
  replace e61 : 61 ≤ v := e61
  clear e60
  rcases Nat.eq_or_lt_of_le e61 with z | e62
  · subst z
    exact lw_tsIn (v := 0) (tgt := 1890) C dL_law_32 (by decide) (by decide) rfl (by decide) (law_61 C hi iv k)
  replace e62 : 62 ≤ v := e62
  clear e61
  rcases Nat.eq_or_lt_of_le e62 with z | e63
  · subst z
    exact lw_tsIn (v := 0) (tgt := 1913) C dL_law_32 (by decide) (by decide) rfl (by decide) (law_62 C hi iv k)
  replace e63 : 63 ≤ v := e63
  clear e62
  rcases Nat.eq_or_lt_of_le e63 with z | e64
  · subst z
    exact lw_tsIn (v := 0) (tgt := 1926) C dL_law_32 (by decide) (by decide) rfl (by decide) (law_63 C hi iv k)
  replace e64 : 64 ≤ v := e64
  clear e63
  rcases Nat.eq_or_lt_of_le e64 with z | e65
  · subst z
    exact lw_tsIn (v := 0) (tgt := 1949) C dL_law_32 (by decide) (by decide) rfl (by decide) (law_64 C hi iv k)
  replace e65 : 65 ≤ v := e65
  clear e64
  rcases Nat.eq_or_lt_of_le e65 with z | e66
  · subst z
    exact lw_tsIn (v := 0) (tgt := 1962) C dL_law_32 (by decide) (by decide) rfl (by decide) (law_65 C hi iv k)
  replace e66 : 66 ≤ v := e66
  clear e65
  rcases Nat.eq_or_lt_of_le e66 with z | e67
  · subst z
    exact lw_tsIn (v := 0) (tgt := 1985) C dL_law_32 (by decide) (by decide) rfl (by decide) (law_66 C hi iv k)
  replace e67 : 67 ≤ v := e67
  clear e66
  rcases Nat.eq_or_lt_of_le e67 with z | e68
  · subst z
    exact lw_tsIn (v := 0) (tgt := 1998) C dL_law_32 (by decide) (by decide) rfl (by decide) (law_67 C hi iv k)
  replace e68 : 68 ≤ v := e68
  clear e67
  rcases Nat.eq_or_lt_of_le e68 with z | e69
  · subst z
    exact lw_tsIn (v := 0) (tgt := 2011) C dL_law_32 (by decide) (by decide) rfl (by decide) (law_68 C hi iv k)
  replace e69 : 69 ≤ v := e69
  clear e68
  rcases Nat.eq_or_lt_of_le e69 with z | e70
  · subst z
    exact lw_tsIn (v := 0) (tgt := 2024) C dL_law_32 (by decide) (by decide) rfl (by decide) (law_69 C hi iv k)
  replace e70 : 70 ≤ v := e70
  clear e69
  rcases Nat.eq_or_lt_of_le e70 with z | e71
  · subst z
    exact lw_tsIn (v := 0) (tgt := 2047) C dL_law_32 (by decide) (by decide) rfl (by decide) (law_70 C hi iv k)
  replace e71 : 71 ≤ v := e71
  clear e70
  rcases Nat.eq_or_lt_of_le e71 with z | e72
  · subst z
    exact lw_tsIn (v := 0) (tgt := 2070) C dL_law_32 (by decide) (by decide) rfl (by decide) (law_71 C hi iv k)
  replace e72 : 72 ≤ v := e72
  clear e71
  rcases Nat.eq_or_lt_of_le e72 with z | e73
  · subst z
    exact lw_tsIn (v := 0) (tgt := 2093) C dL_law_32 (by decide) (by decide) rfl (by decide) (law_72 C hi iv k)
  replace e73 : 73 ≤ v := e73
  clear e72
  rcases Nat.eq_or_lt_of_le e73 with z | e74
  · subst z
    exact lw_tsIn (v := 0) (tgt := 2116) C dL_law_32 (by decide) (by decide) rfl (by decide) (law_73 C hi iv k)
  replace e74 : 74 ≤ v := e74
  clear e73
  rcases Nat.eq_or_lt_of_le e74 with z | e75
  · subst z
    exact lw_tsIn (v := 0) (tgt := 2149) C dL_law_32 (by decide) (by decide) rfl (by decide) (law_74 C hi iv k)
  replace e75 : 75 ≤ v := e75
  clear e74
  rcases Nat.eq_or_lt_of_le e75 with z | e76
  · subst z
    exact lw_tsIn (v := 0) (tgt := 2192) C dL_law_32 (by decide) (by decide) rfl (by decide) (law_75 C hi iv k)
  replace e76 : 76 ≤ v := e76
  clear e75
  rcases Nat.eq_or_lt_of_le e76 with z | e77
  · subst z
    exact lw_tsIn (v := 0) (tgt := 2226) C dL_law_32 (by decide) (by decide) rfl (by decide) (law_76 C hi iv k)
  replace e77 : 77 ≤ v := e77
  clear e76
  rcases Nat.eq_or_lt_of_le e77 with z | e78
  · subst z
    exact lw_tsIn (v := 0) (tgt := 2259) C dL_law_32 (by decide) (by decide) rfl (by decide) (law_77 C hi iv k)
  replace e78 : 78 ≤ v := e78
  clear e77
  rcases Nat.eq_or_lt_of_le e78 with z | e79
  · subst z
    exact lw_tsIn (v := 0) (tgt := 2272) C dL_law_32 (by decide) (by decide) rfl (by decide) (law_78 C hi iv k)
  replace e79 : 79 ≤ v := e79
  clear e78
  rcases Nat.eq_or_lt_of_le e79 with z | e80
  · subst z
    exact lw_tsIn (v := 0) (tgt := 2285) C dL_law_32 (by decide) (by decide) rfl (by decide) (law_79 C hi iv k)
  replace e80 : 80 ≤ v := e80
  clear e79
  rcases Nat.eq_or_lt_of_le e80 with z | e81
  · subst z
    exact lw_tsIn (v := 0) (tgt := 2298) C dL_law_32 (by decide) (by decide) rfl (by decide) (law_80 C hi iv k)
  replace e81 : 81 ≤ v := e81
  clear e80
  rcases Nat.eq_or_lt_of_le e81 with z | e82
  · subst z
    exact lw_tsIn (v := 0) (tgt := 2311) C dL_law_32 (by decide) (by decide) rfl (by decide) (law_81 C hi iv k)
  replace e82 : 82 ≤ v := e82
  clear e81
  refine lw_tsOut (tgt := 2324) C dL_law_32 (Or.inr ?_) (by decide) (k h iv)
  rw [show (nI v).toInt = (v : Int) from nI_toInt (by omega)]
  omega
theorem law_loop (C : LwC G p s m meth c b L xs) : ∀ (n i : Nat), L + 4 ≤ i + 4 * n → i ≤ L → ∀ h : MH, Inv h → Lw G p e s m below meth c b 18 (nI i) [] h := by
  intro n
  induction n with
  | zero => intro i h1 h2; omega
  | succ n ih =>
    intro i h1 h2 h iv H locs ls hP hD hS hl
    have C' := C
    obtain ⟨⟨hx, hb, hr, hml, hown, hts, hX, hbl, hlocks, hgv⟩, hK, hL⟩ := C
    have hbA : ¬ (fun q : Nat => s.heap.size ≤ q) b := Nat.not_le.mpr hbl
    refine lv_iload_n hx hb dL_law_18 rfl (lv_at hl 3 rfl) ?_
    refine lv_aload_n hx hb dL_law_19 rfl (lv_at hl 0 rfl) ?_
    refine va_slen hx hb hX hbl hbA hS dL_law_20 ?_
    refine lv_iconst (v := nI 4) hx hb dL_law_21 (by decide) ?_
    refine lv_isub hx hb dL_law_22 ?_
    refine lv_icmp_gt (tgt := 2330) hx hb dL_law_23 (by decide) (fun c0 => ?_) (fun c0 => ?_)
    · refine lv_iconst (v := 1) hx hb dL_law_2330 (by decide) ?_
      refine va_forget (fun q hq => hS.2.2 q hq) ?_
      refine W.widen (k := 600000) (n := 7302250) (Nat.le_of_ble_eq_true rfl) (Nat.le_of_ble_eq_true rfl) ?_
      exact lw_ret hx hb hr hlocks dL_law_2331
    · have hi4 : i + 4 ≤ L := by
        rw [Int32.lt_iff_toInt_lt, show Int32.ofNat L - nI 4 = nI L - nI 4 from rfl, pk_sub_toInt (show L < 2 ^ 30 by omega) (by decide), nI_toInt (show i < 2 ^ 31 by omega)] at c0
        omega
      refine lv_aload_n hx hb dL_law_26 rfl (lv_at hl 0 rfl) ?_
      refine lv_iload_n hx hb dL_law_27 rfl (lv_at hl 3 rfl) ?_
      refine va_sld hx hb hX hbl hbA hS (vp_in_nI (show i < L by omega) (by omega)) dL_law_28 ?_
      refine lv_bipush (v := nI 127) hx hb dL_law_29 (by decide) ?_
      refine lv_iand hx hb dL_law_31 ?_
      obtain ⟨v, hv, ev⟩ := and127 (xs (nI i).toNatClampNeg)
      rw [ev]
      refine law_sw C' hi4 hv iv (fun h2 iv2 => ?_) H locs ls hP hD hS hl
      intro H locs ls hP hD hS hl
      refine lv_iinc (v := nI (i + 4)) (lv' := [(3, .int (nI (i + 4))), (0, .ref b), (1, .ref (G.2.2.2 0)), (2, .ref (G.2.2.2 67))]) hx hb dL_law_2324 hl (k := 3) rfl (by rw [← nI_add]; rfl) (by decide) rfl (fun ls hl => ?_)
      refine lv_goto (tgt := 18) hx hb dL_law_2327 (by decide) ?_
      exact ih (i + 4) (by omega) (by omega) h2 iv2 H locs ls hP hD hS (lv_sub hl [1, 2, 3, 0] rfl)
end LAWLOOP
