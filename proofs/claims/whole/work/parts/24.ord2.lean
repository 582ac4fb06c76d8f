section ORD2
variable {G : MG} {d : Nat} {h : MH}
theorem ev_iandD {M : MI} {pc : Nat} {lv : List (Option Value)} {st : List Value} {Q : Option Value → MH → Prop} {a b : Nat} (hd : decode M.2.1 pc = .ok (.iand, 1)) (k : Ev G d M (pc + 1) lv (.int (nI (andn b a)) :: st) h Q) : Ev G d M pc lv (.int (nI b) :: .int (nI a ^^^ (-1)) :: st) h Q := ev_iand hd (by rw [Int32.and_comm, nI_andn]; exact k)
theorem ev_incK {M : MI} {pc : Nat} {lv lv' : List (Option Value)} {st : List Value} {Q : Option Value → MH → Prop} {i a : Nat} {n : Int} (c : Nat) (hd : decode M.2.1 pc = .ok (.iinc i n, 3)) (hx : lv[i]? = some (some (.int (nI a)))) (hv : Int32.ofInt n = nI c) (hn : i < M.2.2.1) (hc : m_nl lv i = true) (hs : lv.set i (some (.int (nI (a + c)))) = lv') (k : Ev G d M (pc + 3) lv' st h Q) : Ev G d M pc lv st h Q := ev_iinc (nI (a + c)) hd hx (by rw [hv, nI_add]) hn hc hs k
def tzF (y : Nat) : Nat :=
  if y = 0 then 0 else
    (if 256 < y then (if 16 < y / 2 ^ 8 then (if 4 < y / 2 ^ 8 / 2 ^ 4 then 1 + 8 + 4 + 2 + y / 2 ^ 8 / 2 ^ 4 / 2 ^ 2 / 2 ^ 1 else 1 + 8 + 4 + y / 2 ^ 8 / 2 ^ 4 / 2 ^ 1) else (if 4 < y / 2 ^ 8 then 1 + 8 + 2 + y / 2 ^ 8 / 2 ^ 2 / 2 ^ 1 else 1 + 8 + y / 2 ^ 8 / 2 ^ 1))
     else (if 16 < y then (if 4 < y / 2 ^ 4 then 1 + 4 + 2 + y / 2 ^ 4 / 2 ^ 2 / 2 ^ 1 else 1 + 4 + y / 2 ^ 4 / 2 ^ 1) else (if 4 < y then 1 + 2 + y / 2 ^ 2 / 2 ^ 1 else 1 + y / 2 ^ 1)))
def low (m : Nat) : Nat := if ex m 0 ≠ 0 then 0 else if ex m 1 ≠ 0 then 1 else if ex m 2 ≠ 0 then 2 else if ex m 3 ≠ 0 then 3 else if ex m 4 ≠ 0 then 4 else if ex m 5 ≠ 0 then 5 else 6
theorem tz_low1 {m : Nat} (hm : m < 16384) : m = 0 ∨ tzF (andn (m - 1) m) / 2 = low m := by
  refine all2 (P := fun m => m = 0 ∨ tzF (andn (m - 1) m) / 2 = low m) ?_ hm
  decide +kernel
theorem low_lt (m : Nat) : low m < 7 := by
  unfold low; (repeat' split) <;> decide
theorem ex7 {m : Nat} (hm : m < 16384) (h : ∀ w, w < 7 → ex m w = 0) : m = 0 := by
  have h0 := h 0 (by decide)
  have h1 := h 1 (by decide)
  have h2 := h 2 (by decide)
  have h3 := h 3 (by decide)
  have h4 := h 4 (by decide)
  have h5 := h 5 (by decide)
  have h6 := h 6 (by decide)
  simp only [ex, Nat.pow_zero, Nat.div_one, Nat.reducePow] at h0 h1 h2 h3 h4 h5 h6
  omega
theorem low_ex {m : Nat} (hm : m < 16384) (h0 : m ≠ 0) : 0 < ex m (low m) ∧ ∀ w, w < low m → ex m w = 0 := by
  have key : ∀ w, w < 7 → w = 0 ∨ w = 1 ∨ w = 2 ∨ w = 3 ∨ w = 4 ∨ w = 5 ∨ w = 6 := by omega
  have h7 : ∀ (p : Prop), ex m 0 = 0 → ex m 1 = 0 → ex m 2 = 0 → ex m 3 = 0 → ex m 4 = 0 → ex m 5 = 0 → ex m 6 = 0 → p := by
    intro p a0 a1 a2 a3 a4 a5 a6
    refine absurd (ex7 hm (fun w hw => ?_)) h0
    rcases key w hw with rfl | rfl | rfl | rfl | rfl | rfl | rfl <;> assumption
  have hlt := low_lt m
  unfold low at hlt ⊢
  by_cases c0 : ex m 0 = 0
  · by_cases c1 : ex m 1 = 0
    · by_cases c2 : ex m 2 = 0
      · by_cases c3 : ex m 3 = 0
        · by_cases c4 : ex m 4 = 0
          · by_cases c5 : ex m 5 = 0
            · simp only [c0, c1, c2, c3, c4, c5, ne_eq, not_true, if_false]
              refine ⟨Nat.pos_of_ne_zero (fun c6 => h7 _ c0 c1 c2 c3 c4 c5 c6), fun w hw => ?_⟩
              rcases key w (by omega) with rfl | rfl | rfl | rfl | rfl | rfl | rfl <;> first | assumption | omega
            · simp only [c0, c1, c2, c3, c4, ne_eq, not_true, if_false, c5, not_false_eq_true, if_true]
              refine ⟨Nat.pos_of_ne_zero c5, fun w hw => ?_⟩
              rcases key w (by omega) with rfl | rfl | rfl | rfl | rfl | rfl | rfl <;> first | assumption | omega
          · simp only [c0, c1, c2, c3, ne_eq, not_true, if_false, c4, not_false_eq_true, if_true]
            refine ⟨Nat.pos_of_ne_zero c4, fun w hw => ?_⟩
            rcases key w (by omega) with rfl | rfl | rfl | rfl | rfl | rfl | rfl <;> first | assumption | omega
        · simp only [c0, c1, c2, ne_eq, not_true, if_false, c3, not_false_eq_true, if_true]
          refine ⟨Nat.pos_of_ne_zero c3, fun w hw => ?_⟩
          rcases key w (by omega) with rfl | rfl | rfl | rfl | rfl | rfl | rfl <;> first | assumption | omega
      · simp only [c0, c1, ne_eq, not_true, if_false, c2, not_false_eq_true, if_true]
        refine ⟨Nat.pos_of_ne_zero c2, fun w hw => ?_⟩
        rcases key w (by omega) with rfl | rfl | rfl | rfl | rfl | rfl | rfl <;> first | assumption | omega
    · simp only [c0, ne_eq, not_true, if_false, c1, not_false_eq_true, if_true]
      refine ⟨Nat.pos_of_ne_zero c1, fun w hw => ?_⟩
      rcases key w (by omega) with rfl | rfl | rfl | rfl | rfl | rfl | rfl <;> first | assumption | omega
  · simp only [ne_eq, c0, not_false_eq_true, if_true]
    exact ⟨Nat.pos_of_ne_zero c0, fun w hw => absurd hw (by omega)⟩
theorem cl_ntz {m : Nat} (hm : m < 16384) (h0 : m ≠ 0) : Cl G d M_J6_numberOfTrailingZeros_0f7a4 [.int (nI m)] h (qI (nI (tzF (andn (m - 1) m))) h) := by
  have hy : andn (m - 1) m < 16384 := andn_lt (by omega)
  generalize hyy : andn (m - 1) m = y at hy ⊢
  have d1 : ∀ a b : Nat, a / 2 ^ b ≤ a := fun a b => Nat.div_le_self _ _
  have e1 := d1 y 8
  have e2 := d1 (y / 2 ^ 8) 4
  have e3 := d1 (y / 2 ^ 8 / 2 ^ 4) 2
  have e4 := d1 (y / 2 ^ 8) 2
  have e5 := d1 y 4
  have e6 := d1 (y / 2 ^ 4) 2
  have e7 := d1 y 2
  refine ev_start 1 (lv := [some (.int (nI m)), none]) rfl (by decide) (Nat.le_of_ble_eq_true rfl) ?_
  refine ev_iload_n dJ6_numberOfTrailingZeros_0f7a4_0 rfl ?_
  refine ev_iconst (-1) dJ6_numberOfTrailingZeros_0f7a4_1 rfl ?_
  refine ev_ixor dJ6_numberOfTrailingZeros_0f7a4_2 ?_
  refine ev_iload_n dJ6_numberOfTrailingZeros_0f7a4_3 rfl ?_
  refine ev_iconst (nI 1) dJ6_numberOfTrailingZeros_0f7a4_4 rfl ?_
  refine ev_isubN dJ6_numberOfTrailingZeros_0f7a4_5 (by omega) ?_
  refine ev_iandD dJ6_numberOfTrailingZeros_0f7a4_6 ?_
  rw [hyy]
  refine ev_ist0 dJ6_numberOfTrailingZeros_0f7a4_7 (by decide) rfl ?_
  refine ev_iload_n dJ6_numberOfTrailingZeros_0f7a4_8 rfl ?_
  refine ev_if_gtN 17 dJ6_numberOfTrailingZeros_0f7a4_9 (by decide) (by omega) (fun c9 => ?_) (fun c9 => ?_)
  · refine ev_iconst (nI 1) dJ6_numberOfTrailingZeros_0f7a4_17 rfl ?_
    refine ev_ist1 dJ6_numberOfTrailingZeros_0f7a4_18 (by decide) rfl ?_
    refine ev_iload_n dJ6_numberOfTrailingZeros_0f7a4_19 rfl ?_
    refine ev_ldcw (nI 65536) dJ6_numberOfTrailingZeros_0f7a4_20 ki_J6_264 ?_
    refine ev_icmp_leN 34 dJ6_numberOfTrailingZeros_0f7a4_23 (by decide) (by omega) (by omega) (fun c23 => ?_) (fun c23 => ?_)
    · refine ev_iload_n dJ6_numberOfTrailingZeros_0f7a4_34 rfl ?_
      refine ev_sipush (nI 256) dJ6_numberOfTrailingZeros_0f7a4_35 rfl ?_
      refine ev_icmp_leN 49 dJ6_numberOfTrailingZeros_0f7a4_38 (by decide) (by omega) (by omega) (fun c38 => ?_) (fun c38 => ?_)
      · refine ev_iload_n dJ6_numberOfTrailingZeros_0f7a4_49 rfl ?_
        refine ev_bipush (nI 16) dJ6_numberOfTrailingZeros_0f7a4_50 rfl ?_
        refine ev_icmp_leN 62 dJ6_numberOfTrailingZeros_0f7a4_52 (by decide) (by omega) (by omega) (fun c52 => ?_) (fun c52 => ?_)
        · refine ev_iload_n dJ6_numberOfTrailingZeros_0f7a4_62 rfl ?_
          refine ev_iconst (nI 4) dJ6_numberOfTrailingZeros_0f7a4_63 rfl ?_
          refine ev_icmp_leN 74 dJ6_numberOfTrailingZeros_0f7a4_64 (by decide) (by omega) (by omega) (fun c64 => ?_) (fun c64 => ?_)
          · refine ev_iload_n dJ6_numberOfTrailingZeros_0f7a4_74 rfl ?_
            refine ev_iload_n dJ6_numberOfTrailingZeros_0f7a4_75 rfl ?_
            refine ev_iconst (nI 1) dJ6_numberOfTrailingZeros_0f7a4_76 rfl ?_
            refine ev_iushrN dJ6_numberOfTrailingZeros_0f7a4_77 (by omega) (by omega) ?_
            refine ev_iaddN dJ6_numberOfTrailingZeros_0f7a4_78 ?_
            refine ev_iret dJ6_numberOfTrailingZeros_0f7a4_79 rfl ?_
            refine ⟨?_, rfl⟩
            unfold tzF
            (repeat' split) <;> first | (exfalso; omega) | with_reducible rfl
          · refine ev_incK 2 dJ6_numberOfTrailingZeros_0f7a4_67 rfl rfl (by decide) rfl rfl ?_
            refine ev_iload_n dJ6_numberOfTrailingZeros_0f7a4_70 rfl ?_
            refine ev_iconst (nI 2) dJ6_numberOfTrailingZeros_0f7a4_71 rfl ?_
            refine ev_iushrN dJ6_numberOfTrailingZeros_0f7a4_72 (by omega) (by omega) ?_
            refine ev_ist0 dJ6_numberOfTrailingZeros_0f7a4_73 (by decide) rfl ?_
            refine ev_iload_n dJ6_numberOfTrailingZeros_0f7a4_74 rfl ?_
            refine ev_iload_n dJ6_numberOfTrailingZeros_0f7a4_75 rfl ?_
            refine ev_iconst (nI 1) dJ6_numberOfTrailingZeros_0f7a4_76 rfl ?_
            refine ev_iushrN dJ6_numberOfTrailingZeros_0f7a4_77 (by omega) (by omega) ?_
            refine ev_iaddN dJ6_numberOfTrailingZeros_0f7a4_78 ?_
            refine ev_iret dJ6_numberOfTrailingZeros_0f7a4_79 rfl ?_
            refine ⟨?_, rfl⟩
            unfold tzF
            (repeat' split) <;> first | (exfalso; omega) | with_reducible rfl
        · refine ev_incK 4 dJ6_numberOfTrailingZeros_0f7a4_55 rfl rfl (by decide) rfl rfl ?_
          refine ev_iload_n dJ6_numberOfTrailingZeros_0f7a4_58 rfl ?_
          refine ev_iconst (nI 4) dJ6_numberOfTrailingZeros_0f7a4_59 rfl ?_
          refine ev_iushrN dJ6_numberOfTrailingZeros_0f7a4_60 (by omega) (by omega) ?_
          refine ev_ist0 dJ6_numberOfTrailingZeros_0f7a4_61 (by decide) rfl ?_
          refine ev_iload_n dJ6_numberOfTrailingZeros_0f7a4_62 rfl ?_
          refine ev_iconst (nI 4) dJ6_numberOfTrailingZeros_0f7a4_63 rfl ?_
          refine ev_icmp_leN 74 dJ6_numberOfTrailingZeros_0f7a4_64 (by decide) (by omega) (by omega) (fun c64 => ?_) (fun c64 => ?_)
          · refine ev_iload_n dJ6_numberOfTrailingZeros_0f7a4_74 rfl ?_
            refine ev_iload_n dJ6_numberOfTrailingZeros_0f7a4_75 rfl ?_
            refine ev_iconst (nI 1) dJ6_numberOfTrailingZeros_0f7a4_76 rfl ?_
            refine ev_iushrN dJ6_numberOfTrailingZeros_0f7a4_77 (by omega) (by omega) ?_
            refine ev_iaddN dJ6_numberOfTrailingZeros_0f7a4_78 ?_
            refine ev_iret dJ6_numberOfTrailingZeros_0f7a4_79 rfl ?_
            refine ⟨?_, rfl⟩
            unfold tzF
            (repeat' split) <;> first | (exfalso; omega) | with_reducible rfl
          · refine ev_incK 2 dJ6_numberOfTrailingZeros_0f7a4_67 rfl rfl (by decide) rfl rfl ?_
            refine ev_iload_n dJ6_numberOfTrailingZeros_0f7a4_70 rfl ?_
            refine ev_iconst (nI 2) dJ6_numberOfTrailingZeros_0f7a4_71 rfl ?_
            refine ev_iushrN dJ6_numberOfTrailingZeros_0f7a4_72 (by omega) (by omega) ?_
            refine ev_ist0 dJ6_numberOfTrailingZeros_0f7a4_73 (by decide) rfl ?_
            refine ev_iload_n dJ6_numberOfTrailingZeros_0f7a4_74 rfl ?_
            refine ev_iload_n dJ6_numberOfTrailingZeros_0f7a4_75 rfl ?_
            refine ev_iconst (nI 1) dJ6_numberOfTrailingZeros_0f7a4_76 rfl ?_
            refine ev_iushrN dJ6_numberOfTrailingZeros_0f7a4_77 (by omega) (by omega) ?_
            refine ev_iaddN dJ6_numberOfTrailingZeros_0f7a4_78 ?_
            refine ev_iret dJ6_numberOfTrailingZeros_0f7a4_79 rfl ?_
            refine ⟨?_, rfl⟩
            unfold tzF
            (repeat' split) <;> first | (exfalso; omega) | with_reducible rfl
      · refine ev_incK 8 dJ6_numberOfTrailingZeros_0f7a4_41 rfl rfl (by decide) rfl rfl ?_
        refine ev_iload_n dJ6_numberOfTrailingZeros_0f7a4_44 rfl ?_
        refine ev_bipush (nI 8) dJ6_numberOfTrailingZeros_0f7a4_45 rfl ?_
        refine ev_iushrN dJ6_numberOfTrailingZeros_0f7a4_47 (by omega) (by omega) ?_
        refine ev_ist0 dJ6_numberOfTrailingZeros_0f7a4_48 (by decide) rfl ?_
        refine ev_iload_n dJ6_numberOfTrailingZeros_0f7a4_49 rfl ?_
        refine ev_bipush (nI 16) dJ6_numberOfTrailingZeros_0f7a4_50 rfl ?_
        refine ev_icmp_leN 62 dJ6_numberOfTrailingZeros_0f7a4_52 (by decide) (by omega) (by omega) (fun c52 => ?_) (fun c52 => ?_)
        · refine ev_iload_n dJ6_numberOfTrailingZeros_0f7a4_62 rfl ?_
          refine ev_iconst (nI 4) dJ6_numberOfTrailingZeros_0f7a4_63 rfl ?_
          refine ev_icmp_leN 74 dJ6_numberOfTrailingZeros_0f7a4_64 (by decide) (by omega) (by omega) (fun c64 => ?_) (fun c64 => ?_)
          · refine ev_iload_n dJ6_numberOfTrailingZeros_0f7a4_74 rfl ?_
            refine ev_iload_n dJ6_numberOfTrailingZeros_0f7a4_75 rfl ?_
            refine ev_iconst (nI 1) dJ6_numberOfTrailingZeros_0f7a4_76 rfl ?_
            refine ev_iushrN dJ6_numberOfTrailingZeros_0f7a4_77 (by omega) (by omega) ?_
            refine ev_iaddN dJ6_numberOfTrailingZeros_0f7a4_78 ?_
            refine ev_iret dJ6_numberOfTrailingZeros_0f7a4_79 rfl ?_
            refine ⟨?_, rfl⟩
            unfold tzF
            (repeat' split) <;> first | (exfalso; omega) | with_reducible rfl
          · refine ev_incK 2 dJ6_numberOfTrailingZeros_0f7a4_67 rfl rfl (by decide) rfl rfl ?_
            refine ev_iload_n dJ6_numberOfTrailingZeros_0f7a4_70 rfl ?_
            refine ev_iconst (nI 2) dJ6_numberOfTrailingZeros_0f7a4_71 rfl ?_
            refine ev_iushrN dJ6_numberOfTrailingZeros_0f7a4_72 (by omega) (by omega) ?_
            refine ev_ist0 dJ6_numberOfTrailingZeros_0f7a4_73 (by decide) rfl ?_
            refine ev_iload_n dJ6_numberOfTrailingZeros_0f7a4_74 rfl ?_
            refine ev_iload_n dJ6_numberOfTrailingZeros_0f7a4_75 rfl ?_
            refine ev_iconst (nI 1) dJ6_numberOfTrailingZeros_0f7a4_76 rfl ?_
            refine ev_iushrN dJ6_numberOfTrailingZeros_0f7a4_77 (by omega) (by omega) ?_
            refine ev_iaddN dJ6_numberOfTrailingZeros_0f7a4_78 ?_
            refine ev_iret dJ6_numberOfTrailingZeros_0f7a4_79 rfl ?_
            refine ⟨?_, rfl⟩
            unfold tzF
            (repeat' split) <;> first | (exfalso; omega) | with_reducible rfl
        · refine ev_incK 4 dJ6_numberOfTrailingZeros_0f7a4_55 rfl rfl (by decide) rfl rfl ?_
          refine ev_iload_n dJ6_numberOfTrailingZeros_0f7a4_58 rfl ?_
          refine ev_iconst (nI 4) dJ6_numberOfTrailingZeros_0f7a4_59 rfl ?_
          refine ev_iushrN dJ6_numberOfTrailingZeros_0f7a4_60 (by omega) (by omega) ?_
          refine ev_ist0 dJ6_numberOfTrailingZeros_0f7a4_61 (by decide) rfl ?_
          refine ev_iload_n dJ6_numberOfTrailingZeros_0f7a4_62 rfl ?_
          refine ev_iconst (nI 4) dJ6_numberOfTrailingZeros_0f7a4_63 rfl ?_
          refine ev_icmp_leN 74 dJ6_numberOfTrailingZeros_0f7a4_64 (by decide) (by omega) (by omega) (fun c64 => ?_) (fun c64 => ?_)
          · refine ev_iload_n dJ6_numberOfTrailingZeros_0f7a4_74 rfl ?_
            refine ev_iload_n dJ6_numberOfTrailingZeros_0f7a4_75 rfl ?_
            refine ev_iconst (nI 1) dJ6_numberOfTrailingZeros_0f7a4_76 rfl ?_
            refine ev_iushrN dJ6_numberOfTrailingZeros_0f7a4_77 (by omega) (by omega) ?_
            refine ev_iaddN dJ6_numberOfTrailingZeros_0f7a4_78 ?_
            refine ev_iret dJ6_numberOfTrailingZeros_0f7a4_79 rfl ?_
            refine ⟨?_, rfl⟩
            unfold tzF
            (repeat' split) <;> first | (exfalso; omega) | with_reducible rfl
          · refine ev_incK 2 dJ6_numberOfTrailingZeros_0f7a4_67 rfl rfl (by decide) rfl rfl ?_
            refine ev_iload_n dJ6_numberOfTrailingZeros_0f7a4_70 rfl ?_
            refine ev_iconst (nI 2) dJ6_numberOfTrailingZeros_0f7a4_71 rfl ?_
            refine ev_iushrN dJ6_numberOfTrailingZeros_0f7a4_72 (by omega) (by omega) ?_
            refine ev_ist0 dJ6_numberOfTrailingZeros_0f7a4_73 (by decide) rfl ?_
            refine ev_iload_n dJ6_numberOfTrailingZeros_0f7a4_74 rfl ?_
            refine ev_iload_n dJ6_numberOfTrailingZeros_0f7a4_75 rfl ?_
            refine ev_iconst (nI 1) dJ6_numberOfTrailingZeros_0f7a4_76 rfl ?_
            refine ev_iushrN dJ6_numberOfTrailingZeros_0f7a4_77 (by omega) (by omega) ?_
            refine ev_iaddN dJ6_numberOfTrailingZeros_0f7a4_78 ?_
            refine ev_iret dJ6_numberOfTrailingZeros_0f7a4_79 rfl ?_
            refine ⟨?_, rfl⟩
            unfold tzF
            (repeat' split) <;> first | (exfalso; omega) | with_reducible rfl
    · omega
  · refine ev_iload_n dJ6_numberOfTrailingZeros_0f7a4_12 rfl ?_
    refine ev_bipush (nI 32) dJ6_numberOfTrailingZeros_0f7a4_13 rfl ?_
    refine ev_iandN dJ6_numberOfTrailingZeros_0f7a4_15 ?_
    refine ev_iret dJ6_numberOfTrailingZeros_0f7a4_16 rfl ?_
    exact ⟨by rw [show y = 0 from c9]; rfl, rfl⟩
theorem cl_orderFromLowerCodes {n N m : Nat} (g : gC h n N) (ok : gOK n N) (hm : m < 4 ^ n) (ht : ∀ j, j < m → h.1 5 j = nI (ord n N j)) : Cl G (d + 1) M_X2_orderFromLowerCodes [.ref 4, .int (nI m)] h (qI (nI (ord n N m)) h) := by
  have hn := ok.2.1
  have h4 := four_n hn
  by_cases h0 : m = 0
  · subst h0
    rw [ord_0 ok]
    refine ev_start 4 (lv := [some (.ref 4), some (.int (nI 0)), none, none, none, none]) rfl (by decide) (Nat.le_of_ble_eq_true rfl) ?_
    refine ev_iload_n dX2_orderFromLowerCodes_0 rfl ?_
    refine ev_if_neN 6 dX2_orderFromLowerCodes_1 (by decide) (by omega) (fun c1 => ?_) (fun c1 => ?_)
    · exact absurd rfl c1
    · refine ev_iconst (nI 0) dX2_orderFromLowerCodes_4 rfl ?_
      refine ev_iret dX2_orderFromLowerCodes_5 rfl ?_
      exact ⟨by with_reducible rfl, rfl⟩
  · obtain ⟨el, hlow⟩ := low_ex (show m < 16384 by omega) h0
    have e1 : tzF (andn (m - 1) m) / 2 = low m := (tz_low1 (show m < 16384 by omega)).resolve_left h0
    have hl : low m < n := Nat.lt_of_not_le (fun q => by rw [ex_big hm q] at el; omega)
    have hle := ex_le_sub el
    generalize hll : low m = l at el hlow e1 hl hle
    have hp : 0 < 4 ^ l := Nat.pow_pos (by decide)
    obtain ⟨o1, o2⟩ := ord_low ok hl el hlow
    have hr : h.1 5 (m - 4 ^ l) = nI (ord n N (m - 4 ^ l)) := ht _ (by omega)
    have b0 := ord_le ok (m := m - 4 ^ l)
    have tzb : tzF (andn (m - 1) m) < 16 := by omega
    have nbl := nb_lt N l
    have loop : ∀ (k u : Nat), u + k = n → l < u → (∀ w, l < w → w < u → ¬ ((nb N l).testBit w = true ∧ 0 < ex (m - 4 ^ l) w ∧ ord n N (m - 4 ^ l - 4 ^ w) = ord n N (m - 4 ^ l))) → Ev G (d + 1) M_X2_orderFromLowerCodes 38 [some (.ref 4), some (.int (nI m)), some (.int (nI l)), some (.int (nI (m - 4 ^ l))), some (.int (nI (nb N l))), some (.int (nI u))] [] h (qI (nI (ord n N m)) h) := by
      intro k
      induction k with
      | zero =>
        intro u hu hlu hw
        rw [o2 (fun ⟨w, a, b, c⟩ => hw w a (by omega) c)]
        refine ev_iload dX2_orderFromLowerCodes_38 rfl ?_
        refine ev_aload_n dX2_orderFromLowerCodes_40 rfl ?_
        refine ev_getR fl_X2_9 rfl rfl dX2_orderFromLowerCodes_41 ?_
        refine ev_getIv (g.1) fl_X2_83 rfl rfl dX2_orderFromLowerCodes_44 ?_
        refine ev_icmp_geN 105 dX2_orderFromLowerCodes_47 (by decide) (by omega) (by omega) (fun c47 => ?_) (fun c47 => ?_)
        · refine ev_aload_n dX2_orderFromLowerCodes_105 rfl ?_
          refine ev_getR fl_X2_17 rfl rfl dX2_orderFromLowerCodes_106 ?_
          refine ev_iload_n dX2_orderFromLowerCodes_109 rfl ?_
          refine ev_ialdv (hr) rfl dX2_orderFromLowerCodes_110 (by omega) (by omega) ?_
          refine ev_iret dX2_orderFromLowerCodes_111 rfl ?_
          exact ⟨by with_reducible rfl, rfl⟩
        · omega
      | succ k ih =>
        intro u hu hlu hw
        have t1 := tb_lt1 (nb N l) u
        have x1 := ex_lt (m - 4 ^ l) u
        have nxt : ¬ ((nb N l).testBit u = true ∧ 0 < ex (m - 4 ^ l) u ∧ ord n N (m - 4 ^ l - 4 ^ u) = ord n N (m - 4 ^ l)) → Ev G (d + 1) M_X2_orderFromLowerCodes 38 [some (.ref 4), some (.int (nI m)), some (.int (nI l)), some (.int (nI (m - 4 ^ l))), some (.int (nI (nb N l))), some (.int (nI (u + 1)))] [] h (qI (nI (ord n N m)) h) := fun q => ih (u + 1) (by omega) (by omega) (fun w a b => by
            by_cases e : w = u
            · subst e; exact q
            · exact hw w a (by omega))
        refine ev_iload dX2_orderFromLowerCodes_38 rfl ?_
        refine ev_aload_n dX2_orderFromLowerCodes_40 rfl ?_
        refine ev_getR fl_X2_9 rfl rfl dX2_orderFromLowerCodes_41 ?_
        refine ev_getIv (g.1) fl_X2_83 rfl rfl dX2_orderFromLowerCodes_44 ?_
        refine ev_icmp_geN 105 dX2_orderFromLowerCodes_47 (by decide) (by omega) (by omega) (fun c47 => ?_) (fun c47 => ?_)
        · omega
        · refine ev_iload dX2_orderFromLowerCodes_50 rfl ?_
          refine ev_iload dX2_orderFromLowerCodes_52 rfl ?_
          refine ev_ishrN dX2_orderFromLowerCodes_54 (by omega) (by omega) ?_
          refine ev_iconst (nI 1) dX2_orderFromLowerCodes_55 rfl ?_
          refine ev_iandN dX2_orderFromLowerCodes_56 ?_
          refine ev_if_eqN 99 dX2_orderFromLowerCodes_57 (by decide) (by omega) (fun c57 => ?_) (fun c57 => ?_)
          · refine ev_inc5N dX2_orderFromLowerCodes_99 (by decide) rfl ?_
            refine ev_goto 38 dX2_orderFromLowerCodes_102 (by decide) ?_
            exact nxt (fun q => by rw [(tb_0 _ _).mp c57] at q; exact absurd q.1 (by decide))
          · refine ev_iload_n dX2_orderFromLowerCodes_60 rfl ?_
            refine ev_iload dX2_orderFromLowerCodes_61 rfl ?_
            refine ev_callS (cl_exponentOf (by omega) (by omega)) ok_X6_exponentOf ml_X2_86 rfl rfl (Nat.le_of_ble_eq_true rfl) dX2_orderFromLowerCodes_63 (kI ?_)
            refine ev_if_leN 99 dX2_orderFromLowerCodes_66 (by decide) (by omega) (fun c66 => ?_) (fun c66 => ?_)
            · refine ev_inc5N dX2_orderFromLowerCodes_99 (by decide) rfl ?_
              refine ev_goto 38 dX2_orderFromLowerCodes_102 (by decide) ?_
              exact nxt (fun q => absurd q.2.1 (by omega))
            · have z2 : 0 < 4 ^ u := Nat.pow_pos (by decide)
              have hsub := ex_le_sub (show 0 < ex (m - 4 ^ l) u by omega)
              have hv2 : h.1 5 (m - 4 ^ l - 4 ^ u) = nI (ord n N (m - 4 ^ l - 4 ^ u)) := ht _ (by omega)
              have b2 := ord_le ok (m := m - 4 ^ l - 4 ^ u)
              refine ev_aload_n dX2_orderFromLowerCodes_69 rfl ?_
              refine ev_getR fl_X2_17 rfl rfl dX2_orderFromLowerCodes_70 ?_
              refine ev_iload_n dX2_orderFromLowerCodes_73 rfl ?_
              refine ev_iload dX2_orderFromLowerCodes_74 rfl ?_
              refine ev_callS (cl_unit (by omega)) ok_X6_unit ml_X2_70 rfl rfl (Nat.le_of_ble_eq_true rfl) dX2_orderFromLowerCodes_76 (kI ?_)
              refine ev_isubN dX2_orderFromLowerCodes_79 (by omega) ?_
              refine ev_ialdv (hv2) rfl dX2_orderFromLowerCodes_80 (by omega) (by omega) ?_
              refine ev_aload_n dX2_orderFromLowerCodes_81 rfl ?_
              refine ev_getR fl_X2_17 rfl rfl dX2_orderFromLowerCodes_82 ?_
              refine ev_iload_n dX2_orderFromLowerCodes_85 rfl ?_
              refine ev_ialdv (hr) rfl dX2_orderFromLowerCodes_86 (by omega) (by omega) ?_
              refine ev_icmp_neN 99 dX2_orderFromLowerCodes_87 (by decide) (by omega) (by omega) (fun c87 => ?_) (fun c87 => ?_)
              · refine ev_inc5N dX2_orderFromLowerCodes_99 (by decide) rfl ?_
                refine ev_goto 38 dX2_orderFromLowerCodes_102 (by decide) ?_
                exact nxt (fun q => c87 q.2.2)
              · refine ev_aload_n dX2_orderFromLowerCodes_90 rfl ?_
                refine ev_getR fl_X2_17 rfl rfl dX2_orderFromLowerCodes_91 ?_
                refine ev_iload_n dX2_orderFromLowerCodes_94 rfl ?_
                refine ev_ialdv (hr) rfl dX2_orderFromLowerCodes_95 (by omega) (by omega) ?_
                refine ev_iconst (nI 1) dX2_orderFromLowerCodes_96 rfl ?_
                refine ev_iaddN dX2_orderFromLowerCodes_97 ?_
                refine ev_iret dX2_orderFromLowerCodes_98 rfl ?_
                rw [o1 ⟨u, hlu, by omega, (tb_n0 _ _).mp c57, by omega, c87⟩]; exact ⟨by with_reducible rfl, rfl⟩
    refine ev_start 4 (lv := [some (.ref 4), some (.int (nI m)), none, none, none, none]) rfl (by decide) (Nat.le_of_ble_eq_true rfl) ?_
    refine ev_iload_n dX2_orderFromLowerCodes_0 rfl ?_
    refine ev_if_neN 6 dX2_orderFromLowerCodes_1 (by decide) (by omega) (fun c1 => ?_) (fun c1 => ?_)
    · refine ev_iload_n dX2_orderFromLowerCodes_6 rfl ?_
      refine ev_callS (cl_ntz (by omega) h0) ok_J6_numberOfTrailingZeros_0f7a4 ml_X2_65 rfl rfl (Nat.le_of_ble_eq_true rfl) dX2_orderFromLowerCodes_7 (kI ?_)
      refine ev_iconst (nI 2) dX2_orderFromLowerCodes_10 rfl ?_
      refine ev_idivN dX2_orderFromLowerCodes_11 (by omega) (by omega) (by omega) ?_
      rw [e1]
      refine ev_ist2 dX2_orderFromLowerCodes_12 (by decide) rfl ?_
      refine ev_iload_n dX2_orderFromLowerCodes_13 rfl ?_
      refine ev_iload_n dX2_orderFromLowerCodes_14 rfl ?_
      refine ev_callS (cl_unit (by omega)) ok_X6_unit ml_X2_70 rfl rfl (Nat.le_of_ble_eq_true rfl) dX2_orderFromLowerCodes_15 (kI ?_)
      refine ev_isubN dX2_orderFromLowerCodes_18 (by omega) ?_
      refine ev_ist3 dX2_orderFromLowerCodes_19 (by decide) rfl ?_
      refine ev_aload_n dX2_orderFromLowerCodes_20 rfl ?_
      refine ev_getR fl_X2_9 rfl rfl dX2_orderFromLowerCodes_21 ?_
      refine ev_getLv (g.2) fl_X2_73 rfl rfl dX2_orderFromLowerCodes_24 ?_
      refine ev_iload_n dX2_orderFromLowerCodes_27 rfl ?_
      refine ev_callS (cl_neighborsIn ok.2.2.1 (by omega)) ok_X1_neighborsIn ml_X2_79 rfl rfl (Nat.le_of_ble_eq_true rfl) dX2_orderFromLowerCodes_28 (kI ?_)
      refine ev_ist4 dX2_orderFromLowerCodes_31 (by decide) rfl ?_
      refine ev_iload_n dX2_orderFromLowerCodes_33 rfl ?_
      refine ev_iconst (nI 1) dX2_orderFromLowerCodes_34 rfl ?_
      refine ev_iaddN dX2_orderFromLowerCodes_35 ?_
      refine ev_ist5 dX2_orderFromLowerCodes_36 (by decide) rfl ?_
      exact loop (n - (l + 1)) (l + 1) (by omega) (by omega) (fun w a b => absurd a (by omega))
    · omega
/-- the orders that are known: below ko -/
def kO (h : MH) (n N ko : Nat) : Prop := ko ≤ 4 ^ n ∧ h.1 4 2 = nI ko ∧ ∀ j, j < ko → h.1 5 j = nI (ord n N j)
theorem cl_powerOrderOf {n N ko m : Nat} (g : gC h n N) (ok : gOK n N) (k0 : kO h n N ko) (hm : m < 4 ^ n) : Cl G (d + 2) M_X2_powerOrderOf [.ref 4, .int (nI m)] h (fun rv h' => rv = some (.int (nI (ord n N m))) ∧ ∃ f, h' = aH h 4 2 5 (max ko (m + 1)) f ∧ kO h' n N (max ko (m + 1))) := by
  have hn := ok.2.1
  have h4 := four_n hn
  obtain ⟨hk, hk1, hk2⟩ := k0
  have fin : ∀ (f : Nat → Int32), (∀ j, j < max ko (m + 1) → f j = nI (ord n N j)) → ∀ x2 : Option Value, Ev G (d + 2) M_X2_powerOrderOf 27 [some (.ref 4), some (.int (nI m)), x2] [] (aH h 4 2 5 ko f) (fun rv h' => rv = some (.int (nI (ord n N m))) ∧ ∃ f, h' = aH h 4 2 5 (max ko (m + 1)) f ∧ kO h' n N (max ko (m + 1))) := by
    intro f hf x2
    have hc : (aH h 4 2 5 ko f).1 4 2 = nI ko := aH_cnt (by decide)
    refine ev_aload_n dX2_powerOrderOf_27 rfl ?_
    refine ev_aload_n dX2_powerOrderOf_28 rfl ?_
    refine ev_getIv (hc) fl_X2_47 rfl rfl dX2_powerOrderOf_29 ?_
    refine ev_iload_n dX2_powerOrderOf_32 rfl ?_
    refine ev_iconst (nI 1) dX2_powerOrderOf_33 rfl ?_
    refine ev_iaddN dX2_powerOrderOf_34 ?_
    refine ev_maxN ml_X2_59 (Nat.le_of_ble_eq_true rfl) dX2_powerOrderOf_35 (by omega) (by omega) ?_
    refine ev_putI fp_X2_47 rfl rfl rfl rfl dX2_powerOrderOf_38 ?_
    rw [aH_put (by decide)]
    refine ev_aload_n dX2_powerOrderOf_41 rfl ?_
    refine ev_getR fl_X2_17 rfl rfl dX2_powerOrderOf_42 ?_
    refine ev_iload_n dX2_powerOrderOf_45 rfl ?_
    refine ev_ialdv ((show _ = nI (ord n N m) by rw [aH_arr]; exact hf m (by omega))) rfl dX2_powerOrderOf_46 (by omega) (by omega) ?_
    refine ev_iret dX2_powerOrderOf_47 rfl ?_
    refine ⟨rfl, f, rfl, by omega, aH_cnt (by decide), fun j hj => ?_⟩
    rw [aH_arr]; exact hf j hj
  have loop : ∀ (k c : Nat) (f : Nat → Int32), c + k = m + 1 → ko ≤ c → (∀ j, j < c → f j = nI (ord n N j)) → Ev G (d + 2) M_X2_powerOrderOf 5 [some (.ref 4), some (.int (nI m)), some (.int (nI c))] [] (aH h 4 2 5 ko f) (fun rv h' => rv = some (.int (nI (ord n N m))) ∧ ∃ f, h' = aH h 4 2 5 (max ko (m + 1)) f ∧ kO h' n N (max ko (m + 1))) := by
    intro k
    induction k with
    | zero =>
      intro c f hc hkc hf
      refine ev_iload_n dX2_powerOrderOf_5 rfl ?_
      refine ev_iload_n dX2_powerOrderOf_6 rfl ?_
      refine ev_icmp_gtN 27 dX2_powerOrderOf_7 (by decide) (by omega) (by omega) (fun c7 => ?_) (fun c7 => ?_)
      · exact fin f (fun j hj => hf j (by omega)) _
      · omega
    | succ k ih =>
      intro c f hc hkc hf
      have g2 : gC (aH h 4 2 5 ko f) n N := ⟨by rw [aH_k (by decide) (by decide)]; exact g.1, g.2⟩
      refine ev_iload_n dX2_powerOrderOf_5 rfl ?_
      refine ev_iload_n dX2_powerOrderOf_6 rfl ?_
      refine ev_icmp_gtN 27 dX2_powerOrderOf_7 (by decide) (by omega) (by omega) (fun c7 => ?_) (fun c7 => ?_)
      · omega
      · refine ev_aload_n dX2_powerOrderOf_10 rfl ?_
        refine ev_getR fl_X2_17 rfl rfl dX2_powerOrderOf_11 ?_
        refine ev_iload_n dX2_powerOrderOf_14 rfl ?_
        refine ev_aload_n dX2_powerOrderOf_15 rfl ?_
        refine ev_iload_n dX2_powerOrderOf_16 rfl ?_
        refine ev_callV (cl_orderFromLowerCodes g2 ok (by omega) (fun j hj => by rw [aH_arr]; exact hf j hj)) ok_X2_orderFromLowerCodes ml_X2_55 rfl rfl rfl rfl (Nat.le_of_ble_eq_true rfl) dX2_powerOrderOf_17 (kI ?_)
        refine ev_iastN rfl dX2_powerOrderOf_20 (by omega) (by omega) ?_
        rw [aH_set]
        refine ev_inc2N dX2_powerOrderOf_21 (by decide) rfl ?_
        refine ev_goto 5 dX2_powerOrderOf_24 (by decide) ?_
        exact ih (c + 1) _ (by omega) (by omega) (fun j hj => by
        by_cases e : j = c
        · subst e; exact pk_us
        · rw [pk_un e]; exact hf j (by omega))
  have hself : h = aH h 4 2 5 ko (h.1 5) := (aH_self (by decide) hk1).symm
  by_cases c : ko ≤ m + 1
  · skip
    refine ev_start 1 (lv := [some (.ref 4), some (.int (nI m)), none]) rfl (by decide) (Nat.le_of_ble_eq_true rfl) ?_
    refine ev_aload_n dX2_powerOrderOf_0 rfl ?_
    refine ev_getIv (hk1) fl_X2_47 rfl rfl dX2_powerOrderOf_1 ?_
    refine ev_ist2 dX2_powerOrderOf_4 (by decide) rfl ?_
    refine ev_heap hself ?_
    exact loop (m + 1 - ko) ko _ (by omega) (Nat.le_refl _) hk2
  · skip
    refine ev_start 1 (lv := [some (.ref 4), some (.int (nI m)), none]) rfl (by decide) (Nat.le_of_ble_eq_true rfl) ?_
    refine ev_aload_n dX2_powerOrderOf_0 rfl ?_
    refine ev_getIv (hk1) fl_X2_47 rfl rfl dX2_powerOrderOf_1 ?_
    refine ev_ist2 dX2_powerOrderOf_4 (by decide) rfl ?_
    refine ev_iload_n dX2_powerOrderOf_5 rfl ?_
    refine ev_iload_n dX2_powerOrderOf_6 rfl ?_
    refine ev_icmp_gtN 27 dX2_powerOrderOf_7 (by decide) (by omega) (by omega) (fun c7 => ?_) (fun c7 => ?_)
    · refine ev_heap hself ?_
      exact fin _ (fun j hj => hk2 j (by omega)) _
    · omega
/-! the reference's orders -/
theorem cl_findPowerOrder {n N m : Nat} (g : gM h n N) (ok : gOK n N) (hm : m < 4 ^ n) (ht : ∀ j, j < m → h.1 72 j = nI (ord n N j)) : Cl G (d + 1) M_X12_findPowerOrder [.ref 67, .int (nI m)] h (qI (nI (ord n N m)) h) := by
  have hn := ok.2.1
  have h4 := four_n hn
  -- what has been seen: all pairs below (u, v)
  have eS : ∀ v : Nat, 1 * 2 ^ (2 * v) = 4 ^ v := fun v => by rw [Nat.one_mul, pow4]
  have pS : ∀ v : Nat, v < 7 → 4 ^ v < 2 ^ 32 := fun v hv => Nat.lt_of_lt_of_le (Nat.pow_lt_pow_right (a := 4) (by decide) hv) (by decide)
  have outer : ∀ (k u b : Nat), u + k = n → b ≤ 11 → (∀ j, j ≤ b ↔ (j = 0 ∨ ∃ i x y, j = i + 1 ∧ x < u ∧ x < y ∧ y < n ∧ (nb N x).testBit y = true ∧ 0 < ex m x ∧ 0 < ex m y ∧ i ≤ ord n N (m - 4 ^ x - 4 ^ y))) → ∀ x4 x5 : Option Value, Ev G (d + 1) M_X12_findPowerOrder 4 [some (.ref 67), some (.int (nI m)), some (.int (nI b)), some (.int (nI u)), x4, x5] [] h (qI (nI (ord n N m)) h) := by
    intro k
    induction k with
    | zero =>
      intro u b hu hb hj x4 x5
      obtain rfl : u = n := by omega
      have hbo : b = ord u N m := by
        refine ord_eq ok (fun j => ?_)
        rw [hj j]
        cases j with
        | zero => exact ⟨fun _ => can_0 _ _ _, fun _ => Or.inl rfl⟩
        | succ j =>
          rw [can_any ok]
          constructor
          · rintro (q | ⟨i, x, y, e, a1, a2, a3, a4, a5, a6, a7⟩)
            · exact absurd q (by omega)
            · obtain rfl : j = i := by omega
              exact ⟨x, y, a2, a3, a4, a5, a6, (ord_iff ok _).mp a7⟩
          · rintro ⟨x, y, a2, a3, a4, a5, a6, a7⟩
            exact Or.inr ⟨j, x, y, rfl, by omega, a2, a3, a4, a5, a6, (ord_iff ok _).mpr a7⟩
      subst hbo
      refine ev_iload_n dX12_findPowerOrder_4 rfl ?_
      refine ev_aload_n dX12_findPowerOrder_5 rfl ?_
      refine ev_getIv (g.1) fl_X12_9 rfl rfl dX12_findPowerOrder_6 ?_
      refine ev_icmp_geN 101 dX12_findPowerOrder_9 (by decide) (by omega) (by omega) (fun c9 => ?_) (fun c9 => ?_)
      · refine ev_iload_n dX12_findPowerOrder_101 rfl ?_
        refine ev_iret dX12_findPowerOrder_102 rfl ?_
        exact ⟨by with_reducible rfl, rfl⟩
      · omega
    | succ k ih =>
      intro u b hu hb hj x4 x5
      have inner : ∀ (l v b : Nat), v + l = n → u < v → b ≤ 11 → (∀ j, j ≤ b ↔ (j = 0 ∨ ∃ i x y, j = i + 1 ∧ (x < u ∨ (x = u ∧ y < v)) ∧ x < y ∧ y < n ∧ (nb N x).testBit y = true ∧ 0 < ex m x ∧ 0 < ex m y ∧ i ≤ ord n N (m - 4 ^ x - 4 ^ y))) → ∀ x5 : Option Value, Ev G (d + 1) M_X12_findPowerOrder 17 [some (.ref 67), some (.int (nI m)), some (.int (nI b)), some (.int (nI u)), some (.int (nI v)), x5] [] h (qI (nI (ord n N m)) h) := by
        intro l
        induction l with
        | zero =>
          intro v b hv huv hb hj x5
          obtain rfl : v = n := by omega
          refine ev_iload dX12_findPowerOrder_17 rfl ?_
          refine ev_aload_n dX12_findPowerOrder_19 rfl ?_
          refine ev_getIv (g.1) fl_X12_9 rfl rfl dX12_findPowerOrder_20 ?_
          refine ev_icmp_geN 95 dX12_findPowerOrder_23 (by decide) (by omega) (by omega) (fun c23 => ?_) (fun c23 => ?_)
          · refine ev_inc3N dX12_findPowerOrder_95 (by decide) rfl ?_
            refine ev_goto 4 dX12_findPowerOrder_98 (by decide) ?_
            refine ih (u + 1) b (by omega) hb (fun j => ?_) _ _
            rw [hj j]
            constructor
            · rintro (q | ⟨i, x, y, e, a1, a2⟩)
              · exact Or.inl q
              · exact Or.inr ⟨i, x, y, e, by omega, a2⟩
            · rintro (q | ⟨i, x, y, e, a1, a2, a3, a4⟩)
              · exact Or.inl q
              · exact Or.inr ⟨i, x, y, e, by omega, a2, a3, a4⟩
          · omega
        | succ l ihl =>
          intro v b hv huv hb hj x5
          have r1 := b01_lt ((nb N u).testBit v = true)
          have x1 := ex_lt m u
          have x2 := ex_lt m v
          have skp : ¬ ((nb N u).testBit v = true ∧ 0 < ex m u ∧ 0 < ex m v) → ∀ x5 : Option Value, Ev G (d + 1) M_X12_findPowerOrder 17 [some (.ref 67), some (.int (nI m)), some (.int (nI b)), some (.int (nI u)), some (.int (nI (v + 1))), x5] [] h (qI (nI (ord n N m)) h) := by
            intro q x5
            refine ihl (v + 1) b (by omega) (by omega) hb (fun j => ?_) x5
            rw [hj j]
            constructor
            · rintro (q | ⟨i, x, y, e, a1, a2⟩)
              · exact Or.inl q
              · exact Or.inr ⟨i, x, y, e, by omega, a2⟩
            · rintro (q' | ⟨i, x, y, e, a1, a2, a3, a4, a5, a6, a7⟩)
              · exact Or.inl q'
              · by_cases c : x = u ∧ y = v
                · obtain ⟨rfl, rfl⟩ := c; exact absurd ⟨a4, a5, a6⟩ q
                · exact Or.inr ⟨i, x, y, e, by omega, a2, a3, a4, a5, a6, a7⟩
          have tak : (nb N u).testBit v = true → 0 < ex m u → 0 < ex m v → ∀ b2, b2 = max b (1 + ord n N (m - 4 ^ u - 4 ^ v)) → ∀ x5 : Option Value, Ev G (d + 1) M_X12_findPowerOrder 17 [some (.ref 67), some (.int (nI m)), some (.int (nI b2)), some (.int (nI u)), some (.int (nI (v + 1))), x5] [] h (qI (nI (ord n N m)) h) := by
            intro q1 q2 q3 b2 hb2 x5
            have ob := ord_le ok (m := m - 4 ^ u - 4 ^ v)
            refine ihl (v + 1) b2 (by omega) (by omega) (by omega) (fun j => ?_) x5
            constructor
            · intro hjb
              by_cases c : j ≤ b
              · rcases (hj j).mp c with q | ⟨i, x, y, e, a1, a2⟩
                · exact Or.inl q
                · exact Or.inr ⟨i, x, y, e, by omega, a2⟩
              · exact Or.inr ⟨j - 1, u, v, by omega, by omega, huv, by omega, q1, q2, q3, by omega⟩
            · rintro (q' | ⟨i, x, y, e, a1, a2, a3, a4, a5, a6, a7⟩)
              · omega
              · by_cases c : x = u ∧ y = v
                · obtain ⟨rfl, rfl⟩ := c; omega
                · have := (hj j).mpr (Or.inr ⟨i, x, y, e, by omega, a2, a3, a4, a5, a6, a7⟩)
                  omega
          refine ev_iload dX12_findPowerOrder_17 rfl ?_
          refine ev_aload_n dX12_findPowerOrder_19 rfl ?_
          refine ev_getIv (g.1) fl_X12_9 rfl rfl dX12_findPowerOrder_20 ?_
          refine ev_icmp_geN 95 dX12_findPowerOrder_23 (by decide) (by omega) (by omega) (fun c23 => ?_) (fun c23 => ?_)
          · omega
          · refine ev_aload_n dX12_findPowerOrder_26 rfl ?_
            refine ev_iload_n dX12_findPowerOrder_27 rfl ?_
            refine ev_iload dX12_findPowerOrder_28 rfl ?_
            refine ev_callV (cl_isEdge g (by omega) (by omega)) ok_X12_isEdge ml_X12_95 rfl rfl rfl rfl (Nat.le_of_ble_eq_true rfl) dX12_findPowerOrder_30 (kI ?_)
            refine ev_if_eqN 89 dX12_findPowerOrder_33 (by decide) (by omega) (fun c33 => ?_) (fun c33 => ?_)
            · refine ev_inc4N dX12_findPowerOrder_89 (by decide) rfl ?_
              refine ev_goto 17 dX12_findPowerOrder_92 (by decide) ?_
              exact skp (fun q => b01_0.mp c33 q.1) _
            · refine ev_iload_n dX12_findPowerOrder_36 rfl ?_
              refine ev_iload_n dX12_findPowerOrder_37 rfl ?_
              refine ev_callS (cl_exponentOfM (by omega) (by omega)) ok_X12_exponentOf ml_X12_128 rfl rfl (Nat.le_of_ble_eq_true rfl) dX12_findPowerOrder_38 (kI ?_)
              refine ev_if_leN 89 dX12_findPowerOrder_41 (by decide) (by omega) (fun c41 => ?_) (fun c41 => ?_)
              · refine ev_inc4N dX12_findPowerOrder_89 (by decide) rfl ?_
                refine ev_goto 17 dX12_findPowerOrder_92 (by decide) ?_
                exact skp (fun q => absurd q.2.1 (by omega)) _
              · refine ev_iload_n dX12_findPowerOrder_44 rfl ?_
                refine ev_iload dX12_findPowerOrder_45 rfl ?_
                refine ev_callS (cl_exponentOfM (by omega) (by omega)) ok_X12_exponentOf ml_X12_128 rfl rfl (Nat.le_of_ble_eq_true rfl) dX12_findPowerOrder_47 (kI ?_)
                refine ev_if_leN 89 dX12_findPowerOrder_50 (by decide) (by omega) (fun c50 => ?_) (fun c50 => ?_)
                · refine ev_inc4N dX12_findPowerOrder_89 (by decide) rfl ?_
                  refine ev_goto 17 dX12_findPowerOrder_92 (by decide) ?_
                  exact skp (fun q => absurd q.2.2 (by omega)) _
                · have s1 := ex_le_sub (show 0 < ex m u by omega)
                  have s2 : 4 ^ v ≤ m - 4 ^ u := ex_le_sub (by rw [ex_sub (show 0 < ex m u by omega), if_neg (by omega)]; omega)
                  have p1 := pS u (by omega)
                  have p2 := pS v (by omega)
                  have z1 : 0 < 4 ^ u := Nat.pow_pos (by decide)
                  have z2 : 0 < 4 ^ v := Nat.pow_pos (by decide)
                  have hv72 : h.1 72 (m - 4 ^ u - 4 ^ v) = nI (ord n N (m - 4 ^ u - 4 ^ v)) := ht _ (by omega)
                  have ob := ord_le ok (m := m - 4 ^ u - 4 ^ v)
                  refine ev_iconst (nI 1) dX12_findPowerOrder_53 rfl ?_
                  refine ev_aload_n dX12_findPowerOrder_54 rfl ?_
                  refine ev_getR fl_X12_32 rfl rfl dX12_findPowerOrder_55 ?_
                  refine ev_iload_n dX12_findPowerOrder_58 rfl ?_
                  refine ev_iconst (nI 1) dX12_findPowerOrder_59 rfl ?_
                  refine ev_iconst (nI 2) dX12_findPowerOrder_60 rfl ?_
                  refine ev_iload_n dX12_findPowerOrder_61 rfl ?_
                  refine ev_imulN dX12_findPowerOrder_62 ?_
                  refine ev_ishlN dX12_findPowerOrder_63 (by omega) (by rw [eS]; exact p1) ?_
                  rw [eS]
                  refine ev_isubN dX12_findPowerOrder_64 (by omega) ?_
                  refine ev_iconst (nI 1) dX12_findPowerOrder_65 rfl ?_
                  refine ev_iconst (nI 2) dX12_findPowerOrder_66 rfl ?_
                  refine ev_iload dX12_findPowerOrder_67 rfl ?_
                  refine ev_imulN dX12_findPowerOrder_69 ?_
                  refine ev_ishlN dX12_findPowerOrder_70 (by omega) (by rw [eS]; exact p2) ?_
                  rw [eS]
                  refine ev_isubN dX12_findPowerOrder_71 (by omega) ?_
                  refine ev_ialdv (hv72) rfl dX12_findPowerOrder_72 (by omega) (by omega) ?_
                  refine ev_iaddN dX12_findPowerOrder_73 ?_
                  refine ev_ist5 dX12_findPowerOrder_74 (by decide) rfl ?_
                  refine ev_iload dX12_findPowerOrder_76 rfl ?_
                  refine ev_iload_n dX12_findPowerOrder_78 rfl ?_
                  refine ev_icmp_leN 87 dX12_findPowerOrder_79 (by decide) (by omega) (by omega) (fun c79 => ?_) (fun c79 => ?_)
                  · refine ev_iload_n dX12_findPowerOrder_87 rfl ?_
                    refine ev_ist2 dX12_findPowerOrder_88 (by decide) rfl ?_
                    refine ev_inc4N dX12_findPowerOrder_89 (by decide) rfl ?_
                    refine ev_goto 17 dX12_findPowerOrder_92 (by decide) ?_
                    exact tak (b01_1.mp (by omega)) (by omega) (by omega) _ (by omega) _
                  · refine ev_iload dX12_findPowerOrder_82 rfl ?_
                    refine ev_goto 88 dX12_findPowerOrder_84 (by decide) ?_
                    refine ev_ist2 dX12_findPowerOrder_88 (by decide) rfl ?_
                    refine ev_inc4N dX12_findPowerOrder_89 (by decide) rfl ?_
                    refine ev_goto 17 dX12_findPowerOrder_92 (by decide) ?_
                    exact tak (b01_1.mp (by omega)) (by omega) (by omega) _ (by omega) _
      refine ev_iload_n dX12_findPowerOrder_4 rfl ?_
      refine ev_aload_n dX12_findPowerOrder_5 rfl ?_
      refine ev_getIv (g.1) fl_X12_9 rfl rfl dX12_findPowerOrder_6 ?_
      refine ev_icmp_geN 101 dX12_findPowerOrder_9 (by decide) (by omega) (by omega) (fun c9 => ?_) (fun c9 => ?_)
      · omega
      · refine ev_iload_n dX12_findPowerOrder_12 rfl ?_
        refine ev_iconst (nI 1) dX12_findPowerOrder_13 rfl ?_
        refine ev_iaddN dX12_findPowerOrder_14 ?_
        refine ev_ist4 dX12_findPowerOrder_15 (by decide) rfl ?_
        refine inner (n - (u + 1)) (u + 1) b (by omega) (by omega) hb (fun j => ?_) _
        rw [hj j]
        constructor
        · rintro (q | ⟨i, x, y, e, a1, a2⟩)
          · exact Or.inl q
          · exact Or.inr ⟨i, x, y, e, Or.inl a1, a2⟩
        · rintro (q | ⟨i, x, y, e, a1, a2, a3, a4⟩)
          · exact Or.inl q
          · exact Or.inr ⟨i, x, y, e, by omega, a2, a3, a4⟩
  refine ev_start 4 (lv := [some (.ref 67), some (.int (nI m)), none, none, none, none]) rfl (by decide) (Nat.le_of_ble_eq_true rfl) ?_
  refine ev_iconst (nI 0) dX12_findPowerOrder_0 rfl ?_
  refine ev_ist2 dX12_findPowerOrder_1 (by decide) rfl ?_
  refine ev_iconst (nI 0) dX12_findPowerOrder_2 rfl ?_
  refine ev_ist3 dX12_findPowerOrder_3 (by decide) rfl ?_
  refine outer n 0 0 (by omega) (by omega) (fun j => ?_) _ _
  constructor
  · intro q; exact Or.inl (by omega)
  · rintro (q | ⟨i, x, y, e, a1, a2⟩)
    · omega
    · exact absurd a1 (by omega)
end ORD2
