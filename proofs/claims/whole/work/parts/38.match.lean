section MATCH
variable {G : MG} {h : MH}
/-- the code with exponent 1 at each vertex of the set -/
def sq (S : Nat) : Nat := mk S &&& 5461
theorem ex_sq {S v : Nat} (hS : S < 128) (hv : v < 7) : ex (sq S) v = if S.testBit v = true then 1 else 0 := by
  unfold sq
  rw [ex_and, ex_5461 hv, (mk_ok S hS).2 v hv]
  split <;> rfl
theorem sq_sub : ∀ S, S < 128 → ∀ v, v < 7 → S.testBit v = true → sq (andn S (2 ^ v)) = sq S - 4 ^ v := by decide +kernel
theorem sq_all : ∀ n, n < 8 → 5461 &&& (4 ^ n - 1) = sq (2 ^ n - 1) := by decide +kernel
theorem sq_0 : sq 0 = 0 := by decide +kernel
theorem pow_and (x u : Nat) : x &&& 2 ^ u = 0 ↔ x.testBit u = false := by
  constructor
  · intro e
    have := congrArg (fun z => Nat.testBit z u) e
    simp only [Nat.testBit_and, Nat.testBit_two_pow_self, Nat.zero_testBit, Bool.and_true] at this
    exact this
  · intro e
    apply Nat.eq_of_testBit_eq
    intro i
    rw [Nat.testBit_and, Nat.testBit_two_pow, Nat.zero_testBit]
    by_cases c : u = i
    · subst c; rw [e]; rfl
    · simp [c]
theorem pop_andn : ∀ R, R < 128 → ∀ v, v < 7 → pop (andn R (2 ^ v)) ≤ pop R := by decide +kernel
theorem low_bit {S n : Nat} (hS : S < 2 ^ n) (hz : ∀ w, w < n → S.testBit w = false) : S = 0 := by
  apply Nat.eq_of_testBit_eq
  intro i
  rw [Nat.zero_testBit]
  by_cases hi : i < n
  · exact hz i hi
  · exact Nat.testBit_lt_two_pow (Nat.lt_of_lt_of_le hS (Nat.pow_le_pow_right (by decide) (by omega)))
theorem cl_matchingWithin {n N : Nat} (g : gM h n N) (ok : gOK n N) (d : Nat) : ∀ (p S : Nat), pop S ≤ p → S < 2 ^ n → Cl G (d + p) M_X12_matchingWithin [.ref 67, .int (nI S)] h (qI (nI (ord n N (sq S))) h) := by
  have hn := ok.2.1
  have t2 := two_n hn
  have pw : ∀ v, v < 7 → 1 * 2 ^ v < 2 ^ 32 := fun v hv => by rw [Nat.one_mul]; exact Nat.pow_lt_pow_right (by decide) (by omega)
  intro p
  induction p with
  | zero =>
    intro S hp hS
    have e : S = 0 := pop_0 S (by omega) (by omega)
    subst e
    rw [sq_0, ord_0 ok]
    refine ev_start 5 (lv := [some (.ref 67), some (.int (nI 0)), none, none, none, none, none]) rfl (by decide) (Nat.le_of_ble_eq_true rfl) ?_
    refine ev_iload_n dX12_matchingWithin_0 rfl ?_
    refine ev_if_neN 6 dX12_matchingWithin_1 (by decide) (by omega) (fun c1 => ?_) (fun c1 => ?_)
    · exact absurd rfl c1
    · refine ev_iconst (nI 0) dX12_matchingWithin_4 rfl ?_
      refine ev_iret dX12_matchingWithin_5 rfl ?_
      exact ⟨by with_reducible rfl, rfl⟩
  | succ p ihp =>
    intro S hp hS
    by_cases hz : S = 0
    · subst hz
      rw [sq_0, ord_0 ok]
      refine ev_start 5 (lv := [some (.ref 67), some (.int (nI 0)), none, none, none, none, none]) rfl (by decide) (Nat.le_of_ble_eq_true rfl) ?_
      refine ev_iload_n dX12_matchingWithin_0 rfl ?_
      refine ev_if_neN 6 dX12_matchingWithin_1 (by decide) (by omega) (fun c1 => ?_) (fun c1 => ?_)
      · exact absurd rfl c1
      · refine ev_iconst (nI 0) dX12_matchingWithin_4 rfl ?_
        refine ev_iret dX12_matchingWithin_5 rfl ?_
        exact ⟨by with_reducible rfl, rfl⟩
    · have main : ∀ v, v < n → S.testBit v = true → (∀ w, w < v → S.testBit w = false) → ∀ x3 x4 x5 x6 : Option Value, Ev G (d + p + 1) M_X12_matchingWithin 22 [some (.ref 67), some (.int (nI S)), some (.int (nI v)), x3, x4, x5, x6] [] h (qI (nI (ord n N (sq S))) h) := by
        intro v hv hb hlow x3 x4 x5 x6
        have eS : ex (sq S) v = 1 := by rw [ex_sq (by omega) (by omega), if_pos hb]
        have eR : sq (andn S (2 ^ v)) = sq S - 4 ^ v := sq_sub S (by omega) v (by omega) hb
        have hR : andn S (2 ^ v) < 2 ^ n := andn_lt hS
        have pR : pop (andn S (2 ^ v)) ≤ p := by have := pop_rm S (by omega) v (by omega) hb; omega
        have lowS : ∀ w, w < v → ex (sq S) w = 0 := fun w hw => by rw [ex_sq (by omega) (by omega), if_neg (by rw [hlow w hw]; decide)]
        generalize hRR : andn S (2 ^ v) = R at *
        have o1 := ord_le ok (m := sq R)
        have loop : ∀ (k u b : Nat), u + k = n → b ≤ 11 → (∀ j, j ≤ b ↔ (j ≤ ord n N (sq R) ∨ ∃ i x, j = i + 1 ∧ x < u ∧ (R &&& nb N v).testBit x = true ∧ i ≤ ord n N (sq (andn R (2 ^ x))))) → ∀ x6 : Option Value, Ev G (d + p + 1) M_X12_matchingWithin 40 [some (.ref 67), some (.int (nI S)), some (.int (nI v)), some (.int (nI R)), some (.int (nI b)), some (.int (nI u)), x6] [] h (qI (nI (ord n N (sq S))) h) := by
          intro k
          induction k with
          | zero =>
            intro u b hu hb2 hj x6
            obtain rfl : u = n := by omega
            have hbo : b = ord u N (sq S) := by
              refine ord_eq ok (fun j => ?_)
              rw [hj j, can_low ok hv (by omega) lowS, ord_iff ok, eR]
              refine or_congr_right ⟨?_, ?_⟩
              · rintro ⟨i, x, e, a1, a2, a3⟩
                rw [Nat.testBit_and, Bool.and_eq_true] at a2
                have hx7 : x < 7 := by omega
                have ec := sq_sub R (by omega) x hx7 a2.1
                rw [ec, eR] at a3
                have hne := (ok.2.2.2 v x (by omega) hx7 a2.2).2.2.1
                have hgt : v < x := by
                  apply Nat.lt_of_not_le
                  intro z
                  have q1 := a2.1
                  rw [← hRR, andn_bit, hlow x (by omega)] at q1
                  simp at q1
                refine ⟨i, x, e, hgt, a1, a2.2, ?_, (ord_iff ok _).mp a3⟩
                rw [← eR, ex_sq (by omega) hx7, if_pos a2.1]; decide
              · rintro ⟨i, x, e, a1, a2, a3, a4, a5⟩
                have hx7 : x < 7 := by omega
                rw [← eR, ex_sq (by omega) hx7] at a4
                have hx : R.testBit x = true := by
                  cases q : R.testBit x with
                  | true => rfl
                  | false => rw [q] at a4; simp at a4
                refine ⟨i, x, e, a2, by rw [Nat.testBit_and, hx, a3]; rfl, ?_⟩
                rw [sq_sub R (by omega) x hx7 hx, eR]
                exact (ord_iff ok _).mpr a5
            subst hbo
            refine ev_iload dX12_matchingWithin_40 rfl ?_
            refine ev_aload_n dX12_matchingWithin_42 rfl ?_
            refine ev_getIv (g.1) fl_X12_9 rfl rfl dX12_matchingWithin_43 ?_
            refine ev_icmp_geN 103 dX12_matchingWithin_46 (by decide) (by omega) (by omega) (fun c46 => ?_) (fun c46 => ?_)
            · refine ev_iload dX12_matchingWithin_103 rfl ?_
              refine ev_iret dX12_matchingWithin_105 rfl ?_
              exact ⟨by with_reducible rfl, rfl⟩
            · omega
          | succ k ih =>
            intro u b hu hb2 hj x6
            have pu : pop (andn R (2 ^ u)) ≤ p := Nat.le_trans (pop_andn _ (by omega) u (by omega)) pR
            have ob := ord_le ok (m := sq (andn R (2 ^ u)))
            have skp : (R &&& nb N v).testBit u = false → ∀ x6 : Option Value, Ev G (d + p + 1) M_X12_matchingWithin 40 [some (.ref 67), some (.int (nI S)), some (.int (nI v)), some (.int (nI R)), some (.int (nI b)), some (.int (nI (u + 1))), x6] [] h (qI (nI (ord n N (sq S))) h) := by
              intro q x6
              refine ih (u + 1) b (by omega) hb2 (fun j => ?_) x6
              rw [hj j]
              refine or_congr_right ⟨?_, ?_⟩
              · rintro ⟨i, x, e, a1, a2⟩; exact ⟨i, x, e, by omega, a2⟩
              · rintro ⟨i, x, e, a1, a2, a3⟩
                by_cases c : x = u
                · subst c; rw [q] at a2; cases a2
                · exact ⟨i, x, e, by omega, a2, a3⟩
            have tak : (R &&& nb N v).testBit u = true → ∀ b2, b2 = max b (1 + ord n N (sq (andn R (2 ^ u)))) → ∀ x6 : Option Value, Ev G (d + p + 1) M_X12_matchingWithin 40 [some (.ref 67), some (.int (nI S)), some (.int (nI v)), some (.int (nI R)), some (.int (nI b2)), some (.int (nI (u + 1))), x6] [] h (qI (nI (ord n N (sq S))) h) := by
              intro q b2 hb3 x6
              refine ih (u + 1) b2 (by omega) (by omega) (fun j => ?_) x6
              constructor
              · intro hjb
                by_cases c : j ≤ b
                · rcases (hj j).mp c with q | ⟨i, x, e, a1, a2⟩
                  · exact Or.inl q
                  · exact Or.inr ⟨i, x, e, by omega, a2⟩
                · exact Or.inr ⟨j - 1, u, by omega, by omega, q, by omega⟩
              · rintro (q' | ⟨i, x, e, a1, a2, a3⟩)
                · have := (hj j).mpr (Or.inl q'); omega
                · by_cases c : x = u
                  · subst c; omega
                  · have := (hj j).mpr (Or.inr ⟨i, x, e, by omega, a2, a3⟩); omega
            refine ev_iload dX12_matchingWithin_40 rfl ?_
            refine ev_aload_n dX12_matchingWithin_42 rfl ?_
            refine ev_getIv (g.1) fl_X12_9 rfl rfl dX12_matchingWithin_43 ?_
            refine ev_icmp_geN 103 dX12_matchingWithin_46 (by decide) (by omega) (by omega) (fun c46 => ?_) (fun c46 => ?_)
            · omega
            · refine ev_iload_n dX12_matchingWithin_49 rfl ?_
              refine ev_aload_n dX12_matchingWithin_50 rfl ?_
              refine ev_getR fl_X12_15 rfl rfl dX12_matchingWithin_51 ?_
              refine ev_iload_n dX12_matchingWithin_54 rfl ?_
              refine ev_ialdv (g.2 v (by omega)) rfl dX12_matchingWithin_55 (by omega) (by omega) ?_
              refine ev_iandN dX12_matchingWithin_56 ?_
              refine ev_iconst (nI 1) dX12_matchingWithin_57 rfl ?_
              refine ev_iload dX12_matchingWithin_58 rfl ?_
              refine ev_ishlN dX12_matchingWithin_60 (by omega) (pw u (by omega)) ?_
              refine ev_iandN dX12_matchingWithin_61 ?_
              rw [Nat.one_mul]
              have al : R &&& nb N v &&& 2 ^ u < 128 := and_lt (and_lt (by omega))
              refine ev_if_eqN 97 dX12_matchingWithin_62 (by decide) (by omega) (fun c62 => ?_) (fun c62 => ?_)
              · refine ev_inc5N dX12_matchingWithin_97 (by decide) rfl ?_
                refine ev_goto 40 dX12_matchingWithin_100 (by decide) ?_
                exact skp ((pow_and _ _).mp c62) _
              · refine ev_iconst (nI 1) dX12_matchingWithin_65 rfl ?_
                refine ev_aload_n dX12_matchingWithin_66 rfl ?_
                refine ev_iload_n dX12_matchingWithin_67 rfl ?_
                refine ev_iconst (nI 1) dX12_matchingWithin_68 rfl ?_
                refine ev_iload dX12_matchingWithin_69 rfl ?_
                refine ev_ishlN dX12_matchingWithin_71 (by omega) (pw u (by omega)) ?_
                refine ev_iconst (-1) dX12_matchingWithin_72 rfl ?_
                refine ev_ixor dX12_matchingWithin_73 ?_
                refine ev_iandC dX12_matchingWithin_74 ?_
                rw [Nat.one_mul]
                refine ev_callV (ihp _ pu (andn_lt hR)) ok_X12_matchingWithin ml_X12_119 rfl rfl rfl rfl (Nat.le_of_ble_eq_true rfl) dX12_matchingWithin_75 (kI ?_)
                refine ev_iaddN dX12_matchingWithin_78 ?_
                refine ev_ist6 dX12_matchingWithin_79 (by decide) rfl ?_
                refine ev_iload dX12_matchingWithin_81 rfl ?_
                refine ev_iload dX12_matchingWithin_83 rfl ?_
                refine ev_icmp_leN 93 dX12_matchingWithin_85 (by decide) (by omega) (by omega) (fun c85 => ?_) (fun c85 => ?_)
                · refine ev_iload dX12_matchingWithin_93 rfl ?_
                  refine ev_ist4 dX12_matchingWithin_95 (by decide) rfl ?_
                  refine ev_inc5N dX12_matchingWithin_97 (by decide) rfl ?_
                  refine ev_goto 40 dX12_matchingWithin_100 (by decide) ?_
                  exact tak (by cases q : (R &&& nb N v).testBit u with
                  | true => rfl
                  | false => exact absurd ((pow_and _ _).mpr q) c62) _ (by omega) _
                · refine ev_iload dX12_matchingWithin_88 rfl ?_
                  refine ev_goto 95 dX12_matchingWithin_90 (by decide) ?_
                  refine ev_ist4 dX12_matchingWithin_95 (by decide) rfl ?_
                  refine ev_inc5N dX12_matchingWithin_97 (by decide) rfl ?_
                  refine ev_goto 40 dX12_matchingWithin_100 (by decide) ?_
                  exact tak (by cases q : (R &&& nb N v).testBit u with
                  | true => rfl
                  | false => exact absurd ((pow_and _ _).mpr q) c62) _ (by omega) _
        refine ev_iload_n dX12_matchingWithin_22 rfl ?_
        refine ev_iconst (nI 1) dX12_matchingWithin_23 rfl ?_
        refine ev_iload_n dX12_matchingWithin_24 rfl ?_
        refine ev_ishlN dX12_matchingWithin_25 (by omega) (pw v (by omega)) ?_
        refine ev_iconst (-1) dX12_matchingWithin_26 rfl ?_
        refine ev_ixor dX12_matchingWithin_27 ?_
        refine ev_iandC dX12_matchingWithin_28 ?_
        rw [Nat.one_mul, hRR]
        refine ev_ist3 dX12_matchingWithin_29 (by decide) rfl ?_
        refine ev_aload_n dX12_matchingWithin_30 rfl ?_
        refine ev_iload_n dX12_matchingWithin_31 rfl ?_
        refine ev_callV (ihp R pR hR) ok_X12_matchingWithin ml_X12_119 rfl rfl rfl rfl (Nat.le_of_ble_eq_true rfl) dX12_matchingWithin_32 (kI ?_)
        refine ev_ist4 dX12_matchingWithin_35 (by decide) rfl ?_
        refine ev_iconst (nI 0) dX12_matchingWithin_37 rfl ?_
        refine ev_ist5 dX12_matchingWithin_38 (by decide) rfl ?_
        exact loop n 0 _ (by omega) (by omega) (fun j => ⟨fun z => Or.inl z, fun z => z.elim id (fun ⟨_, _, _, a, _⟩ => absurd a (by omega))⟩) _
      have find : ∀ (k v : Nat), v + k = n → (∀ w, w < v → S.testBit w = false) → Ev G (d + p + 1) M_X12_matchingWithin 8 [some (.ref 67), some (.int (nI S)), some (.int (nI v)), none, none, none, none] [] h (qI (nI (ord n N (sq S))) h) := by
        intro k
        induction k with
        | zero =>
          intro v hv hlow
          exact absurd (low_bit hS (fun w hw => hlow w (by omega))) hz
        | succ k ih =>
          intro v hv hlow
          have l1 := tb_lt1 S v
          refine ev_iload_n dX12_matchingWithin_8 rfl ?_
          refine ev_iload_n dX12_matchingWithin_9 rfl ?_
          refine ev_ishrN dX12_matchingWithin_10 (by omega) (by omega) ?_
          refine ev_iconst (nI 1) dX12_matchingWithin_11 rfl ?_
          refine ev_iandN dX12_matchingWithin_12 ?_
          refine ev_if_neN 22 dX12_matchingWithin_13 (by decide) (by omega) (fun c13 => ?_) (fun c13 => ?_)
          · exact main v (by omega) ((tb_n0 S v).mp c13) hlow _ _ _ _
          · refine ev_inc2N dX12_matchingWithin_16 (by decide) rfl ?_
            refine ev_goto 8 dX12_matchingWithin_19 (by decide) ?_
            refine ih (v + 1) (by omega) (fun w hw => ?_)
            by_cases e : w = v
            · subst e; exact (tb_0 S w).mp (by omega)
            · exact hlow w (by omega)
      refine ev_start 5 (lv := [some (.ref 67), some (.int (nI S)), none, none, none, none, none]) rfl (by decide) (Nat.le_of_ble_eq_true rfl) ?_
      refine ev_iload_n dX12_matchingWithin_0 rfl ?_
      refine ev_if_neN 6 dX12_matchingWithin_1 (by decide) (by omega) (fun c1 => ?_) (fun c1 => ?_)
      · refine ev_iconst (nI 0) dX12_matchingWithin_6 rfl ?_
        refine ev_ist2 dX12_matchingWithin_7 (by decide) rfl ?_
        exact find n 0 (by omega) (fun w hw => absurd hw (by omega))
      · omega
theorem cl_matchingNumberM {n N d : Nat} (g : gM h n N) (ok : gOK n N) : Cl G (d + 8) M_X12_matchingNumber [.ref 67] h (qI (nI (ord n N (sq (2 ^ n - 1)))) h) := by
  have hn := ok.2.1
  have t2 := two_n hn
  have tp := two_pos n
  refine ev_start 0 (lv := [some (.ref 67)]) rfl (by decide) (Nat.le_of_ble_eq_true rfl) ?_
  refine ev_aload_n dX12_matchingNumber_0 rfl ?_
  refine ev_aload_n dX12_matchingNumber_1 rfl ?_
  refine ev_callV (cl_allVerticesM g hn) ok_X12_allVertices ml_X12_116 rfl rfl rfl rfl (Nat.le_of_ble_eq_true rfl) dX12_matchingNumber_2 (kI ?_)
  refine ev_callV (cl_matchingWithin g ok d 7 _ (pop_le _ (by omega)) (by omega)) ok_X12_matchingWithin ml_X12_119 rfl rfl rfl rfl (Nat.le_of_ble_eq_true rfl) dX12_matchingNumber_5 (kI ?_)
  refine ev_iret dX12_matchingNumber_8 rfl ?_
  exact ⟨by with_reducible rfl, rfl⟩
theorem cl_matchingNumberC {n N d : Nat} (g : gC h n N) (ok : gOK n N) (c : cI h n N) : Cl G (d + 3) M_X11_matchingNumber [.ref 0] h (fun rv h' => rv = some (.int (nI (ord n N (sq (2 ^ n - 1))))) ∧ iq n N h h' ∧ cI h' n N) := by
  have hn := ok.2.1
  have tp := four_pos n
  have hl : 5461 &&& (4 ^ n - 1) < 4 ^ n := Nat.lt_of_le_of_lt Nat.and_le_right (by omega)
  rw [← sq_all n (by omega)]
  refine ev_start 0 (lv := [some (.ref 0)]) rfl (by decide) (Nat.le_of_ble_eq_true rfl) ?_
  refine ev_aload_n dX11_matchingNumber_0 rfl ?_
  refine ev_getR fl_X11_23 rfl rfl dX11_matchingNumber_1 ?_
  refine ev_sipush (nI 5461) dX11_matchingNumber_4 rfl ?_
  refine ev_aload_n dX11_matchingNumber_7 rfl ?_
  refine ev_getR fl_X11_14 rfl rfl dX11_matchingNumber_8 ?_
  refine ev_callV (cl_greatestCode g hn) ok_X1_greatestCode ml_X11_137 rfl rfl rfl rfl (Nat.le_of_ble_eq_true rfl) dX11_matchingNumber_11 (kI ?_)
  refine ev_iandN dX11_matchingNumber_14 ?_
  refine ev_callV (cl_po g ok c hl) ok_X2_powerOrderOf ml_X11_140 rfl rfl rfl rfl (Nat.le_of_ble_eq_true rfl) dX11_matchingNumber_15 ?_
  rintro rv h1 ⟨rfl, sm, sj, c1, ko, k1, k2, k3⟩
  refine ev_iret dX11_matchingNumber_18 rfl ?_
  exact ⟨rfl, ⟨sm.mono (fun k hk => by omega), fun ko0 q => ⟨ko, k3 ko0 q, k2⟩⟩, c1⟩
end MATCH
