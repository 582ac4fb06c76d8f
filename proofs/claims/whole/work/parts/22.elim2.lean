section ELIM2
variable {G : MG} {d : Nat} {h : MH}
theorem cl_isAdjacentIn {n N c E u v : Nat} (g : gM h n N) (ok : gOK n N) (hE : cE n N c E) (hc : c = 0 ∨ c = 1) (hu : u < n) (hv : v < n) : Cl G (d + 1) M_X12_isAdjacentIn [.ref 67, .int (nI c), .int (nI u), .int (nI v)] h (qI (nI (b01 ((nb E u).testBit v = true))) h) := by
  have hn := ok.2.1
  have he := hE.2 u v (by omega) (by omega)
  have q1 := b01_lt ((nb N u).testBit v = true)
  refine ev_start 0 (lv := [some (.ref 67), some (.int (nI c)), some (.int (nI u)), some (.int (nI v))]) rfl (by decide) (Nat.le_of_ble_eq_true rfl) ?_
  refine ev_iload_n dX12_isAdjacentIn_0 rfl ?_
  refine ev_iload_n dX12_isAdjacentIn_1 rfl ?_
  refine ev_icmp_eqN 28 dX12_isAdjacentIn_2 (by decide) (by omega) (by omega) (fun c2 => ?_) (fun c2 => ?_)
  · refine ev_iconst (nI 0) dX12_isAdjacentIn_28 rfl ?_
    refine ev_zret dX12_isAdjacentIn_29 rfl rfl ?_
    exact ⟨by rw [b01_f (fun q => (he.mp q).2.2.1 c2)], rfl⟩
  · refine ev_aload_n dX12_isAdjacentIn_5 rfl ?_
    refine ev_iload_n dX12_isAdjacentIn_6 rfl ?_
    refine ev_iload_n dX12_isAdjacentIn_7 rfl ?_
    refine ev_callV (cl_isEdge g (by omega) (by omega)) ok_X12_isEdge ml_X12_95 rfl rfl rfl rfl (Nat.le_of_ble_eq_true rfl) dX12_isAdjacentIn_8 (kI ?_)
    refine ev_iload_n dX12_isAdjacentIn_11 rfl ?_
    refine ev_iconst (nI 1) dX12_isAdjacentIn_12 rfl ?_
    refine ev_icmp_neN 20 dX12_isAdjacentIn_13 (by decide) (by omega) (by omega) (fun c13 => ?_) (fun c13 => ?_)
    · refine ev_iconst (nI 0) dX12_isAdjacentIn_20 rfl ?_
      refine ev_icmp_eqN 28 dX12_isAdjacentIn_21 (by decide) (by omega) (by omega) (fun c21 => ?_) (fun c21 => ?_)
      · refine ev_iconst (nI 0) dX12_isAdjacentIn_28 rfl ?_
        refine ev_zret dX12_isAdjacentIn_29 rfl rfl ?_
        exact ⟨by rw [b01_f (fun q => by have := ((he.mp q).2.2.2).mpr c13; rw [b01_t this] at c21; cases c21)], rfl⟩
      · refine ev_iconst (nI 1) dX12_isAdjacentIn_24 rfl ?_
        refine ev_goto 29 dX12_isAdjacentIn_25 (by decide) ?_
        refine ev_zret dX12_isAdjacentIn_29 rfl rfl ?_
        exact ⟨by rw [b01_t (he.mpr ⟨hu, hv, c2, by simp [c13]; exact b01_1.mp (by omega)⟩)], rfl⟩
    · refine ev_iconst (nI 1) dX12_isAdjacentIn_16 rfl ?_
      refine ev_goto 21 dX12_isAdjacentIn_17 (by decide) ?_
      refine ev_icmp_eqN 28 dX12_isAdjacentIn_21 (by decide) (by omega) (by omega) (fun c21 => ?_) (fun c21 => ?_)
      · refine ev_iconst (nI 0) dX12_isAdjacentIn_28 rfl ?_
        refine ev_zret dX12_isAdjacentIn_29 rfl rfl ?_
        exact ⟨by rw [b01_f (fun q => ((he.mp q).2.2.2).mp (b01_1.mp c21) c13)], rfl⟩
      · refine ev_iconst (nI 1) dX12_isAdjacentIn_24 rfl ?_
        refine ev_goto 29 dX12_isAdjacentIn_25 (by decide) ?_
        refine ev_zret dX12_isAdjacentIn_29 rfl rfl ?_
        exact ⟨by rw [b01_t (he.mpr ⟨hu, hv, c2, by simp [c13]; have := b01_0.mp (show b01 ((nb N u).testBit v = true) = 0 by omega); simpa using this⟩)], rfl⟩
theorem Clq_iff {n E R v : Nat} (ok : gOK n E) (hv : v < n) : (∀ a b, a < b → b < n → R.testBit a = true → R.testBit b = true → (nb E v).testBit a = true → (nb E v).testBit b = true → (nb E a).testBit b = true) ↔ Clq n E (nb E v &&& R) := by
  have hn := ok.2.1
  have hS : nb E v &&& R < 128 := and_lt (nb_lt E v)
  constructor
  · intro q w hw hb
    rw [Nat.testBit_and, Bool.and_eq_true] at hb
    refine set_ext (k := 7) (andn_lt hS) (pow_lt (by omega)) (fun i hi => ?_)
    rw [andn_bit, pow_bit, Nat.testBit_and]
    by_cases e : w = i
    · subst e
      rw [hb.1, hb.2, ok.irr (by omega)]; simp
    · cases h1 : (nb E v).testBit i with
      | false => simp [e]
      | true =>
        cases h2 : R.testBit i with
        | false => simp [e]
        | true =>
          have hin := (ok.2.2.2 v i (by omega) hi h1).2.1
          have : (nb E w).testBit i = true := by
            rcases Nat.lt_or_gt_of_ne e with c | c
            · exact q w i c hin hb.2 h2 hb.1 h1
            · rw [ok.sym (by omega) hi]; exact q i w c hw h2 hb.2 h1 hb.1
          rw [this]; simp [e]
  · intro q a b hab hb ra rb va vb
    have h1 := q a (by omega) (by rw [Nat.testBit_and, va, ra]; rfl)
    have h2 : (andn (nb E v &&& R) (nb E a)).testBit b = (2 ^ a).testBit b := by rw [h1]
    rw [andn_bit, Nat.testBit_and, vb, rb, pow_bit] at h2
    cases h3 : (nb E a).testBit b with
    | true => rfl
    | false => rw [h3] at h2; simp at h2; omega
theorem cl_isSimplicial {n N c E R v : Nat} (g : gM h n N) (ok : gOK n N) (hE : cE n N c E) (hc : c = 0 ∨ c = 1) (hR : R < 128) (hv : v < n) : Cl G (d + 2) M_X12_isSimplicial [.ref 67, .int (nI c), .int (nI R), .int (nI v)] h (qI (nI (b01 (Clq n E (nb E v &&& R)))) h) := by
  have hn := ok.2.1
  rw [← b01_c (Clq_iff (cE_ok ok hE) hv)]
  generalize hPP : (∀ a b, a < b → b < n → R.testBit a = true → R.testBit b = true → (nb E v).testBit a = true → (nb E v).testBit b = true → (nb E a).testBit b = true) = PP
  have outer : ∀ (k a : Nat), a + k = n → (∀ a' b, a' < a → a' < b → b < n → R.testBit a' = true → R.testBit b = true → (nb E v).testBit a' = true → (nb E v).testBit b = true → (nb E a').testBit b = true) → ∀ x5 x6 : Option Value, Ev G (d + 2) M_X12_isSimplicial 3 [some (.ref 67), some (.int (nI c)), some (.int (nI R)), some (.int (nI v)), some (.int (nI a)), x5, x6] [] h (qI (nI (b01 PP)) h) := by
    intro k
    induction k with
    | zero =>
      intro a ha hw x5 x6
      obtain rfl : a = n := by omega
      refine ev_iload dX12_isSimplicial_3 rfl ?_
      refine ev_aload_n dX12_isSimplicial_5 rfl ?_
      refine ev_getIv (g.1) fl_X12_9 rfl rfl dX12_isSimplicial_6 ?_
      refine ev_icmp_geN 102 dX12_isSimplicial_9 (by decide) (by omega) (by omega) (fun c9 => ?_) (fun c9 => ?_)
      · refine ev_iconst (nI 1) dX12_isSimplicial_102 rfl ?_
        refine ev_zret dX12_isSimplicial_103 rfl rfl ?_
        rw [b01_t (show PP by rw [← hPP]; exact fun x y h1 h2 => hw x y (by omega) h1 h2)]; exact ⟨by with_reducible rfl, rfl⟩
      · omega
    | succ k ih =>
      intro a ha hw x5 x6
      have inner : ∀ (j b : Nat), b + j = n → a < b → (∀ b', a < b' → b' < b → R.testBit a = true → R.testBit b' = true → (nb E v).testBit a = true → (nb E v).testBit b' = true → (nb E a).testBit b' = true) → ∀ x6 : Option Value, Ev G (d + 2) M_X12_isSimplicial 18 [some (.ref 67), some (.int (nI c)), some (.int (nI R)), some (.int (nI v)), some (.int (nI a)), some (.int (nI b)), x6] [] h (qI (nI (b01 PP)) h) := by
        intro j
        induction j with
        | zero =>
          intro b hb hab hi x6
          obtain rfl : b = n := by omega
          refine ev_iload dX12_isSimplicial_18 rfl ?_
          refine ev_aload_n dX12_isSimplicial_20 rfl ?_
          refine ev_getIv (g.1) fl_X12_9 rfl rfl dX12_isSimplicial_21 ?_
          refine ev_icmp_geN 96 dX12_isSimplicial_24 (by decide) (by omega) (by omega) (fun c24 => ?_) (fun c24 => ?_)
          · refine ev_inc4N dX12_isSimplicial_96 (by decide) rfl ?_
            refine ev_goto 3 dX12_isSimplicial_99 (by decide) ?_
            exact ih (a + 1) (by omega) (fun a' b' h1 h2 h3 => by
            by_cases e : a' = a
            · subst e; exact hi b' h2 h3
            · exact hw a' b' (by omega) h2 h3) _ _
          · omega
        | succ j ihj =>
          intro b hb hab hi x6
          have r1 := b01_lt ((nb E v).testBit a = true)
          have r2 := b01_lt ((nb E v).testBit b = true)
          have r3 := b01_lt ((nb E a).testBit b = true)
          have rb : (R / 2 ^ a &&& R / 2 ^ b &&& 1) < 2 := by rw [nat_and1]; exact Nat.mod_lt _ (by decide)
          have rr : (R / 2 ^ a &&& R / 2 ^ b &&& 1) = 1 ↔ R.testBit a = true ∧ R.testBit b = true := by
            rw [← tb_iff, ← tb_iff, nat_and1, nat_and1, nat_and1]
            have := Nat.and_mod_two_pow (a := R / 2 ^ a) (b := R / 2 ^ b) (n := 1)
            rw [show (2 : Nat) ^ 1 = 2 from rfl] at this
            rw [this]
            have m1 : R / 2 ^ a % 2 < 2 := Nat.mod_lt _ (by decide)
            have m2 : R / 2 ^ b % 2 < 2 := Nat.mod_lt _ (by decide)
            generalize R / 2 ^ a % 2 = p at m1 ⊢
            generalize R / 2 ^ b % 2 = q at m2 ⊢
            rcases (show p = 0 ∨ p = 1 by omega) with rfl | rfl <;> rcases (show q = 0 ∨ q = 1 by omega) with rfl | rfl <;> decide
          have nx : (R.testBit a = true → R.testBit b = true → (nb E v).testBit a = true → (nb E v).testBit b = true → (nb E a).testBit b = true) → ∀ x6 : Option Value, Ev G (d + 2) M_X12_isSimplicial 18 [some (.ref 67), some (.int (nI c)), some (.int (nI R)), some (.int (nI v)), some (.int (nI a)), some (.int (nI (b + 1))), x6] [] h (qI (nI (b01 PP)) h) := fun q x6 => ihj (b + 1) (by omega) (by omega) (fun b' h1 h2 => by
              by_cases e : b' = b
              · subst e; exact q
              · exact hi b' h1 (by omega)) x6
          have l1 : R / 2 ^ a ≤ R := Nat.div_le_self _ _
          refine ev_iload dX12_isSimplicial_18 rfl ?_
          refine ev_aload_n dX12_isSimplicial_20 rfl ?_
          refine ev_getIv (g.1) fl_X12_9 rfl rfl dX12_isSimplicial_21 ?_
          refine ev_icmp_geN 96 dX12_isSimplicial_24 (by decide) (by omega) (by omega) (fun c24 => ?_) (fun c24 => ?_)
          · omega
          · refine ev_iload_n dX12_isSimplicial_27 rfl ?_
            refine ev_iload dX12_isSimplicial_28 rfl ?_
            refine ev_ishrN dX12_isSimplicial_30 (by omega) (by omega) ?_
            refine ev_iload_n dX12_isSimplicial_31 rfl ?_
            refine ev_iload dX12_isSimplicial_32 rfl ?_
            refine ev_ishrN dX12_isSimplicial_34 (by omega) (by omega) ?_
            refine ev_iandN dX12_isSimplicial_35 ?_
            refine ev_iconst (nI 1) dX12_isSimplicial_36 rfl ?_
            refine ev_iandN dX12_isSimplicial_37 ?_
            refine ev_iconst (nI 1) dX12_isSimplicial_38 rfl ?_
            refine ev_icmp_neN 68 dX12_isSimplicial_39 (by decide) (by omega) (by omega) (fun c39 => ?_) (fun c39 => ?_)
            · refine ev_iconst (nI 0) dX12_isSimplicial_68 rfl ?_
              refine ev_ist6 dX12_isSimplicial_69 (by decide) rfl ?_
              refine ev_iload dX12_isSimplicial_71 rfl ?_
              refine ev_if_eqN 90 dX12_isSimplicial_73 (by decide) (by omega) (fun c73 => ?_) (fun c73 => ?_)
              · refine ev_inc5N dX12_isSimplicial_90 (by decide) rfl ?_
                refine ev_goto 18 dX12_isSimplicial_93 (by decide) ?_
                exact nx (fun p q => absurd (rr.mpr ⟨p, q⟩) c39) _
              · exact absurd rfl c73
            · refine ev_aload_n dX12_isSimplicial_42 rfl ?_
              refine ev_iload_n dX12_isSimplicial_43 rfl ?_
              refine ev_iload_n dX12_isSimplicial_44 rfl ?_
              refine ev_iload dX12_isSimplicial_45 rfl ?_
              refine ev_callV (cl_isAdjacentIn g ok hE hc hv (by omega)) ok_X12_isAdjacentIn ml_X12_147 rfl rfl rfl rfl (Nat.le_of_ble_eq_true rfl) dX12_isSimplicial_47 (kI ?_)
              refine ev_if_eqN 68 dX12_isSimplicial_50 (by decide) (by omega) (fun c50 => ?_) (fun c50 => ?_)
              · refine ev_iconst (nI 0) dX12_isSimplicial_68 rfl ?_
                refine ev_ist6 dX12_isSimplicial_69 (by decide) rfl ?_
                refine ev_iload dX12_isSimplicial_71 rfl ?_
                refine ev_if_eqN 90 dX12_isSimplicial_73 (by decide) (by omega) (fun c73 => ?_) (fun c73 => ?_)
                · refine ev_inc5N dX12_isSimplicial_90 (by decide) rfl ?_
                  refine ev_goto 18 dX12_isSimplicial_93 (by decide) ?_
                  exact nx (fun _ _ p => absurd p (b01_0.mp c50)) _
                · exact absurd rfl c73
              · refine ev_aload_n dX12_isSimplicial_53 rfl ?_
                refine ev_iload_n dX12_isSimplicial_54 rfl ?_
                refine ev_iload_n dX12_isSimplicial_55 rfl ?_
                refine ev_iload dX12_isSimplicial_56 rfl ?_
                refine ev_callV (cl_isAdjacentIn g ok hE hc hv (by omega)) ok_X12_isAdjacentIn ml_X12_147 rfl rfl rfl rfl (Nat.le_of_ble_eq_true rfl) dX12_isSimplicial_58 (kI ?_)
                refine ev_if_eqN 68 dX12_isSimplicial_61 (by decide) (by omega) (fun c61 => ?_) (fun c61 => ?_)
                · refine ev_iconst (nI 0) dX12_isSimplicial_68 rfl ?_
                  refine ev_ist6 dX12_isSimplicial_69 (by decide) rfl ?_
                  refine ev_iload dX12_isSimplicial_71 rfl ?_
                  refine ev_if_eqN 90 dX12_isSimplicial_73 (by decide) (by omega) (fun c73 => ?_) (fun c73 => ?_)
                  · refine ev_inc5N dX12_isSimplicial_90 (by decide) rfl ?_
                    refine ev_goto 18 dX12_isSimplicial_93 (by decide) ?_
                    exact nx (fun _ _ _ p => absurd p (b01_0.mp c61)) _
                  · exact absurd rfl c73
                · refine ev_iconst (nI 1) dX12_isSimplicial_64 rfl ?_
                  refine ev_goto 69 dX12_isSimplicial_65 (by decide) ?_
                  refine ev_ist6 dX12_isSimplicial_69 (by decide) rfl ?_
                  refine ev_iload dX12_isSimplicial_71 rfl ?_
                  refine ev_if_eqN 90 dX12_isSimplicial_73 (by decide) (by omega) (fun c73 => ?_) (fun c73 => ?_)
                  · exact absurd c73 (by decide)
                  · refine ev_aload_n dX12_isSimplicial_76 rfl ?_
                    refine ev_iload_n dX12_isSimplicial_77 rfl ?_
                    refine ev_iload dX12_isSimplicial_78 rfl ?_
                    refine ev_iload dX12_isSimplicial_80 rfl ?_
                    refine ev_callV (cl_isAdjacentIn g ok hE hc (by omega) (by omega)) ok_X12_isAdjacentIn ml_X12_147 rfl rfl rfl rfl (Nat.le_of_ble_eq_true rfl) dX12_isSimplicial_82 (kI ?_)
                    refine ev_if_neN 90 dX12_isSimplicial_85 (by decide) (by omega) (fun c85 => ?_) (fun c85 => ?_)
                    · refine ev_inc5N dX12_isSimplicial_90 (by decide) rfl ?_
                      refine ev_goto 18 dX12_isSimplicial_93 (by decide) ?_
                      exact nx (fun _ _ _ _ => b01_1.mp (by omega)) _
                    · refine ev_iconst (nI 0) dX12_isSimplicial_88 rfl ?_
                      refine ev_zret dX12_isSimplicial_89 rfl rfl ?_
                      have hz : ¬ PP := by
                        rw [← hPP]
                        intro q
                        have z := rr.mp c39
                        exact b01_0.mp c85 (q a b hab (by omega) z.1 z.2 (b01_1.mp (by omega)) (b01_1.mp (by omega)))
                      rw [b01_f hz]; exact ⟨by with_reducible rfl, rfl⟩
      refine ev_iload dX12_isSimplicial_3 rfl ?_
      refine ev_aload_n dX12_isSimplicial_5 rfl ?_
      refine ev_getIv (g.1) fl_X12_9 rfl rfl dX12_isSimplicial_6 ?_
      refine ev_icmp_geN 102 dX12_isSimplicial_9 (by decide) (by omega) (by omega) (fun c9 => ?_) (fun c9 => ?_)
      · omega
      · refine ev_iload dX12_isSimplicial_12 rfl ?_
        refine ev_iconst (nI 1) dX12_isSimplicial_14 rfl ?_
        refine ev_iaddN dX12_isSimplicial_15 ?_
        refine ev_ist5 dX12_isSimplicial_16 (by decide) rfl ?_
        exact inner (n - (a + 1)) (a + 1) (by omega) (by omega) (fun b' h1 h2 => absurd h1 (by omega)) _
  refine ev_start 3 (lv := [some (.ref 67), some (.int (nI c)), some (.int (nI R)), some (.int (nI v)), none, none, none]) rfl (by decide) (Nat.le_of_ble_eq_true rfl) ?_
  refine ev_iconst (nI 0) dX12_isSimplicial_0 rfl ?_
  refine ev_ist4 dX12_isSimplicial_1 (by decide) rfl ?_
  exact outer n 0 (by omega) (fun a' b h1 => absurd h1 (by omega)) _ _
theorem pop_rm : ∀ R, R < 128 → ∀ v, v < 7 → R.testBit v = true → pop (andn R (2 ^ v)) + 1 = pop R := by decide +kernel
theorem pop_0 : ∀ R, R < 128 → pop R = 0 → R = 0 := by decide +kernel
theorem pop_all : ∀ n, n < 8 → pop (2 ^ n - 1) = n := by decide +kernel
theorem cl_eliminate {n N c E : Nat} (g : gM h n N) (ok : gOK n N) (hE : cE n N c E) (hc : c = 0 ∨ c = 1) : Cl G (d + 3) M_X12_eliminate [.ref 67, .int (nI c)] h (fun rv h' => ∃ f, rv = none ∧ h' = aH h 67 11 74 (elL n E n (2 ^ n - 1)).length f ∧ hold f (elL n E n (2 ^ n - 1))) := by
  have hn := ok.2.1
  have hn1 := ok.1
  have t2 := two_n hn
  have t3 := two_pos n
  have outer : ∀ (k t : Nat) (L : List Nat) (R : Nat) (f : Nat → Int32) (x : Nat), t + k = n → L.length = t → R < 128 → pop R = k → x < n → L ++ elL n E k R = elL n E n (2 ^ n - 1) → hold f L → Ev G (d + 3) M_X12_eliminate 12 [some (.ref 67), some (.int (nI c)), some (.int (nI R)), some (.int (nI x))] [] (aH h 67 11 74 t f) (fun rv h' => ∃ f, rv = none ∧ h' = aH h 67 11 74 (elL n E n (2 ^ n - 1)).length f ∧ hold f (elL n E n (2 ^ n - 1))) := by
    intro k
    induction k with
    | zero =>
      intro t L R f x ht hL hR hp hx hel hf
      have g2 : gM (aH h 67 11 74 t f) n N := ⟨by rw [aH_j (by decide) (by decide)]; exact g.1, fun v hv => by rw [aH_k (by decide) (by decide)]; exact g.2 v hv⟩
      have hR0 := pop_0 R hR hp
      subst hR0
      have hel' : L = elL n E n (2 ^ n - 1) := by rw [← hel]; simp [elL]
      have inner : ∀ (j v : Nat), v + j = n → Ev G (d + 3) M_X12_eliminate 22 [some (.ref 67), some (.int (nI c)), some (.int (nI 0)), some (.int (nI v))] [] (aH h 67 11 74 t f) (fun rv h' => ∃ f, rv = none ∧ h' = aH h 67 11 74 (elL n E n (2 ^ n - 1)).length f ∧ hold f (elL n E n (2 ^ n - 1))) := by
        intro j
        induction j with
        | zero =>
          intro v hv
          obtain rfl : v = n := by omega
          refine ev_iload_n dX12_eliminate_22 rfl ?_
          refine ev_aload_n dX12_eliminate_23 rfl ?_
          refine ev_getIv (g2.1) fl_X12_9 rfl rfl dX12_eliminate_24 ?_
          refine ev_icmp_geN 54 dX12_eliminate_27 (by decide) (by omega) (by omega) (fun c27 => ?_) (fun c27 => ?_)
          · refine ev_iload_n dX12_eliminate_54 rfl ?_
            refine ev_aload_n dX12_eliminate_55 rfl ?_
            refine ev_getIv (g2.1) fl_X12_9 rfl rfl dX12_eliminate_56 ?_
            refine ev_icmp_geN 12 dX12_eliminate_59 (by decide) (by omega) (by omega) (fun c59 => ?_) (fun c59 => ?_)
            · refine ev_iload_n dX12_eliminate_12 rfl ?_
              refine ev_aload_n dX12_eliminate_13 rfl ?_
              refine ev_getIv (g2.1) fl_X12_9 rfl rfl dX12_eliminate_14 ?_
              refine ev_icmp_geN 93 dX12_eliminate_17 (by decide) (by omega) (by omega) (fun c17 => ?_) (fun c17 => ?_)
              · refine ev_ret dX12_eliminate_93 rfl ?_
                exact ⟨f, rfl, by rw [← hel', hL], by rw [← hel']; exact hf⟩
              · omega
            · omega
          · omega
        | succ j ihj =>
          intro v hv
          have z : 0 / 2 ^ v &&& 1 = 0 := by simp
          refine ev_iload_n dX12_eliminate_22 rfl ?_
          refine ev_aload_n dX12_eliminate_23 rfl ?_
          refine ev_getIv (g2.1) fl_X12_9 rfl rfl dX12_eliminate_24 ?_
          refine ev_icmp_geN 54 dX12_eliminate_27 (by decide) (by omega) (by omega) (fun c27 => ?_) (fun c27 => ?_)
          · omega
          · refine ev_iload_n dX12_eliminate_30 rfl ?_
            refine ev_iload_n dX12_eliminate_31 rfl ?_
            refine ev_ishrN dX12_eliminate_32 (by omega) (by omega) ?_
            refine ev_iconst (nI 1) dX12_eliminate_33 rfl ?_
            refine ev_iandN dX12_eliminate_34 ?_
            rw [z]
            refine ev_if_eqN 48 dX12_eliminate_35 (by decide) (by omega) (fun c35 => ?_) (fun c35 => ?_)
            · refine ev_inc3N dX12_eliminate_48 (by decide) rfl ?_
              refine ev_goto 22 dX12_eliminate_51 (by decide) ?_
              exact ihj (v + 1) (by omega)
            · exact absurd rfl c35
      refine ev_iload_n dX12_eliminate_12 rfl ?_
      refine ev_aload_n dX12_eliminate_13 rfl ?_
      refine ev_getIv (g2.1) fl_X12_9 rfl rfl dX12_eliminate_14 ?_
      refine ev_icmp_geN 93 dX12_eliminate_17 (by decide) (by omega) (by omega) (fun c17 => ?_) (fun c17 => ?_)
      · omega
      · refine ev_iconst (nI 0) dX12_eliminate_20 rfl ?_
        refine ev_ist3 dX12_eliminate_21 (by decide) rfl ?_
        exact inner n 0 (by omega)
    | succ k ih =>
      intro t L R f x ht hL hR hp hx hel hf
      have g2 : gM (aH h 67 11 74 t f) n N := ⟨by rw [aH_j (by decide) (by decide)]; exact g.1, fun v hv => by rw [aH_k (by decide) (by decide)]; exact g.2 v hv⟩
      have hcnt : (aH h 67 11 74 t f).1 67 11 = nI t := aH_cnt (by decide)
      have inner : ∀ (j v : Nat), v + j = n → srch (Spl n E R) j v = srch (Spl n E R) n 0 → Ev G (d + 3) M_X12_eliminate 22 [some (.ref 67), some (.int (nI c)), some (.int (nI R)), some (.int (nI v))] [] (aH h 67 11 74 t f) (fun rv h' => ∃ f, rv = none ∧ h' = aH h 67 11 74 (elL n E n (2 ^ n - 1)).length f ∧ hold f (elL n E n (2 ^ n - 1))) := by
        intro j
        induction j with
        | zero =>
          intro v hv hs
          obtain rfl : v = n := by omega
          have hel' : L = elL v E v (2 ^ v - 1) := by rw [← hel, elL, if_neg (by rw [← hs]; show ¬ v < v; omega), List.append_nil]
          refine ev_iload_n dX12_eliminate_22 rfl ?_
          refine ev_aload_n dX12_eliminate_23 rfl ?_
          refine ev_getIv (g2.1) fl_X12_9 rfl rfl dX12_eliminate_24 ?_
          refine ev_icmp_geN 54 dX12_eliminate_27 (by decide) (by omega) (by omega) (fun c27 => ?_) (fun c27 => ?_)
          · refine ev_iload_n dX12_eliminate_54 rfl ?_
            refine ev_aload_n dX12_eliminate_55 rfl ?_
            refine ev_getIv (g2.1) fl_X12_9 rfl rfl dX12_eliminate_56 ?_
            refine ev_icmp_geN 12 dX12_eliminate_59 (by decide) (by omega) (by omega) (fun c59 => ?_) (fun c59 => ?_)
            · refine ev_iload_n dX12_eliminate_12 rfl ?_
              refine ev_aload_n dX12_eliminate_13 rfl ?_
              refine ev_getIv (g2.1) fl_X12_9 rfl rfl dX12_eliminate_14 ?_
              refine ev_icmp_geN 93 dX12_eliminate_17 (by decide) (by omega) (by omega) (fun c17 => ?_) (fun c17 => ?_)
              · refine ev_ret dX12_eliminate_93 rfl ?_
                exact ⟨f, rfl, by rw [← hel', hL], by rw [← hel']; exact hf⟩
              · omega
            · omega
          · omega
        | succ j ihj =>
          intro v hv hs
          have t1 := tb_lt1 R v
          have e1 : 1 * 2 ^ v = 2 ^ v := Nat.one_mul _
          have p1 : 2 ^ v < 2 ^ 7 := pow_lt (by omega)
          have q1 := b01_lt (Clq n E (nb E v &&& R))
          have hcnt2 : (aH h 67 11 74 t (upd f t (nI v))).1 67 11 = nI t := aH_cnt (by decide)
          refine ev_iload_n dX12_eliminate_22 rfl ?_
          refine ev_aload_n dX12_eliminate_23 rfl ?_
          refine ev_getIv (g2.1) fl_X12_9 rfl rfl dX12_eliminate_24 ?_
          refine ev_icmp_geN 54 dX12_eliminate_27 (by decide) (by omega) (by omega) (fun c27 => ?_) (fun c27 => ?_)
          · omega
          · refine ev_iload_n dX12_eliminate_30 rfl ?_
            refine ev_iload_n dX12_eliminate_31 rfl ?_
            refine ev_ishrN dX12_eliminate_32 (by omega) (by omega) ?_
            refine ev_iconst (nI 1) dX12_eliminate_33 rfl ?_
            refine ev_iandN dX12_eliminate_34 ?_
            refine ev_if_eqN 48 dX12_eliminate_35 (by decide) (by omega) (fun c35 => ?_) (fun c35 => ?_)
            · refine ev_inc3N dX12_eliminate_48 (by decide) rfl ?_
              refine ev_goto 22 dX12_eliminate_51 (by decide) ?_
              rw [srch_f (fun q => by have := q.1; rw [(tb_0 _ _).mp c35] at this; cases this)] at hs
              exact ihj (v + 1) (by omega) hs
            · refine ev_aload_n dX12_eliminate_38 rfl ?_
              refine ev_iload_n dX12_eliminate_39 rfl ?_
              refine ev_iload_n dX12_eliminate_40 rfl ?_
              refine ev_iload_n dX12_eliminate_41 rfl ?_
              refine ev_callV (cl_isSimplicial g2 ok hE hc hR (by omega)) ok_X12_isSimplicial ml_X12_153 rfl rfl rfl rfl (Nat.le_of_ble_eq_true rfl) dX12_eliminate_42 (kI ?_)
              refine ev_if_neN 54 dX12_eliminate_45 (by decide) (by omega) (fun c45 => ?_) (fun c45 => ?_)
              · refine ev_iload_n dX12_eliminate_54 rfl ?_
                refine ev_aload_n dX12_eliminate_55 rfl ?_
                refine ev_getIv (g2.1) fl_X12_9 rfl rfl dX12_eliminate_56 ?_
                refine ev_icmp_geN 12 dX12_eliminate_59 (by decide) (by omega) (by omega) (fun c59 => ?_) (fun c59 => ?_)
                · omega
                · refine ev_iload_n dX12_eliminate_62 rfl ?_
                  refine ev_iconst (nI 1) dX12_eliminate_63 rfl ?_
                  refine ev_iload_n dX12_eliminate_64 rfl ?_
                  refine ev_ishlN dX12_eliminate_65 (by omega) (by omega) ?_
                  rw [e1]
                  refine ev_iconst (-1) dX12_eliminate_66 rfl ?_
                  refine ev_ixor dX12_eliminate_67 ?_
                  refine ev_iandC dX12_eliminate_68 ?_
                  refine ev_ist2 dX12_eliminate_69 (by decide) rfl ?_
                  refine ev_aload_n dX12_eliminate_70 rfl ?_
                  refine ev_getR fl_X12_38 rfl rfl dX12_eliminate_71 ?_
                  refine ev_aload_n dX12_eliminate_74 rfl ?_
                  refine ev_getIv (hcnt) fl_X12_150 rfl rfl dX12_eliminate_75 ?_
                  refine ev_iload_n dX12_eliminate_78 rfl ?_
                  refine ev_iastN rfl dX12_eliminate_79 (by omega) (by omega) ?_
                  rw [aH_set]
                  refine ev_aload_n dX12_eliminate_80 rfl ?_
                  refine ev_dup dX12_eliminate_81 rfl ?_
                  refine ev_getIv (hcnt2) fl_X12_150 rfl rfl dX12_eliminate_82 ?_
                  refine ev_iconst (nI 1) dX12_eliminate_85 rfl ?_
                  refine ev_iaddN dX12_eliminate_86 ?_
                  refine ev_putI fp_X12_150 rfl rfl rfl rfl dX12_eliminate_87 ?_
                  refine ev_goto 12 dX12_eliminate_90 (by decide) ?_
                  have hb := (tb_n0 _ _).mp c35
                  rw [srch_t (P := Spl n E R) ⟨hb, b01_1.mp (by omega)⟩] at hs
                  have hpr := pop_rm R hR v (by omega) hb
                  rw [aH_put (by decide)]
                  refine ih (t + 1) (L ++ [v]) _ _ _ (by omega) (by simp [hL]) (andn_lt hR) (by omega) (by omega) ?_ (by rw [← hL]; exact hold_snoc hf)
                  rw [← hel, elL, ← hs, if_pos (by omega), List.append_assoc]; rfl
              · refine ev_inc3N dX12_eliminate_48 (by decide) rfl ?_
                refine ev_goto 22 dX12_eliminate_51 (by decide) ?_
                rw [srch_f (fun q => b01_0.mp c45 q.2)] at hs
                exact ihj (v + 1) (by omega) hs
      refine ev_iload_n dX12_eliminate_12 rfl ?_
      refine ev_aload_n dX12_eliminate_13 rfl ?_
      refine ev_getIv (g2.1) fl_X12_9 rfl rfl dX12_eliminate_14 ?_
      refine ev_icmp_geN 93 dX12_eliminate_17 (by decide) (by omega) (by omega) (fun c17 => ?_) (fun c17 => ?_)
      · omega
      · refine ev_iconst (nI 0) dX12_eliminate_20 rfl ?_
        refine ev_ist3 dX12_eliminate_21 (by decide) rfl ?_
        exact inner n 0 (by omega) rfl
  have g1 : gM (m_put h 67 11 (nI 0)) n N := ⟨by rw [mp_j (by decide)]; exact g.1, fun v hv => by rw [mp_k (by decide)]; exact g.2 v hv⟩
  refine ev_start 2 (lv := [some (.ref 67), some (.int (nI c)), none, none]) rfl (by decide) (Nat.le_of_ble_eq_true rfl) ?_
  refine ev_aload_n dX12_eliminate_0 rfl ?_
  refine ev_iconst (nI 0) dX12_eliminate_1 rfl ?_
  refine ev_putI fp_X12_150 rfl rfl rfl rfl dX12_eliminate_2 ?_
  refine ev_aload_n dX12_eliminate_5 rfl ?_
  refine ev_callV (cl_allVerticesM g1 hn) ok_X12_allVertices ml_X12_116 rfl rfl rfl rfl (Nat.le_of_ble_eq_true rfl) dX12_eliminate_6 (kI ?_)
  refine ev_ist2 dX12_eliminate_9 (by decide) rfl ?_
  refine ev_iconst (nI 0) dX12_eliminate_10 rfl ?_
  refine ev_ist3 dX12_eliminate_11 (by decide) rfl ?_
  refine ev_heap (aH_put0 (by decide) : _ = aH h 67 11 74 0 (h.1 74)) ?_
  exact outer n 0 [] _ _ _ (by omega) rfl (by omega) (pop_all n (by omega)) (by omega) rfl (hold_nil _)
end ELIM2
