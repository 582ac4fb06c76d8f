section ELIM
variable {G : MG} {d : Nat} {h : MH}
/-- the first of v, v + 1 .. with P, or the end -/
noncomputable def srch (P : Nat → Prop) : Nat → Nat → Nat
  | 0, v => v
  | k + 1, v => @ite _ (P v) (Classical.propDecidable _) v (srch P k (v + 1))
theorem srch_t {P : Nat → Prop} {k v : Nat} (h : P v) : srch P (k + 1) v = v := if_pos h
theorem srch_f {P : Nat → Prop} {k v : Nat} (h : ¬ P v) : srch P (k + 1) v = srch P k (v + 1) := if_neg h
theorem srch_b (P : Nat → Prop) : ∀ k v, v ≤ srch P k v ∧ srch P k v ≤ v + k
  | 0, v => ⟨Nat.le_refl _, Nat.le_refl _⟩
  | k + 1, v => by
    by_cases h : P v
    · rw [srch_t h]; omega
    · rw [srch_f h]; have := srch_b P k (v + 1); omega
theorem srch_P {P : Nat → Prop} : ∀ k v, srch P k v < v + k → P (srch P k v)
  | 0, v, h => absurd h (by show ¬ v < v + 0; omega)
  | k + 1, v, h => by
    by_cases hp : P v
    · rw [srch_t hp]; exact hp
    · rw [srch_f hp] at h ⊢
      exact srch_P k (v + 1) (by omega)
theorem srch_c {P Q : Nat → Prop} : ∀ k v, (∀ w, v ≤ w → w < v + k → (P w ↔ Q w)) → srch P k v = srch Q k v
  | 0, v, _ => rfl
  | k + 1, v, h => by
    have h0 := h v (Nat.le_refl _) (by omega)
    by_cases hp : P v
    · rw [srch_t hp, srch_t (h0.mp hp)]
    · rw [srch_f hp, srch_f (fun q => hp (h0.mpr q))]
      exact srch_c k (v + 1) (fun w h1 h2 => h w (by omega) (by omega))
def Clq (n E S : Nat) : Prop := ∀ v, v < n → S.testBit v = true → andn S (nb E v) = 2 ^ v
def Spl (n E R v : Nat) : Prop := R.testBit v = true ∧ Clq n E (nb E v &&& R)
theorem cl_isClique {n N E S : Nat} (g : gC h n N) (hn : n ≤ 7) (hE : E < 2 ^ 49) (hS : S < 128) : Cl G (d + 1) M_X1_isClique [.ref 1, .long (lN E), .int (nI S)] h (qI (nI (b01 (Clq n E S))) h) := by
  have loop : ∀ (k v : Nat), v + k = n → (∀ w, w < v → S.testBit w = true → andn S (nb E w) = 2 ^ w) → Ev G (d + 1) M_X1_isClique 3 [some (.ref 1), some (.long (lN E)), none, some (.int (nI S)), some (.int (nI v))] [] h (qI (nI (b01 (Clq n E S))) h) := by
    intro k
    induction k with
    | zero =>
      intro v hv hw
      obtain rfl : v = n := by omega
      refine ev_iload dX1_isClique_3 rfl ?_
      refine ev_aload_n dX1_isClique_5 rfl ?_
      refine ev_getIv (g.1) fl_X1_9 rfl rfl dX1_isClique_6 ?_
      refine ev_icmp_geN 46 dX1_isClique_9 (by decide) (by omega) (by omega) (fun c9 => ?_) (fun c9 => ?_)
      · refine ev_iconst (nI 1) dX1_isClique_46 rfl ?_
        refine ev_zret dX1_isClique_47 rfl rfl ?_
        rw [b01_t (show Clq _ E S from hw)]; exact ⟨by with_reducible rfl, rfl⟩
      · omega
    | succ k ih =>
      intro v hv hw
      have t1 := tb_lt1 S v
      have e1 : 1 * 2 ^ v = 2 ^ v := Nat.one_mul _
      have p1 : 2 ^ v < 2 ^ 7 := pow_lt (by omega)
      have a1 : andn S (nb E v) < 128 := andn_lt hS
      refine ev_iload dX1_isClique_3 rfl ?_
      refine ev_aload_n dX1_isClique_5 rfl ?_
      refine ev_getIv (g.1) fl_X1_9 rfl rfl dX1_isClique_6 ?_
      refine ev_icmp_geN 46 dX1_isClique_9 (by decide) (by omega) (by omega) (fun c9 => ?_) (fun c9 => ?_)
      · omega
      · refine ev_iload_n dX1_isClique_12 rfl ?_
        refine ev_iload dX1_isClique_13 rfl ?_
        refine ev_ishrN dX1_isClique_15 (by omega) (by omega) ?_
        refine ev_iconst (nI 1) dX1_isClique_16 rfl ?_
        refine ev_iandN dX1_isClique_17 ?_
        refine ev_if_eqN 40 dX1_isClique_18 (by decide) (by omega) (fun c18 => ?_) (fun c18 => ?_)
        · refine ev_inc4N dX1_isClique_40 (by decide) rfl ?_
          refine ev_goto 3 dX1_isClique_43 (by decide) ?_
          exact ih (v + 1) (by omega) (fun w h1 h2 => by
          by_cases e : w = v
          · subst e; rw [(tb_0 _ _).mp c18] at h2; cases h2
          · exact hw w (by omega) h2)
        · refine ev_iload_n dX1_isClique_21 rfl ?_
          refine ev_lload_n dX1_isClique_22 rfl ?_
          refine ev_iload dX1_isClique_23 rfl ?_
          refine ev_callS (cl_neighborsIn hE (by omega)) ok_X1_neighborsIn ml_X1_58 rfl rfl (Nat.le_of_ble_eq_true rfl) dX1_isClique_25 (kI ?_)
          refine ev_iconst (-1) dX1_isClique_28 rfl ?_
          refine ev_ixor dX1_isClique_29 ?_
          refine ev_iandC dX1_isClique_30 ?_
          refine ev_iconst (nI 1) dX1_isClique_31 rfl ?_
          refine ev_iload dX1_isClique_32 rfl ?_
          refine ev_ishlN dX1_isClique_34 (by omega) (by omega) ?_
          rw [e1]
          refine ev_icmp_eqN 40 dX1_isClique_35 (by decide) (by omega) (by omega) (fun c35 => ?_) (fun c35 => ?_)
          · refine ev_inc4N dX1_isClique_40 (by decide) rfl ?_
            refine ev_goto 3 dX1_isClique_43 (by decide) ?_
            exact ih (v + 1) (by omega) (fun w h1 h2 => by
            by_cases e : w = v
            · subst e; exact c35
            · exact hw w (by omega) h2)
          · refine ev_iconst (nI 0) dX1_isClique_38 rfl ?_
            refine ev_zret dX1_isClique_39 rfl rfl ?_
            rw [b01_f (fun q => c35 (q v (by omega) ((tb_n0 _ _).mp c18)))]; exact ⟨by with_reducible rfl, rfl⟩
  refine ev_start 1 (lv := [some (.ref 1), some (.long (lN E)), none, some (.int (nI S)), none]) rfl (by decide) (Nat.le_of_ble_eq_true rfl) ?_
  refine ev_iconst (nI 0) dX1_isClique_0 rfl ?_
  refine ev_ist4 dX1_isClique_1 (by decide) rfl ?_
  exact loop n 0 (by omega) (fun w h1 => absurd h1 (by omega))
theorem cl_firstSimplicial {n N E R : Nat} (g : gC h n N) (hn : n ≤ 7) (hE : E < 2 ^ 49) (hR : R < 128) : Cl G (d + 2) M_X1_firstSimplicial [.ref 1, .long (lN E), .int (nI R)] h (qI (if srch (Spl n E R) n 0 < n then nI (srch (Spl n E R) n 0) else -2) h) := by
  have loop : ∀ (k v : Nat), v + k = n → Ev G (d + 2) M_X1_firstSimplicial 3 [some (.ref 1), some (.long (lN E)), none, some (.int (nI R)), some (.int (nI v))] [] h (qI (if srch (Spl n E R) k v < n then nI (srch (Spl n E R) k v) else -2) h) := by
    intro k
    induction k with
    | zero =>
      intro v hv
      obtain rfl : v = n := by omega
      refine ev_iload dX1_firstSimplicial_3 rfl ?_
      refine ev_aload_n dX1_firstSimplicial_5 rfl ?_
      refine ev_getIv (g.1) fl_X1_9 rfl rfl dX1_firstSimplicial_6 ?_
      refine ev_icmp_geN 46 dX1_firstSimplicial_9 (by decide) (by omega) (by omega) (fun c9 => ?_) (fun c9 => ?_)
      · refine ev_bipush (-2) dX1_firstSimplicial_46 rfl ?_
        refine ev_iret dX1_firstSimplicial_48 rfl ?_
        rw [if_neg (show ¬ srch (Spl v E R) 0 v < v by show ¬ v < v; omega)]; exact ⟨by with_reducible rfl, rfl⟩
      · omega
    | succ k ih =>
      intro v hv
      have t1 := tb_lt1 R v
      have a1 : nb E v &&& R < 128 := and_lt (nb_lt E v)
      have q1 := b01_lt (Clq n E (nb E v &&& R))
      refine ev_iload dX1_firstSimplicial_3 rfl ?_
      refine ev_aload_n dX1_firstSimplicial_5 rfl ?_
      refine ev_getIv (g.1) fl_X1_9 rfl rfl dX1_firstSimplicial_6 ?_
      refine ev_icmp_geN 46 dX1_firstSimplicial_9 (by decide) (by omega) (by omega) (fun c9 => ?_) (fun c9 => ?_)
      · omega
      · refine ev_iload_n dX1_firstSimplicial_12 rfl ?_
        refine ev_iload dX1_firstSimplicial_13 rfl ?_
        refine ev_ishrN dX1_firstSimplicial_15 (by omega) (by omega) ?_
        refine ev_iconst (nI 1) dX1_firstSimplicial_16 rfl ?_
        refine ev_iandN dX1_firstSimplicial_17 ?_
        refine ev_if_eqN 40 dX1_firstSimplicial_18 (by decide) (by omega) (fun c18 => ?_) (fun c18 => ?_)
        · refine ev_inc4N dX1_firstSimplicial_40 (by decide) rfl ?_
          refine ev_goto 3 dX1_firstSimplicial_43 (by decide) ?_
          rw [srch_f (fun q => by have := q.1; rw [(tb_0 _ _).mp c18] at this; cases this)]
          exact ih (v + 1) (by omega)
        · refine ev_aload_n dX1_firstSimplicial_21 rfl ?_
          refine ev_lload_n dX1_firstSimplicial_22 rfl ?_
          refine ev_lload_n dX1_firstSimplicial_23 rfl ?_
          refine ev_iload dX1_firstSimplicial_24 rfl ?_
          refine ev_callS (cl_neighborsIn hE (by omega)) ok_X1_neighborsIn ml_X1_58 rfl rfl (Nat.le_of_ble_eq_true rfl) dX1_firstSimplicial_26 (kI ?_)
          refine ev_iload_n dX1_firstSimplicial_29 rfl ?_
          refine ev_iandN dX1_firstSimplicial_30 ?_
          refine ev_callV (cl_isClique g hn hE a1) ok_X1_isClique ml_X1_79 rfl rfl rfl rfl (Nat.le_of_ble_eq_true rfl) dX1_firstSimplicial_31 (kI ?_)
          refine ev_if_eqN 40 dX1_firstSimplicial_34 (by decide) (by omega) (fun c34 => ?_) (fun c34 => ?_)
          · refine ev_inc4N dX1_firstSimplicial_40 (by decide) rfl ?_
            refine ev_goto 3 dX1_firstSimplicial_43 (by decide) ?_
            rw [srch_f (fun q => b01_0.mp c34 q.2)]
            exact ih (v + 1) (by omega)
          · refine ev_iload dX1_firstSimplicial_37 rfl ?_
            refine ev_iret dX1_firstSimplicial_39 rfl ?_
            rw [srch_t (P := Spl n E R) ⟨(tb_n0 _ _).mp c18, b01_1.mp (by omega)⟩, if_pos (by omega)]; exact ⟨by with_reducible rfl, rfl⟩
  refine ev_start 1 (lv := [some (.ref 1), some (.long (lN E)), none, some (.int (nI R)), none]) rfl (by decide) (Nat.le_of_ble_eq_true rfl) ?_
  refine ev_iconst (nI 0) dX1_firstSimplicial_0 rfl ?_
  refine ev_ist4 dX1_firstSimplicial_1 (by decide) rfl ?_
  exact loop n 0 (by omega)
/-- the vertices in the order of their removal -/
noncomputable def elL (n E : Nat) : Nat → Nat → List Nat
  | 0, _ => []
  | k + 1, R => if srch (Spl n E R) n 0 < n then srch (Spl n E R) n 0 :: elL n E k (andn R (2 ^ srch (Spl n E R) n 0)) else []
theorem elL_len (n E : Nat) : ∀ k R, (elL n E k R).length ≤ k
  | 0, _ => Nat.le_refl _
  | k + 1, R => by
    unfold elL
    split
    · have := elL_len n E k (andn R (2 ^ srch (Spl n E R) n 0)); simp; exact this
    · exact Nat.zero_le _
/-- the graph or its complement -/
def cE (n N c E : Nat) : Prop := MP E (fun u v => u < n ∧ v < n ∧ u ≠ v ∧ ((nb N u).testBit v = true ↔ c ≠ 1))
theorem cE_0 {n N : Nat} (ok : gOK n N) : cE n N 0 N := ⟨ok.2.2.1, fun u v hu hv => ⟨fun q => by obtain ⟨a, b, c, -⟩ := ok.2.2.2 u v hu hv q; exact ⟨a, b, c, by simp [q]⟩, fun q => q.2.2.2.mpr (by decide)⟩⟩
theorem cE_1 {n N X : Nat} (hX : MP X (PB n N 5)) : cE n N 1 X := MP_c hX (fun u v _ _ => by simp [PB, PK])
theorem cE_ok {n N c E : Nat} (ok : gOK n N) (hE : cE n N c E) : gOK n E := by
  refine ⟨ok.1, ok.2.1, hE.1, fun u v hu hv hb => ?_⟩
  obtain ⟨a, b, e, f⟩ := (hE.2 u v hu hv).mp hb
  exact ⟨a, b, e, (hE.2 v u hv hu).mpr ⟨b, a, Ne.symm e, by rw [ok.sym hv hu]; exact f⟩⟩
theorem cl_elimination {n N c : Nat} (g : gC h n N) (ok : gOK n N) (hc : c = 0 ∨ c = 1) : Cl G (d + 3) M_X1_elimination [.ref 1, .int (nI c)] h (fun rv h' => ∃ E f, cE n N c E ∧ rv = some (.ref 2) ∧ h' = aH h 2 1 3 (elL n E n (2 ^ n - 1)).length f ∧ hold f (elL n E n (2 ^ n - 1))) := by
  have hn := ok.2.1
  have t2 := two_n hn
  have t3 := two_pos n
  have main : ∀ E, cE n N c E → Ev G (d + 3) M_X1_elimination 17 [some (.ref 1), some (.int (nI c)), none, none, none, none, none] [.long (lN E)] h (fun rv h' => ∃ E f, cE n N c E ∧ rv = some (.ref 2) ∧ h' = aH h 2 1 3 (elL n E n (2 ^ n - 1)).length f ∧ hold f (elL n E n (2 ^ n - 1))) := by
    intro E hE
    have loop : ∀ (k t : Nat) (L : List Nat) (R : Nat) (f : Nat → Int32), t + k = n → L.length = t → R < 128 → L ++ elL n E k R = elL n E n (2 ^ n - 1) → hold f L → ∀ x6 : Option Value, Ev G (d + 3) M_X1_elimination 35 [some (.ref 1), some (.int (nI c)), some (.long (lN E)), none, some (.int (nI R)), some (.int (nI t)), x6] [] (aH h 2 1 3 t f) (fun rv h' => ∃ E f, cE n N c E ∧ rv = some (.ref 2) ∧ h' = aH h 2 1 3 (elL n E n (2 ^ n - 1)).length f ∧ hold f (elL n E n (2 ^ n - 1))) := by
      intro k
      induction k with
      | zero =>
        intro t L R f ht hL hR hel hf x6
        have g2 : gC (aH h 2 1 3 t f) n N := ⟨by rw [aH_k (by decide) (by decide)]; exact g.1, g.2⟩
        have hel' : L = elL n E n (2 ^ n - 1) := by rw [← hel]; simp [elL]
        refine ev_iload dX1_elimination_35 rfl ?_
        refine ev_aload_n dX1_elimination_37 rfl ?_
        refine ev_getIv (g2.1) fl_X1_9 rfl rfl dX1_elimination_38 ?_
        refine ev_icmp_geN 92 dX1_elimination_41 (by decide) (by omega) (by omega) (fun c41 => ?_) (fun c41 => ?_)
        · refine ev_aload_n dX1_elimination_92 rfl ?_
          refine ev_getR fl_X1_24 rfl rfl dX1_elimination_93 ?_
          refine ev_aret dX1_elimination_96 rfl ?_
          exact ⟨E, f, hE, rfl, by rw [← hel', hL], by rw [← hel']; exact hf⟩
        · omega
      | succ k ih =>
        intro t L R f ht hL hR hel hf x6
        have g2 : gC (aH h 2 1 3 t f) n N := ⟨by rw [aH_k (by decide) (by decide)]; exact g.1, g.2⟩
        have hs2 : (aH h 2 1 3 t f).1 2 1 = nI t := aH_cnt (by decide)
        by_cases hlt : srch (Spl n E R) n 0 < n
        · have e1 : 1 * 2 ^ srch (Spl n E R) n 0 = 2 ^ srch (Spl n E R) n 0 := Nat.one_mul _
          have p1 : 2 ^ srch (Spl n E R) n 0 < 2 ^ 7 := pow_lt (by omega)
          refine ev_iload dX1_elimination_35 rfl ?_
          refine ev_aload_n dX1_elimination_37 rfl ?_
          refine ev_getIv (g2.1) fl_X1_9 rfl rfl dX1_elimination_38 ?_
          refine ev_icmp_geN 92 dX1_elimination_41 (by decide) (by omega) (by omega) (fun c41 => ?_) (fun c41 => ?_)
          · omega
          · refine ev_aload_n dX1_elimination_44 rfl ?_
            refine ev_lload_n dX1_elimination_45 rfl ?_
            refine ev_iload dX1_elimination_46 rfl ?_
            refine ev_callV (cl_firstSimplicial g2 hn hE.1 hR) ok_X1_firstSimplicial ml_X1_73 rfl rfl rfl rfl (Nat.le_of_ble_eq_true rfl) dX1_elimination_48 (kI ?_)
            rw [if_pos hlt]
            refine ev_ist6 dX1_elimination_51 (by decide) rfl ?_
            refine ev_iload dX1_elimination_53 rfl ?_
            refine ev_bipush (-2) dX1_elimination_55 rfl ?_
            refine ev_icmp_ne 65 dX1_elimination_57 (by decide) (fun c57 => ?_) (fun c57 => ?_)
            · refine ev_aload_n dX1_elimination_65 rfl ?_
              refine ev_getR fl_X1_24 rfl rfl dX1_elimination_66 ?_
              refine ev_iload dX1_elimination_69 rfl ?_
              refine ev_callV (cl_add row_2 hs2 (by omega)) ok_X7_add ml_X1_76 rfl rfl rfl rfl (Nat.le_of_ble_eq_true rfl) dX1_elimination_71 (kI ?_)
              refine ev_pop dX1_elimination_74 rfl ?_
              refine ev_iload dX1_elimination_75 rfl ?_
              refine ev_iconst (nI 1) dX1_elimination_77 rfl ?_
              refine ev_iload dX1_elimination_78 rfl ?_
              refine ev_ishlN dX1_elimination_80 (by omega) (by omega) ?_
              rw [e1]
              refine ev_iconst (-1) dX1_elimination_81 rfl ?_
              refine ev_ixor dX1_elimination_82 ?_
              refine ev_iandC dX1_elimination_83 ?_
              refine ev_ist4 dX1_elimination_84 (by decide) rfl ?_
              refine ev_inc5N dX1_elimination_86 (by decide) rfl ?_
              refine ev_goto 35 dX1_elimination_89 (by decide) ?_
              rw [rowAdd_aH]
              refine ih (t + 1) (L ++ [srch (Spl n E R) n 0]) _ _ (by omega) (by simp [hL]) (andn_lt hR) ?_ (by rw [← hL]; exact hold_snoc hf) _
              rw [← hel, elL, if_pos hlt, List.append_assoc]; rfl
            · exact absurd c57 (fun z => by have := nI_pos (n := srch (Spl n E R) n 0) (by omega); rw [z] at this; exact this (by decide))
        · skip
          refine ev_iload dX1_elimination_35 rfl ?_
          refine ev_aload_n dX1_elimination_37 rfl ?_
          refine ev_getIv (g2.1) fl_X1_9 rfl rfl dX1_elimination_38 ?_
          refine ev_icmp_geN 92 dX1_elimination_41 (by decide) (by omega) (by omega) (fun c41 => ?_) (fun c41 => ?_)
          · omega
          · refine ev_aload_n dX1_elimination_44 rfl ?_
            refine ev_lload_n dX1_elimination_45 rfl ?_
            refine ev_iload dX1_elimination_46 rfl ?_
            refine ev_callV (cl_firstSimplicial g2 hn hE.1 hR) ok_X1_firstSimplicial ml_X1_73 rfl rfl rfl rfl (Nat.le_of_ble_eq_true rfl) dX1_elimination_48 (kI ?_)
            rw [if_neg hlt]
            refine ev_ist6 dX1_elimination_51 (by decide) rfl ?_
            refine ev_iload dX1_elimination_53 rfl ?_
            refine ev_bipush (-2) dX1_elimination_55 rfl ?_
            refine ev_icmp_ne 65 dX1_elimination_57 (by decide) (fun c57 => ?_) (fun c57 => ?_)
            · exact absurd rfl c57
            · refine ev_aload_n dX1_elimination_60 rfl ?_
              refine ev_getR fl_X1_24 rfl rfl dX1_elimination_61 ?_
              refine ev_aret dX1_elimination_64 rfl ?_
              have hel' : L = elL n E n (2 ^ n - 1) := by rw [← hel, elL, if_neg hlt, List.append_nil]
              exact ⟨E, f, hE, rfl, by rw [← hel', hL], by rw [← hel']; exact hf⟩
    refine ev_lst2 dX1_elimination_17 (by decide) rfl ?_
    refine ev_aload_n dX1_elimination_18 rfl ?_
    refine ev_callV (cl_allVerticesC g hn) ok_X1_allVertices ml_X1_50 rfl rfl rfl rfl (Nat.le_of_ble_eq_true rfl) dX1_elimination_19 (kI ?_)
    refine ev_ist4 dX1_elimination_22 (by decide) rfl ?_
    refine ev_aload_n dX1_elimination_24 rfl ?_
    refine ev_getR fl_X1_24 rfl rfl dX1_elimination_25 ?_
    refine ev_iconst (nI 0) dX1_elimination_28 rfl ?_
    refine ev_putI fp_X1_70 rfl rfl rfl rfl dX1_elimination_29 ?_
    refine ev_iconst (nI 0) dX1_elimination_32 rfl ?_
    refine ev_ist5 dX1_elimination_33 (by decide) rfl ?_
    refine ev_heap (aH_put0 (by decide) : _ = aH h 2 1 3 0 (h.1 3)) ?_
    exact loop n 0 [] _ _ (by omega) rfl (by omega) rfl (hold_nil _) _
  rcases hc with rfl | rfl
  · skip
    refine ev_start 5 (lv := [some (.ref 1), some (.int (nI 0)), none, none, none, none, none]) rfl (by decide) (Nat.le_of_ble_eq_true rfl) ?_
    refine ev_iload_n dX1_elimination_0 rfl ?_
    refine ev_iconst (nI 1) dX1_elimination_1 rfl ?_
    refine ev_icmp_neN 13 dX1_elimination_2 (by decide) (by omega) (by omega) (fun c2 => ?_) (fun c2 => ?_)
    · refine ev_aload_n dX1_elimination_13 rfl ?_
      refine ev_getLv (g.2) fl_X1_15 rfl rfl dX1_elimination_14 ?_
      exact main N (cE_0 ok)
    · exact absurd c2 (by decide)
  · skip
    refine ev_start 5 (lv := [some (.ref 1), some (.int (nI 1)), none, none, none, none, none]) rfl (by decide) (Nat.le_of_ble_eq_true rfl) ?_
    refine ev_iload_n dX1_elimination_0 rfl ?_
    refine ev_iconst (nI 1) dX1_elimination_1 rfl ?_
    refine ev_icmp_neN 13 dX1_elimination_2 (by decide) (by omega) (by omega) (fun c2 => ?_) (fun c2 => ?_)
    · exact absurd rfl c2
    · refine ev_aload_n dX1_elimination_5 rfl ?_
      refine ev_iconst (nI 5) dX1_elimination_6 rfl ?_
      refine ev_callV (cl_matrixOfKind (kind := 5) g ok (by decide) (fun z => absurd z (by decide))) ok_X1_matrixOfKind ml_X1_66 rfl rfl rfl rfl (Nat.le_of_ble_eq_true rfl) dX1_elimination_7 ?_
      rintro rv h2 ⟨rfl, X, rfl, hX⟩
      refine ev_goto 17 dX1_elimination_10 (by decide) ?_
      exact main X (cE_1 hX)
end ELIM
