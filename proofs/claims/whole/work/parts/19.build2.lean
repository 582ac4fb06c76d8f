section BUILD2
variable {G : MG} {d : Nat} {h : MH}
def MP (X : Nat) (P : Nat → Nat → Prop) : Prop := X < 2 ^ 49 ∧ ∀ u v, u < 7 → v < 7 → ((nb X u).testBit v = true ↔ P u v)
theorem MP_or {X u v : Nat} {P Q : Nat → Nat → Prop} (hX : MP X P) (hu : u < 7) (hv : v < 7) (hQ : ∀ a b, a < 7 → b < 7 → (Q a b ↔ P a b ∨ (a = u ∧ b = v) ∨ (a = v ∧ b = u))) : MP (X ||| eb u v) Q := by
  refine ⟨or_lt49 hX.1 (eb_lt hu hv), fun a b ha hb => ?_⟩
  rw [nb_or _ _ _ _ hb, Bool.or_eq_true, hX.2 a b ha hb, nb_eb hu hv ha hb, hQ a b ha hb, decide_eq_true_eq]
theorem MP_0 {P : Nat → Nat → Prop} (h : ∀ u v, u < 7 → v < 7 → ¬ P u v) : MP 0 P :=
  ⟨by decide, fun u v hu hv => by rw [nb_0 _ _ hv]; simp [h u v hu hv]⟩
theorem MP_uniq {X Y : Nat} {P : Nat → Nat → Prop} (a : MP X P) (b : MP Y P) : X = Y := mat_ext a.1 b.1 (fun u v hu hv => by
  cases h1 : (nb X u).testBit v with
  | true => exact ((b.2 u v hu hv).mpr ((a.2 u v hu hv).mp h1)).symm
  | false =>
    cases h2 : (nb Y u).testBit v with
    | false => rfl
    | true => rw [(a.2 u v hu hv).mpr ((b.2 u v hu hv).mp h2)] at h1; cases h1)
def qX (h : MH) (P : Nat → Nat → Prop) : Option Value → MH → Prop := fun rv h1 => h1 = h ∧ ∃ X, rv = some (.long (lN X)) ∧ MP X P
def PathP (n u v : Nat) : Prop := u < n ∧ v < n ∧ (v = u + 1 ∨ u = v + 1)
theorem cl_pathMatrix {n N : Nat} (g : gC h n N) (h1 : 1 ≤ n) (hn : n ≤ 7) : Cl G (d + 1) M_X1_pathMatrix [.ref 1] h (qX h (PathP n)) := by
  have loop : ∀ (k v X : Nat), v + k = n → 1 ≤ v → MP X (PathP v) → Ev G (d + 1) M_X1_pathMatrix 4 [some (.ref 1), some (.long (lN X)), none, some (.int (nI v))] [] h (qX h (PathP n)) := by
    intro k
    induction k with
    | zero =>
      intro v X hv h1 hX
      obtain rfl : v = n := by omega
      refine ev_iload_n dX1_pathMatrix_4 rfl ?_
      refine ev_aload_n dX1_pathMatrix_5 rfl ?_
      refine ev_getIv (g.1) fl_X1_9 rfl rfl dX1_pathMatrix_6 ?_
      refine ev_icmp_geN 28 dX1_pathMatrix_9 (by decide) (by omega) (by omega) (fun c9 => ?_) (fun c9 => ?_)
      · refine ev_lload_n dX1_pathMatrix_28 rfl ?_
        refine ev_lret dX1_pathMatrix_29 rfl ?_
        exact ⟨rfl, X, rfl, hX⟩
      · omega
    | succ k ih =>
      intro v X hv h1 hX
      refine ev_iload_n dX1_pathMatrix_4 rfl ?_
      refine ev_aload_n dX1_pathMatrix_5 rfl ?_
      refine ev_getIv (g.1) fl_X1_9 rfl rfl dX1_pathMatrix_6 ?_
      refine ev_icmp_geN 28 dX1_pathMatrix_9 (by decide) (by omega) (by omega) (fun c9 => ?_) (fun c9 => ?_)
      · omega
      · refine ev_lload_n dX1_pathMatrix_12 rfl ?_
        refine ev_iload_n dX1_pathMatrix_13 rfl ?_
        refine ev_iconst (nI 1) dX1_pathMatrix_14 rfl ?_
        refine ev_isubN dX1_pathMatrix_15 (by omega) ?_
        refine ev_iload_n dX1_pathMatrix_16 rfl ?_
        refine ev_callS (cl_edgeBits (by omega) (by omega)) ok_X1_edgeBits ml_X1_38 rfl rfl (Nat.le_of_ble_eq_true rfl) dX1_pathMatrix_17 (kL ?_)
        refine ev_lorN dX1_pathMatrix_20 ?_
        refine ev_lst1 dX1_pathMatrix_21 (by decide) rfl ?_
        refine ev_inc3N dX1_pathMatrix_22 (by decide) rfl ?_
        refine ev_goto 4 dX1_pathMatrix_25 (by decide) ?_
        exact ih (v + 1) _ (by omega) (by omega) (MP_or hX (by omega) (by omega) (fun a b ha hb => by unfold PathP; omega))
  refine ev_start 3 (lv := [some (.ref 1), none, none, none]) rfl (by decide) (Nat.le_of_ble_eq_true rfl) ?_
  refine ev_lconst (lN 0) dX1_pathMatrix_0 rfl ?_
  refine ev_lst1 dX1_pathMatrix_1 (by decide) rfl ?_
  refine ev_iconst (nI 1) dX1_pathMatrix_2 rfl ?_
  refine ev_ist3 dX1_pathMatrix_3 (by decide) rfl ?_
  exact loop (n - 1) 1 0 (by omega) (by omega) (MP_0 (fun u v _ _ => by unfold PathP; omega))
def StarP (n u v : Nat) : Prop := u < n ∧ v < n ∧ u ≠ v ∧ (u = 0 ∨ v = 0)
theorem cl_starMatrix {n N : Nat} (g : gC h n N) (h1 : 1 ≤ n) (hn : n ≤ 7) : Cl G (d + 1) M_X1_starMatrix [.ref 1] h (qX h (StarP n)) := by
  have loop : ∀ (k v X : Nat), v + k = n → 1 ≤ v → MP X (StarP v) → Ev G (d + 1) M_X1_starMatrix 4 [some (.ref 1), some (.long (lN X)), none, some (.int (nI v))] [] h (qX h (StarP n)) := by
    intro k
    induction k with
    | zero =>
      intro v X hv h1 hX
      obtain rfl : v = n := by omega
      refine ev_iload_n dX1_starMatrix_4 rfl ?_
      refine ev_aload_n dX1_starMatrix_5 rfl ?_
      refine ev_getIv (g.1) fl_X1_9 rfl rfl dX1_starMatrix_6 ?_
      refine ev_icmp_geN 26 dX1_starMatrix_9 (by decide) (by omega) (by omega) (fun c9 => ?_) (fun c9 => ?_)
      · refine ev_lload_n dX1_starMatrix_26 rfl ?_
        refine ev_lret dX1_starMatrix_27 rfl ?_
        exact ⟨rfl, X, rfl, hX⟩
      · omega
    | succ k ih =>
      intro v X hv h1 hX
      refine ev_iload_n dX1_starMatrix_4 rfl ?_
      refine ev_aload_n dX1_starMatrix_5 rfl ?_
      refine ev_getIv (g.1) fl_X1_9 rfl rfl dX1_starMatrix_6 ?_
      refine ev_icmp_geN 26 dX1_starMatrix_9 (by decide) (by omega) (by omega) (fun c9 => ?_) (fun c9 => ?_)
      · omega
      · refine ev_lload_n dX1_starMatrix_12 rfl ?_
        refine ev_iconst (nI 0) dX1_starMatrix_13 rfl ?_
        refine ev_iload_n dX1_starMatrix_14 rfl ?_
        refine ev_callS (cl_edgeBits (u := 0) (by omega) (by omega)) ok_X1_edgeBits ml_X1_38 rfl rfl (Nat.le_of_ble_eq_true rfl) dX1_starMatrix_15 (kL ?_)
        refine ev_lorN dX1_starMatrix_18 ?_
        refine ev_lst1 dX1_starMatrix_19 (by decide) rfl ?_
        refine ev_inc3N dX1_starMatrix_20 (by decide) rfl ?_
        refine ev_goto 4 dX1_starMatrix_23 (by decide) ?_
        exact ih (v + 1) _ (by omega) (by omega) (MP_or hX (by omega) (by omega) (fun a b ha hb => by unfold StarP; omega))
  refine ev_start 3 (lv := [some (.ref 1), none, none, none]) rfl (by decide) (Nat.le_of_ble_eq_true rfl) ?_
  refine ev_lconst (lN 0) dX1_starMatrix_0 rfl ?_
  refine ev_lst1 dX1_starMatrix_1 (by decide) rfl ?_
  refine ev_iconst (nI 1) dX1_starMatrix_2 rfl ?_
  refine ev_ist3 dX1_starMatrix_3 (by decide) rfl ?_
  exact loop (n - 1) 1 0 (by omega) (by omega) (MP_0 (fun u v _ _ => by unfold StarP; omega))
def FullP (n u v : Nat) : Prop := u < n ∧ v < n ∧ u ≠ v
theorem cl_completeMatrix {n N : Nat} (g : gC h n N) (h1 : 1 ≤ n) (hn : n ≤ 7) : Cl G (d + 1) M_X1_completeMatrix [.ref 1] h (qX h (FullP n)) := by
  have loop : ∀ (k v X : Nat), v + k = n → 1 ≤ v → MP X (FullP v) → ∀ x4 : Option Value, Ev G (d + 1) M_X1_completeMatrix 4 [some (.ref 1), some (.long (lN X)), none, some (.int (nI v)), x4] [] h (qX h (FullP n)) := by
    intro k
    induction k with
    | zero =>
      intro v X hv h1 hX x4
      obtain rfl : v = n := by omega
      refine ev_iload_n dX1_completeMatrix_4 rfl ?_
      refine ev_aload_n dX1_completeMatrix_5 rfl ?_
      refine ev_getIv (g.1) fl_X1_9 rfl rfl dX1_completeMatrix_6 ?_
      refine ev_icmp_geN 42 dX1_completeMatrix_9 (by decide) (by omega) (by omega) (fun c9 => ?_) (fun c9 => ?_)
      · refine ev_lload_n dX1_completeMatrix_42 rfl ?_
        refine ev_lret dX1_completeMatrix_43 rfl ?_
        exact ⟨rfl, X, rfl, hX⟩
      · omega
    | succ k ih =>
      intro v X hv h1 hX x4
      have inner : ∀ (j u Y : Nat), u + j = v → MP Y (fun a b => FullP v a b ∨ (a < u ∧ b = v) ∨ (b < u ∧ a = v)) → Ev G (d + 1) M_X1_completeMatrix 15 [some (.ref 1), some (.long (lN Y)), none, some (.int (nI v)), some (.int (nI u))] [] h (qX h (FullP n)) := by
        intro j
        induction j with
        | zero =>
          intro u Y hu hY
          obtain rfl : u = v := by omega
          refine ev_iload dX1_completeMatrix_15 rfl ?_
          refine ev_iload_n dX1_completeMatrix_17 rfl ?_
          refine ev_icmp_geN 36 dX1_completeMatrix_18 (by decide) (by omega) (by omega) (fun c18 => ?_) (fun c18 => ?_)
          · refine ev_inc3N dX1_completeMatrix_36 (by decide) rfl ?_
            refine ev_goto 4 dX1_completeMatrix_39 (by decide) ?_
            refine ih (u + 1) _ (by omega) (by omega) ⟨hY.1, fun a b ha hb => ?_⟩ _
            rw [hY.2 a b ha hb]; unfold FullP; omega
          · omega
        | succ j ihj =>
          intro u Y hu hY
          refine ev_iload dX1_completeMatrix_15 rfl ?_
          refine ev_iload_n dX1_completeMatrix_17 rfl ?_
          refine ev_icmp_geN 36 dX1_completeMatrix_18 (by decide) (by omega) (by omega) (fun c18 => ?_) (fun c18 => ?_)
          · omega
          · refine ev_lload_n dX1_completeMatrix_21 rfl ?_
            refine ev_iload dX1_completeMatrix_22 rfl ?_
            refine ev_iload_n dX1_completeMatrix_24 rfl ?_
            refine ev_callS (cl_edgeBits (by omega) (by omega)) ok_X1_edgeBits ml_X1_38 rfl rfl (Nat.le_of_ble_eq_true rfl) dX1_completeMatrix_25 (kL ?_)
            refine ev_lorN dX1_completeMatrix_28 ?_
            refine ev_lst1 dX1_completeMatrix_29 (by decide) rfl ?_
            refine ev_inc4N dX1_completeMatrix_30 (by decide) rfl ?_
            refine ev_goto 15 dX1_completeMatrix_33 (by decide) ?_
            exact ihj (u + 1) _ (by omega) (MP_or hY (by omega) (by omega) (fun a b ha hb => by unfold FullP; omega))
      refine ev_iload_n dX1_completeMatrix_4 rfl ?_
      refine ev_aload_n dX1_completeMatrix_5 rfl ?_
      refine ev_getIv (g.1) fl_X1_9 rfl rfl dX1_completeMatrix_6 ?_
      refine ev_icmp_geN 42 dX1_completeMatrix_9 (by decide) (by omega) (by omega) (fun c9 => ?_) (fun c9 => ?_)
      · omega
      · refine ev_iconst (nI 0) dX1_completeMatrix_12 rfl ?_
        refine ev_ist4 dX1_completeMatrix_13 (by decide) rfl ?_
        refine inner v 0 _ (by omega) ⟨hX.1, fun a b ha hb => ?_⟩
        rw [hX.2 a b ha hb]; unfold FullP; omega
  refine ev_start 4 (lv := [some (.ref 1), none, none, none, none]) rfl (by decide) (Nat.le_of_ble_eq_true rfl) ?_
  refine ev_lconst (lN 0) dX1_completeMatrix_0 rfl ?_
  refine ev_lst1 dX1_completeMatrix_1 (by decide) rfl ?_
  refine ev_iconst (nI 1) dX1_completeMatrix_2 rfl ?_
  refine ev_ist3 dX1_completeMatrix_3 (by decide) rfl ?_
  exact loop (n - 1) 1 0 (by omega) (by omega) (MP_0 (fun u v _ _ => by unfold FullP; omega)) _
/-- which edges a kind of build makes -/
def PK (n N kind u v : Nat) : Prop := match kind with
  | 0 => False
  | 1 => v = u + 1 ∨ u = v + 1 ∨ (u = 0 ∧ v = n - 1) ∨ (v = 0 ∧ u = n - 1)
  | 2 => v = u + 1 ∨ u = v + 1
  | 3 => True
  | 4 => u = 0 ∨ v = 0
  | _ => ¬ (nb N u).testBit v = true
def PB (n N kind u v : Nat) : Prop := u < n ∧ v < n ∧ u ≠ v ∧ PK n N kind u v
theorem PB_ok {n N kind X : Nat} (ok : gOK n N) (hX : MP X (PB n N kind)) : gOK n X := by
  refine ⟨ok.1, ok.2.1, hX.1, fun u v hu hv hb => ?_⟩
  obtain ⟨h1, h2, h3, h4⟩ := (hX.2 u v hu hv).mp hb
  refine ⟨h1, h2, h3, (hX.2 v u hv hu).mpr ⟨h2, h1, Ne.symm h3, ?_⟩⟩
  match kind with
  | 0 => exact h4
  | 1 => simp only [PK] at h4 ⊢; omega
  | 2 => simp only [PK] at h4 ⊢; omega
  | 3 => trivial
  | 4 => simp only [PK] at h4 ⊢; omega
  | k + 5 => simp only [PK] at h4 ⊢; rw [ok.sym hv hu]; exact h4
theorem MP_c {X : Nat} {P Q : Nat → Nat → Prop} (hX : MP X P) (h : ∀ u v, u < 7 → v < 7 → (P u v ↔ Q u v)) : MP X Q := ⟨hX.1, fun u v hu hv => (hX.2 u v hu hv).trans (h u v hu hv)⟩
theorem cl_matrixOfKind {n N kind : Nat} (g : gC h n N) (ok : gOK n N) (hk : kind ≤ 5) (hc : kind = 1 → 3 ≤ n) : Cl G (d + 2) M_X1_matrixOfKind [.ref 1, .int (nI kind)] h (qX h (PB n N kind)) := by
  have hn := ok.2.1
  have h1 := ok.1
  have ti : (nI kind).toInt = (kind : Int) := nI_toInt (by omega)
  rcases (show kind = 0 ∨ kind = 1 ∨ kind = 2 ∨ kind = 3 ∨ kind = 4 ∨ kind = 5 by omega) with rfl | rfl | rfl | rfl | rfl | rfl
  · skip
    refine ev_start 0 (lv := [some (.ref 1), some (.int (nI 0))]) rfl (by decide) (Nat.le_of_ble_eq_true rfl) ?_
    refine ev_iload_n dX1_matrixOfKind_0 rfl ?_
    refine ev_tsOut 81 dX1_matrixOfKind_1 (by decide) (by decide) ?_
    refine ev_lconst (lN 0) dX1_matrixOfKind_81 rfl ?_
    refine ev_lret dX1_matrixOfKind_82 rfl ?_
    exact ⟨rfl, 0, rfl, MP_0 (fun u v _ _ q => q.2.2.2)⟩
  · skip
    refine ev_start 0 (lv := [some (.ref 1), some (.int (nI 1))]) rfl (by decide) (Nat.le_of_ble_eq_true rfl) ?_
    refine ev_iload_n dX1_matrixOfKind_0 rfl ?_
    refine ev_tsIn 36 dX1_matrixOfKind_1 (by decide) (by decide) (show _ = some 35 from by decide) (by decide) ?_
    refine ev_aload_n dX1_matrixOfKind_36 rfl ?_
    refine ev_callV (cl_pathMatrix g h1 hn) ok_X1_pathMatrix ml_X1_34 rfl rfl rfl rfl (Nat.le_of_ble_eq_true rfl) dX1_matrixOfKind_37 ?_
    rintro rv h2 ⟨rfl, X, rfl, hX⟩
    refine ev_iconst (nI 0) dX1_matrixOfKind_40 rfl ?_
    refine ev_aload_n dX1_matrixOfKind_41 rfl ?_
    refine ev_getIv (g.1) fl_X1_9 rfl rfl dX1_matrixOfKind_42 ?_
    refine ev_iconst (nI 1) dX1_matrixOfKind_45 rfl ?_
    refine ev_isubN dX1_matrixOfKind_46 (by omega) ?_
    refine ev_callS (cl_edgeBits (u := 0) (v := n - 1) (by omega) (by omega)) ok_X1_edgeBits ml_X1_38 rfl rfl (Nat.le_of_ble_eq_true rfl) dX1_matrixOfKind_47 (kL ?_)
    refine ev_lorN dX1_matrixOfKind_50 ?_
    refine ev_lret dX1_matrixOfKind_51 rfl ?_
    exact ⟨rfl, _, rfl, MP_or hX (by omega) (by omega) (fun a b ha hb => by simp only [PB, PK, PathP]; omega)⟩
  · skip
    refine ev_start 0 (lv := [some (.ref 1), some (.int (nI 2))]) rfl (by decide) (Nat.le_of_ble_eq_true rfl) ?_
    refine ev_iload_n dX1_matrixOfKind_0 rfl ?_
    refine ev_tsIn 52 dX1_matrixOfKind_1 (by decide) (by decide) (show _ = some 51 from by decide) (by decide) ?_
    refine ev_aload_n dX1_matrixOfKind_52 rfl ?_
    refine ev_callV (cl_pathMatrix g h1 hn) ok_X1_pathMatrix ml_X1_34 rfl rfl rfl rfl (Nat.le_of_ble_eq_true rfl) dX1_matrixOfKind_53 ?_
    rintro rv h2 ⟨rfl, X, rfl, hX⟩
    refine ev_lret dX1_matrixOfKind_56 rfl ?_
    exact ⟨rfl, _, rfl, MP_c hX (fun a b ha hb => by simp only [PB, PK, PathP]; omega)⟩
  · skip
    refine ev_start 0 (lv := [some (.ref 1), some (.int (nI 3))]) rfl (by decide) (Nat.le_of_ble_eq_true rfl) ?_
    refine ev_iload_n dX1_matrixOfKind_0 rfl ?_
    refine ev_tsIn 57 dX1_matrixOfKind_1 (by decide) (by decide) (show _ = some 56 from by decide) (by decide) ?_
    refine ev_aload_n dX1_matrixOfKind_57 rfl ?_
    refine ev_callV (cl_completeMatrix g h1 hn) ok_X1_completeMatrix ml_X1_42 rfl rfl rfl rfl (Nat.le_of_ble_eq_true rfl) dX1_matrixOfKind_58 ?_
    rintro rv h2 ⟨rfl, X, rfl, hX⟩
    refine ev_lret dX1_matrixOfKind_61 rfl ?_
    exact ⟨rfl, _, rfl, MP_c hX (fun a b ha hb => by simp only [PB, PK, FullP, and_true])⟩
  · skip
    refine ev_start 0 (lv := [some (.ref 1), some (.int (nI 4))]) rfl (by decide) (Nat.le_of_ble_eq_true rfl) ?_
    refine ev_iload_n dX1_matrixOfKind_0 rfl ?_
    refine ev_tsIn 62 dX1_matrixOfKind_1 (by decide) (by decide) (show _ = some 61 from by decide) (by decide) ?_
    refine ev_aload_n dX1_matrixOfKind_62 rfl ?_
    refine ev_callV (cl_starMatrix g h1 hn) ok_X1_starMatrix ml_X1_45 rfl rfl rfl rfl (Nat.le_of_ble_eq_true rfl) dX1_matrixOfKind_63 ?_
    rintro rv h2 ⟨rfl, X, rfl, hX⟩
    refine ev_lret dX1_matrixOfKind_66 rfl ?_
    exact ⟨rfl, _, rfl, MP_c hX (fun a b ha hb => by simp only [PB, PK, StarP])⟩
  · skip
    refine ev_start 0 (lv := [some (.ref 1), some (.int (nI 5))]) rfl (by decide) (Nat.le_of_ble_eq_true rfl) ?_
    refine ev_iload_n dX1_matrixOfKind_0 rfl ?_
    refine ev_tsIn 67 dX1_matrixOfKind_1 (by decide) (by decide) (show _ = some 66 from by decide) (by decide) ?_
    refine ev_aload_n dX1_matrixOfKind_67 rfl ?_
    refine ev_callV (cl_completeMatrix g h1 hn) ok_X1_completeMatrix ml_X1_42 rfl rfl rfl rfl (Nat.le_of_ble_eq_true rfl) dX1_matrixOfKind_68 ?_
    rintro rv h2 ⟨rfl, X, rfl, hX⟩
    refine ev_aload_n dX1_matrixOfKind_71 rfl ?_
    refine ev_getLv (g.2) fl_X1_15 rfl rfl dX1_matrixOfKind_72 ?_
    refine ev_ldc2 (-1) dX1_matrixOfKind_75 kl_X1_48 ?_
    refine ev_lxor dX1_matrixOfKind_78 ?_
    refine ev_landC dX1_matrixOfKind_79 ?_
    refine ev_lret dX1_matrixOfKind_80 rfl ?_
    refine ⟨rfl, _, rfl, andn_lt hX.1, fun a b ha hb => ?_⟩
    rw [nb_andn _ _ _ _ hb, Bool.and_eq_true, hX.2 a b ha hb]
    simp only [PB, PK, FullP]
    cases (nb N a).testBit b <;> simp
end BUILD2
