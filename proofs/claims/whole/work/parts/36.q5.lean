section Q5
variable {G : MG} {d : Nat} {h : MH}
theorem b01_nar (P : Prop) : narrow FieldType.boolean (Value.int (nI (b01 P))) = Value.int (nI (b01 P)) := by
  have := b01_lt P
  rcases (show b01 P = 0 ∨ b01 P = 1 by omega) with e | e <;> rw [e] <;> rfl
noncomputable def aRg (x : Int32) (a b : Nat) (f : Nat → Int32) : Int32 := @ite _ (rg x a b) (Classical.propDecidable _) (f x.toNatClampNeg) (-1)
theorem aRg_t {j a b : Nat} {f : Nat → Int32} (h1 : a ≤ j) (h2 : j ≤ b) (hb : b < 2 ^ 31) : aRg (nI j) a b f = f j := by
  unfold aRg; rw [if_pos ⟨j, h1, h2, rfl⟩, nI_clamp (by omega)]
theorem aRg_f {a b : Nat} {x : Int32} {f : Nat → Int32} (hx : ¬ rg x a b) : aRg x a b f = -1 := by
  unfold aRg; exact if_neg hx
theorem aRg_p {k : Nat} {f : Nat → Int32} (hk : k < 3) : aRg (nI (k + 1)) 1 3 f = f (k + 1) := aRg_t (by omega) (by omega) (by decide)
theorem rg_p {x : Int32} (hx : rg x 1 3) : ∃ k, k < 3 ∧ x = nI (k + 1) := by
  obtain ⟨j, h1, h2, rfl⟩ := hx
  exact ⟨j - 1, by omega, by rw [show j - 1 + 1 = j by omega]⟩
theorem cl_isPowerC {x : Int32} : Cl G d M_X11_isPower [.int x] h (qI (nI (b01 (rg x 1 3))) h) := by
  by_cases hx : rg x 1 3
  · rw [b01_t hx]
    obtain ⟨j, h1, h2, rfl⟩ := hx
    refine ev_start 0 (lv := [some (.int (nI j))]) rfl (by decide) (Nat.le_of_ble_eq_true rfl) ?_
    refine ev_iload_n dX11_isPower_0 rfl ?_
    refine ev_iconst (nI 1) dX11_isPower_1 rfl ?_
    refine ev_icmp_ltN 14 dX11_isPower_2 (by decide) (by omega) (by omega) (fun c2 => ?_) (fun c2 => ?_)
    · omega
    · refine ev_iload_n dX11_isPower_5 rfl ?_
      refine ev_iconst (nI 3) dX11_isPower_6 rfl ?_
      refine ev_icmp_gtN 14 dX11_isPower_7 (by decide) (by omega) (by omega) (fun c7 => ?_) (fun c7 => ?_)
      · omega
      · refine ev_iconst (nI 1) dX11_isPower_10 rfl ?_
        refine ev_goto 15 dX11_isPower_11 (by decide) ?_
        refine ev_zret dX11_isPower_15 rfl rfl ?_
        exact ⟨by with_reducible rfl, rfl⟩
  · rw [b01_f hx]
    refine ev_start 0 (lv := [some (.int x)]) rfl (by decide) (Nat.le_of_ble_eq_true rfl) ?_
    refine ev_iload_n dX11_isPower_0 rfl ?_
    refine ev_iconst (nI 1) dX11_isPower_1 rfl ?_
    refine ev_icmp_lt 14 dX11_isPower_2 (by decide) (fun c2 => ?_) (fun c2 => ?_)
    · refine ev_iconst (nI 0) dX11_isPower_14 rfl ?_
      refine ev_zret dX11_isPower_15 rfl rfl ?_
      exact ⟨by with_reducible rfl, rfl⟩
    · refine ev_iload_n dX11_isPower_5 rfl ?_
      refine ev_iconst (nI 3) dX11_isPower_6 rfl ?_
      refine ev_icmp_gt 14 dX11_isPower_7 (by decide) (fun c7 => ?_) (fun c7 => ?_)
      · refine ev_iconst (nI 0) dX11_isPower_14 rfl ?_
        refine ev_zret dX11_isPower_15 rfl rfl ?_
        exact ⟨by with_reducible rfl, rfl⟩
      · exact absurd ((rg_iff (by decide) (by decide)).mpr ⟨Int32.not_lt.mp c2, Int32.not_lt.mp c7⟩) hx
theorem cl_isDegree {x : Int32} : Cl G d M_X11_isDegree [.int x] h (qI (nI (b01 (rg x 0 21))) h) := by
  by_cases hx : rg x 0 21
  · rw [b01_t hx]
    obtain ⟨j, h1, h2, rfl⟩ := hx
    refine ev_start 0 (lv := [some (.int (nI j))]) rfl (by decide) (Nat.le_of_ble_eq_true rfl) ?_
    refine ev_iload_n dX11_isDegree_0 rfl ?_
    refine ev_if_ltN 14 dX11_isDegree_1 (by decide) (by omega) (fun c1 => ?_) (fun c1 => ?_)
    · exact c1.elim
    · refine ev_iload_n dX11_isDegree_4 rfl ?_
      refine ev_bipush (nI 21) dX11_isDegree_5 rfl ?_
      refine ev_icmp_gtN 14 dX11_isDegree_7 (by decide) (by omega) (by omega) (fun c7 => ?_) (fun c7 => ?_)
      · omega
      · refine ev_iconst (nI 1) dX11_isDegree_10 rfl ?_
        refine ev_goto 15 dX11_isDegree_11 (by decide) ?_
        refine ev_zret dX11_isDegree_15 rfl rfl ?_
        exact ⟨by with_reducible rfl, rfl⟩
  · rw [b01_f hx]
    refine ev_start 0 (lv := [some (.int x)]) rfl (by decide) (Nat.le_of_ble_eq_true rfl) ?_
    refine ev_iload_n dX11_isDegree_0 rfl ?_
    refine ev_if_lt 14 dX11_isDegree_1 (by decide) (fun c1 => ?_) (fun c1 => ?_)
    · refine ev_iconst (nI 0) dX11_isDegree_14 rfl ?_
      refine ev_zret dX11_isDegree_15 rfl rfl ?_
      exact ⟨by with_reducible rfl, rfl⟩
    · refine ev_iload_n dX11_isDegree_4 rfl ?_
      refine ev_bipush (nI 21) dX11_isDegree_5 rfl ?_
      refine ev_icmp_gt 14 dX11_isDegree_7 (by decide) (fun c7 => ?_) (fun c7 => ?_)
      · refine ev_iconst (nI 0) dX11_isDegree_14 rfl ?_
        refine ev_zret dX11_isDegree_15 rfl rfl ?_
        exact ⟨by with_reducible rfl, rfl⟩
      · exact absurd ((rg_iff (by decide) (by decide)).mpr ⟨Int32.not_lt.mp c1, Int32.not_lt.mp c7⟩) hx
theorem cl_isPowerM {x : Int32} : Cl G (d + 1) M_X12_isPower [.int x] h (qI (nI (b01 (rg x 1 3))) h) := by
  refine ev_start 0 (lv := [some (.int x)]) rfl (by decide) (Nat.le_of_ble_eq_true rfl) ?_
  refine ev_iload_n dX12_isPower_0 rfl ?_
  refine ev_i2l dX12_isPower_1 rfl ?_
  refine ev_lconst (lN 1) dX12_isPower_2 rfl ?_
  refine ev_ldc2 (lN 3) dX12_isPower_3 kl_X12_183 ?_
  refine ev_callS (cl_btw (a := 1) (b := 3) rfl rfl (by decide) (by decide)) ok_X12_isBetween ml_X12_79 rfl rfl (Nat.le_of_ble_eq_true rfl) dX12_isPower_6 (kI ?_)
  refine ev_zret dX12_isPower_9 rfl (b01_nar _) ?_
  exact ⟨by with_reducible rfl, rfl⟩
theorem cl_generatorCountC {n N : Nat} {x : Int32} (g : gC h n N) (ok : gOK n N) (c : cI h n N) : Cl G (d + 4) M_X11_generatorCount [.ref 0, .int x] h (fun rv h' => rv = some (.int (aRg x 1 3 (fun s => nI (gnL n N s).length))) ∧ iq n N h h' ∧ cI h' n N) := by
  have hn := ok.2.1
  by_cases hx : rg x 1 3
  · have q1 := b01_t hx
    obtain ⟨k, hk, rfl⟩ := rg_p hx
    obtain ⟨hp, ha, hcap⟩ := rowG hk
    rw [aRg_p hk]
    refine ev_start 0 (lv := [some (.ref 0), some (.int (nI (k + 1)))]) rfl (by decide) (Nat.le_of_ble_eq_true rfl) ?_
    refine ev_iload_n dX11_generatorCount_0 rfl ?_
    refine ev_callS (cl_isPowerC) ok_X11_isPower ml_X11_188 rfl rfl (Nat.le_of_ble_eq_true rfl) dX11_generatorCount_1 (kI ?_)
    refine ev_if_eqN 21 dX11_generatorCount_4 (by decide) (by omega) (fun c4 => ?_) (fun c4 => ?_)
    · omega
    · refine ev_aload_n dX11_generatorCount_7 rfl ?_
      refine ev_getR fl_X11_23 rfl rfl dX11_generatorCount_8 ?_
      refine ev_iload_n dX11_generatorCount_11 rfl ?_
      refine ev_callV (cl_generators g ok c hk) ok_X2_generators ml_X11_191 rfl rfl rfl rfl (Nat.le_of_ble_eq_true rfl) dX11_generatorCount_12 ?_
      rintro rv h1 ⟨rfl, i1, c1, kg⟩
      refine ev_getIv (kg.2.1.1) fl_X11_148 hp rfl dX11_generatorCount_15 ?_
      refine ev_goto 22 dX11_generatorCount_18 (by decide) ?_
      refine ev_iret dX11_generatorCount_22 rfl ?_
      exact ⟨rfl, i1, c1⟩
  · have q1 := b01_f hx
    rw [aRg_f hx]
    refine ev_start 0 (lv := [some (.ref 0), some (.int x)]) rfl (by decide) (Nat.le_of_ble_eq_true rfl) ?_
    refine ev_iload_n dX11_generatorCount_0 rfl ?_
    refine ev_callS (cl_isPowerC) ok_X11_isPower ml_X11_188 rfl rfl (Nat.le_of_ble_eq_true rfl) dX11_generatorCount_1 (kI ?_)
    refine ev_if_eqN 21 dX11_generatorCount_4 (by decide) (by omega) (fun c4 => ?_) (fun c4 => ?_)
    · refine ev_iconst (-1) dX11_generatorCount_21 rfl ?_
      refine ev_iret dX11_generatorCount_22 rfl ?_
      exact ⟨rfl, iq.rf, c⟩
    · omega
theorem cl_generatorC {n N : Nat} {x y : Int32} (g : gC h n N) (ok : gOK n N) (c : cI h n N) : Cl G (d + 4) M_X11_generator [.ref 0, .int x, .int y] h (fun rv h' => rv = some (.int (aRg x 1 3 (fun s => itL (gnL n N s) y))) ∧ iq n N h h' ∧ cI h' n N) := by
  have hn := ok.2.1
  by_cases hx : rg x 1 3
  · have q1 := b01_t hx
    obtain ⟨k, hk, rfl⟩ := rg_p hx
    have hlen := gnL_len (N := N) hn (show 1 ≤ k + 1 by omega) (by omega)
    obtain ⟨hp, ha, hcap⟩ := rowG hk
    rw [aRg_p hk]
    refine ev_start 0 (lv := [some (.ref 0), some (.int (nI (k + 1))), some (.int y)]) rfl (by decide) (Nat.le_of_ble_eq_true rfl) ?_
    refine ev_iload_n dX11_generator_0 rfl ?_
    refine ev_callS (cl_isPowerC) ok_X11_isPower ml_X11_188 rfl rfl (Nat.le_of_ble_eq_true rfl) dX11_generator_1 (kI ?_)
    refine ev_if_eqN 22 dX11_generator_4 (by decide) (by omega) (fun c4 => ?_) (fun c4 => ?_)
    · omega
    · refine ev_aload_n dX11_generator_7 rfl ?_
      refine ev_getR fl_X11_23 rfl rfl dX11_generator_8 ?_
      refine ev_iload_n dX11_generator_11 rfl ?_
      refine ev_callV (cl_generators g ok c hk) ok_X2_generators ml_X11_191 rfl rfl rfl rfl (Nat.le_of_ble_eq_true rfl) dX11_generator_12 ?_
      rintro rv h1 ⟨rfl, i1, c1, kg⟩
      refine ev_iload_n dX11_generator_15 rfl ?_
      refine ev_callS (cl_itemOrError (rowG hk) kg.2.1.1 hlen) ok_X11_itemOrError ml_X11_151 rfl rfl (Nat.le_of_ble_eq_true rfl) dX11_generator_16 (kI ?_)
      rw [itL_hold (by omega) kg.2.1.2]
      refine ev_goto 23 dX11_generator_19 (by decide) ?_
      refine ev_iret dX11_generator_23 rfl ?_
      exact ⟨rfl, i1, c1⟩
  · have q1 := b01_f hx
    rw [aRg_f hx]
    refine ev_start 0 (lv := [some (.ref 0), some (.int x), some (.int y)]) rfl (by decide) (Nat.le_of_ble_eq_true rfl) ?_
    refine ev_iload_n dX11_generator_0 rfl ?_
    refine ev_callS (cl_isPowerC) ok_X11_isPower ml_X11_188 rfl rfl (Nat.le_of_ble_eq_true rfl) dX11_generator_1 (kI ?_)
    refine ev_if_eqN 22 dX11_generator_4 (by decide) (by omega) (fun c4 => ?_) (fun c4 => ?_)
    · refine ev_iconst (-1) dX11_generator_22 rfl ?_
      refine ev_iret dX11_generator_23 rfl ?_
      exact ⟨rfl, iq.rf, c⟩
    · omega
theorem cl_symbolicGeneratorCountC {n N : Nat} {x : Int32} (g : gC h n N) (ok : gOK n N) (c : cI h n N) : Cl G (d + 4) M_X11_symbolicGeneratorCount [.ref 0, .int x] h (fun rv h' => rv = some (.int (aRg x 1 3 (fun s => nI (sgL n N s).length))) ∧ iq n N h h' ∧ cI h' n N) := by
  have hn := ok.2.1
  by_cases hx : rg x 1 3
  · have q1 := b01_t hx
    obtain ⟨k, hk, rfl⟩ := rg_p hx
    obtain ⟨hp, ha, hcap⟩ := rowS hk
    rw [aRg_p hk]
    refine ev_start 0 (lv := [some (.ref 0), some (.int (nI (k + 1)))]) rfl (by decide) (Nat.le_of_ble_eq_true rfl) ?_
    refine ev_iload_n dX11_symbolicGeneratorCount_0 rfl ?_
    refine ev_callS (cl_isPowerC) ok_X11_isPower ml_X11_188 rfl rfl (Nat.le_of_ble_eq_true rfl) dX11_symbolicGeneratorCount_1 (kI ?_)
    refine ev_if_eqN 21 dX11_symbolicGeneratorCount_4 (by decide) (by omega) (fun c4 => ?_) (fun c4 => ?_)
    · omega
    · refine ev_aload_n dX11_symbolicGeneratorCount_7 rfl ?_
      refine ev_getR fl_X11_23 rfl rfl dX11_symbolicGeneratorCount_8 ?_
      refine ev_iload_n dX11_symbolicGeneratorCount_11 rfl ?_
      refine ev_callV (cl_symbolicGenerators g ok c hk) ok_X2_symbolicGenerators ml_X11_194 rfl rfl rfl rfl (Nat.le_of_ble_eq_true rfl) dX11_symbolicGeneratorCount_12 ?_
      rintro rv h1 ⟨rfl, i1, c1, r1, -⟩
      refine ev_getIv (r1.1) fl_X11_148 hp rfl dX11_symbolicGeneratorCount_15 ?_
      refine ev_goto 22 dX11_symbolicGeneratorCount_18 (by decide) ?_
      refine ev_iret dX11_symbolicGeneratorCount_22 rfl ?_
      exact ⟨rfl, i1, c1⟩
  · have q1 := b01_f hx
    rw [aRg_f hx]
    refine ev_start 0 (lv := [some (.ref 0), some (.int x)]) rfl (by decide) (Nat.le_of_ble_eq_true rfl) ?_
    refine ev_iload_n dX11_symbolicGeneratorCount_0 rfl ?_
    refine ev_callS (cl_isPowerC) ok_X11_isPower ml_X11_188 rfl rfl (Nat.le_of_ble_eq_true rfl) dX11_symbolicGeneratorCount_1 (kI ?_)
    refine ev_if_eqN 21 dX11_symbolicGeneratorCount_4 (by decide) (by omega) (fun c4 => ?_) (fun c4 => ?_)
    · refine ev_iconst (-1) dX11_symbolicGeneratorCount_21 rfl ?_
      refine ev_iret dX11_symbolicGeneratorCount_22 rfl ?_
      exact ⟨rfl, iq.rf, c⟩
    · omega
theorem cl_symbolicGeneratorC {n N : Nat} {x y : Int32} (g : gC h n N) (ok : gOK n N) (c : cI h n N) : Cl G (d + 4) M_X11_symbolicGenerator [.ref 0, .int x, .int y] h (fun rv h' => rv = some (.int (aRg x 1 3 (fun s => itL (sgL n N s) y))) ∧ iq n N h h' ∧ cI h' n N) := by
  have hn := ok.2.1
  by_cases hx : rg x 1 3
  · have q1 := b01_t hx
    obtain ⟨k, hk, rfl⟩ := rg_p hx
    have hlen := sgL_len (N := N) (s := k + 1) ok
    obtain ⟨hp, ha, hcap⟩ := rowS hk
    rw [aRg_p hk]
    refine ev_start 0 (lv := [some (.ref 0), some (.int (nI (k + 1))), some (.int y)]) rfl (by decide) (Nat.le_of_ble_eq_true rfl) ?_
    refine ev_iload_n dX11_symbolicGenerator_0 rfl ?_
    refine ev_callS (cl_isPowerC) ok_X11_isPower ml_X11_188 rfl rfl (Nat.le_of_ble_eq_true rfl) dX11_symbolicGenerator_1 (kI ?_)
    refine ev_if_eqN 22 dX11_symbolicGenerator_4 (by decide) (by omega) (fun c4 => ?_) (fun c4 => ?_)
    · omega
    · refine ev_aload_n dX11_symbolicGenerator_7 rfl ?_
      refine ev_getR fl_X11_23 rfl rfl dX11_symbolicGenerator_8 ?_
      refine ev_iload_n dX11_symbolicGenerator_11 rfl ?_
      refine ev_callV (cl_symbolicGenerators g ok c hk) ok_X2_symbolicGenerators ml_X11_194 rfl rfl rfl rfl (Nat.le_of_ble_eq_true rfl) dX11_symbolicGenerator_12 ?_
      rintro rv h1 ⟨rfl, i1, c1, r1, -⟩
      refine ev_iload_n dX11_symbolicGenerator_15 rfl ?_
      refine ev_callS (cl_itemOrError (rowS hk) r1.1 hlen) ok_X11_itemOrError ml_X11_151 rfl rfl (Nat.le_of_ble_eq_true rfl) dX11_symbolicGenerator_16 (kI ?_)
      rw [itL_hold (by omega) r1.2]
      refine ev_goto 23 dX11_symbolicGenerator_19 (by decide) ?_
      refine ev_iret dX11_symbolicGenerator_23 rfl ?_
      exact ⟨rfl, i1, c1⟩
  · have q1 := b01_f hx
    rw [aRg_f hx]
    refine ev_start 0 (lv := [some (.ref 0), some (.int x), some (.int y)]) rfl (by decide) (Nat.le_of_ble_eq_true rfl) ?_
    refine ev_iload_n dX11_symbolicGenerator_0 rfl ?_
    refine ev_callS (cl_isPowerC) ok_X11_isPower ml_X11_188 rfl rfl (Nat.le_of_ble_eq_true rfl) dX11_symbolicGenerator_1 (kI ?_)
    refine ev_if_eqN 22 dX11_symbolicGenerator_4 (by decide) (by omega) (fun c4 => ?_) (fun c4 => ?_)
    · refine ev_iconst (-1) dX11_symbolicGenerator_22 rfl ?_
      refine ev_iret dX11_symbolicGenerator_23 rfl ?_
      exact ⟨rfl, iq.rf, c⟩
    · omega
theorem ms_gen {h h' : MH} (a : mod (fun k => k ≠ 71 ∧ k ≠ 72 ∧ k ≠ 73 ∧ k ≠ 75) (fun j => j ≠ 5 ∧ j ≠ 7 ∧ j ≠ 13) h h') : ms h h' := a.mono (fun k hk => by simp only [scrP] at hk; omega) (fun j hj => by simp only [scrF] at hj; omega)
theorem cl_countGenerators {n N b : Nat} {x : Int32} (g : gM h n N) (ok : gOK n N) (c : cacheM h n N) (hb : b < 2) : Cl G (d + 4) M_X12_countGenerators [.ref 67, .int x, .int (nI b)] h (fun rv h' => rv = some (.int (aRg x 1 3 (fun s => nI (gL n N b s).length))) ∧ ms h h' ∧ cacheM h' n N) := by
  by_cases hx : rg x 1 3
  · have q1 := b01_t hx
    obtain ⟨k, hk, rfl⟩ := rg_p hx
    rw [aRg_p hk]
    refine ev_start 0 (lv := [some (.ref 67), some (.int (nI (k + 1))), some (.int (nI b))]) rfl (by decide) (Nat.le_of_ble_eq_true rfl) ?_
    refine ev_iload_n dX12_countGenerators_0 rfl ?_
    refine ev_callS (cl_isPowerM) ok_X12_isPower ml_X12_185 rfl rfl (Nat.le_of_ble_eq_true rfl) dX12_countGenerators_1 (kI ?_)
    refine ev_if_neN 9 dX12_countGenerators_4 (by decide) (by omega) (fun c4 => ?_) (fun c4 => ?_)
    · refine ev_aload_n dX12_countGenerators_9 rfl ?_
      refine ev_iload_n dX12_countGenerators_10 rfl ?_
      refine ev_iload_n dX12_countGenerators_11 rfl ?_
      refine ev_callV (cl_findGenerators g ok c (by omega) hb) ok_X12_findGenerators ml_X12_188 rfl rfl rfl rfl (Nat.le_of_ble_eq_true rfl) dX12_countGenerators_12 ?_
      rintro rv h1 ⟨rfl, m1, t1, l1⟩
      refine ev_aload_n dX12_countGenerators_15 rfl ?_
      refine ev_getIv (l1.1) fl_X12_177 rfl rfl dX12_countGenerators_16 ?_
      refine ev_iret dX12_countGenerators_19 rfl ?_
      exact ⟨rfl, ms_gen m1, Or.inr t1⟩
    · omega
  · have q1 := b01_f hx
    rw [aRg_f hx]
    refine ev_start 0 (lv := [some (.ref 67), some (.int x), some (.int (nI b))]) rfl (by decide) (Nat.le_of_ble_eq_true rfl) ?_
    refine ev_iload_n dX12_countGenerators_0 rfl ?_
    refine ev_callS (cl_isPowerM) ok_X12_isPower ml_X12_185 rfl rfl (Nat.le_of_ble_eq_true rfl) dX12_countGenerators_1 (kI ?_)
    refine ev_if_neN 9 dX12_countGenerators_4 (by decide) (by omega) (fun c4 => ?_) (fun c4 => ?_)
    · omega
    · refine ev_iconst (-1) dX12_countGenerators_7 rfl ?_
      refine ev_iret dX12_countGenerators_8 rfl ?_
      exact ⟨rfl, mod.rf, c⟩
theorem cl_generatorAt {n N b : Nat} {x y : Int32} (g : gM h n N) (ok : gOK n N) (c : cacheM h n N) (hb : b < 2) : Cl G (d + 4) M_X12_generatorAt [.ref 67, .int x, .int (nI b), .int y] h (fun rv h' => rv = some (.int (aRg x 1 3 (fun s => itL (gL n N b s) y))) ∧ ms h h' ∧ cacheM h' n N) := by
  by_cases hx : rg x 1 3
  · have q1 := b01_t hx
    obtain ⟨k, hk, rfl⟩ := rg_p hx
    have hlen := gL_len (b := b) (s := k + 1) ok
    rw [aRg_p hk]
    by_cases hy : inR y (gL n N b (k + 1)).length
    · obtain ⟨i, hi, rfl⟩ := hy
      rw [show itL (gL n N b (k + 1)) (nI i) = nI ((gL n N b (k + 1)).getD i 0) from itemE_in hi (by omega)]
      refine ev_start 0 (lv := [some (.ref 67), some (.int (nI (k + 1))), some (.int (nI b)), some (.int (nI i))]) rfl (by decide) (Nat.le_of_ble_eq_true rfl) ?_
      refine ev_iload_n dX12_generatorAt_0 rfl ?_
      refine ev_callS (cl_isPowerM) ok_X12_isPower ml_X12_185 rfl rfl (Nat.le_of_ble_eq_true rfl) dX12_generatorAt_1 (kI ?_)
      refine ev_if_eqN 11 dX12_generatorAt_4 (by decide) (by omega) (fun c4 => ?_) (fun c4 => ?_)
      · omega
      · refine ev_iload_n dX12_generatorAt_7 rfl ?_
        refine ev_if_geN 13 dX12_generatorAt_8 (by decide) (by omega) (fun c8 => ?_) (fun c8 => ?_)
        · refine ev_aload_n dX12_generatorAt_13 rfl ?_
          refine ev_iload_n dX12_generatorAt_14 rfl ?_
          refine ev_iload_n dX12_generatorAt_15 rfl ?_
          refine ev_callV (cl_findGenerators g ok c (by omega) hb) ok_X12_findGenerators ml_X12_188 rfl rfl rfl rfl (Nat.le_of_ble_eq_true rfl) dX12_generatorAt_16 ?_
          rintro rv h1 ⟨rfl, m1, t1, l1⟩
          refine ev_iload_n dX12_generatorAt_19 rfl ?_
          refine ev_aload_n dX12_generatorAt_20 rfl ?_
          refine ev_getIv (l1.1) fl_X12_177 rfl rfl dX12_generatorAt_21 ?_
          refine ev_icmp_geN 36 dX12_generatorAt_24 (by decide) (by omega) (by omega) (fun c24 => ?_) (fun c24 => ?_)
          · omega
          · refine ev_aload_n dX12_generatorAt_27 rfl ?_
            refine ev_getR fl_X12_41 rfl rfl dX12_generatorAt_28 ?_
            refine ev_iload_n dX12_generatorAt_31 rfl ?_
            refine ev_ialdv (l1.2 i hi) rfl dX12_generatorAt_32 (by omega) (by omega) ?_
            refine ev_goto 38 dX12_generatorAt_33 (by decide) ?_
            refine ev_iret dX12_generatorAt_38 rfl ?_
            exact ⟨rfl, ms_gen m1, Or.inr t1⟩
        · exact c8.elim
    · skip
      refine ev_start 0 (lv := [some (.ref 67), some (.int (nI (k + 1))), some (.int (nI b)), some (.int y)]) rfl (by decide) (Nat.le_of_ble_eq_true rfl) ?_
      refine ev_iload_n dX12_generatorAt_0 rfl ?_
      refine ev_callS (cl_isPowerM) ok_X12_isPower ml_X12_185 rfl rfl (Nat.le_of_ble_eq_true rfl) dX12_generatorAt_1 (kI ?_)
      refine ev_if_eqN 11 dX12_generatorAt_4 (by decide) (by omega) (fun c4 => ?_) (fun c4 => ?_)
      · omega
      · refine ev_iload_n dX12_generatorAt_7 rfl ?_
        refine ev_if_ge 13 dX12_generatorAt_8 (by decide) (fun c8 => ?_) (fun c8 => ?_)
        · refine ev_aload_n dX12_generatorAt_13 rfl ?_
          refine ev_iload_n dX12_generatorAt_14 rfl ?_
          refine ev_iload_n dX12_generatorAt_15 rfl ?_
          refine ev_callV (cl_findGenerators g ok c (by omega) hb) ok_X12_findGenerators ml_X12_188 rfl rfl rfl rfl (Nat.le_of_ble_eq_true rfl) dX12_generatorAt_16 ?_
          rintro rv h1 ⟨rfl, m1, t1, l1⟩
          refine ev_iload_n dX12_generatorAt_19 rfl ?_
          refine ev_aload_n dX12_generatorAt_20 rfl ?_
          refine ev_getIv (l1.1) fl_X12_177 rfl rfl dX12_generatorAt_21 ?_
          refine ev_icmp_ge 36 dX12_generatorAt_24 (by decide) (fun c24 => ?_) (fun c24 => ?_)
          · refine ev_bipush (-2) dX12_generatorAt_36 rfl ?_
            refine ev_iret dX12_generatorAt_38 rfl ?_
            exact ⟨by rw [show itL (gL n N b (k + 1)) y = -2 from itemE_out (Int32.not_lt.mpr c8) (Int32.not_lt.mpr c24)], ms_gen m1, Or.inr t1⟩
          · exact absurd (inR_of (by omega) (Int32.not_lt.mpr c8) c24) hy
        · refine ev_iconst (-1) dX12_generatorAt_11 rfl ?_
          refine ev_iret dX12_generatorAt_12 rfl ?_
          exact ⟨by rw [show itL (gL n N b (k + 1)) y = -1 from itemE_neg (Int32.not_le.mp c8)], mod.rf, c⟩
  · have q1 := b01_f hx
    rw [aRg_f hx]
    refine ev_start 0 (lv := [some (.ref 67), some (.int x), some (.int (nI b)), some (.int y)]) rfl (by decide) (Nat.le_of_ble_eq_true rfl) ?_
    refine ev_iload_n dX12_generatorAt_0 rfl ?_
    refine ev_callS (cl_isPowerM) ok_X12_isPower ml_X12_185 rfl rfl (Nat.le_of_ble_eq_true rfl) dX12_generatorAt_1 (kI ?_)
    refine ev_if_eqN 11 dX12_generatorAt_4 (by decide) (by omega) (fun c4 => ?_) (fun c4 => ?_)
    · refine ev_iconst (-1) dX12_generatorAt_11 rfl ?_
      refine ev_iret dX12_generatorAt_12 rfl ?_
      exact ⟨rfl, mod.rf, c⟩
    · omega
theorem cl_generatorCountM {n N : Nat} {x : Int32} (g : gM h n N) (ok : gOK n N) (c : cacheM h n N) : Cl G (d + 5) M_X12_generatorCount [.ref 67, .int x] h (fun rv h' => rv = some (.int (aRg x 1 3 (fun s => nI (gnL n N s).length))) ∧ ms h h' ∧ cacheM h' n N) := by
  rw [show (fun s => nI (gnL n N s).length) = (fun s => nI (gL n N 0 s).length) from funext (fun s => by rw [gL_0 ok])]
  refine ev_start 0 (lv := [some (.ref 67), some (.int x)]) rfl (by decide) (Nat.le_of_ble_eq_true rfl) ?_
  refine ev_aload_n dX12_generatorCount_0 rfl ?_
  refine ev_iload_n dX12_generatorCount_1 rfl ?_
  refine ev_iconst (nI 0) dX12_generatorCount_2 rfl ?_
  refine ev_callV (cl_countGenerators g ok c (by decide)) ok_X12_countGenerators ml_X12_192 rfl rfl rfl rfl (Nat.le_of_ble_eq_true rfl) dX12_generatorCount_3 ?_
  rintro rv h1 ⟨rfl, m1, t1⟩
  refine ev_iret dX12_generatorCount_6 rfl ?_
  exact ⟨rfl, m1, t1⟩
theorem cl_generatorM {n N : Nat} {x y : Int32} (g : gM h n N) (ok : gOK n N) (c : cacheM h n N) : Cl G (d + 5) M_X12_generator [.ref 67, .int x, .int y] h (fun rv h' => rv = some (.int (aRg x 1 3 (fun s => itL (gnL n N s) y))) ∧ ms h h' ∧ cacheM h' n N) := by
  rw [show (fun s => itL (gnL n N s) y) = (fun s => itL (gL n N 0 s) y) from funext (fun s => by rw [gL_0 ok])]
  refine ev_start 0 (lv := [some (.ref 67), some (.int x), some (.int y)]) rfl (by decide) (Nat.le_of_ble_eq_true rfl) ?_
  refine ev_aload_n dX12_generator_0 rfl ?_
  refine ev_iload_n dX12_generator_1 rfl ?_
  refine ev_iconst (nI 0) dX12_generator_2 rfl ?_
  refine ev_iload_n dX12_generator_3 rfl ?_
  refine ev_callV (cl_generatorAt g ok c (by decide)) ok_X12_generatorAt ml_X12_196 rfl rfl rfl rfl (Nat.le_of_ble_eq_true rfl) dX12_generator_4 ?_
  rintro rv h1 ⟨rfl, m1, t1⟩
  refine ev_iret dX12_generator_7 rfl ?_
  exact ⟨rfl, m1, t1⟩
theorem cl_symbolicGeneratorCountM {n N : Nat} {x : Int32} (g : gM h n N) (ok : gOK n N) (c : cacheM h n N) : Cl G (d + 5) M_X12_symbolicGeneratorCount [.ref 67, .int x] h (fun rv h' => rv = some (.int (aRg x 1 3 (fun s => nI (sgL n N s).length))) ∧ ms h h' ∧ cacheM h' n N) := by
  rw [show (fun s => nI (sgL n N s).length) = (fun s => nI (gL n N 1 s).length) from funext (fun s => by rw [gL_1])]
  refine ev_start 0 (lv := [some (.ref 67), some (.int x)]) rfl (by decide) (Nat.le_of_ble_eq_true rfl) ?_
  refine ev_aload_n dX12_symbolicGeneratorCount_0 rfl ?_
  refine ev_iload_n dX12_symbolicGeneratorCount_1 rfl ?_
  refine ev_iconst (nI 1) dX12_symbolicGeneratorCount_2 rfl ?_
  refine ev_callV (cl_countGenerators g ok c (by decide)) ok_X12_countGenerators ml_X12_192 rfl rfl rfl rfl (Nat.le_of_ble_eq_true rfl) dX12_symbolicGeneratorCount_3 ?_
  rintro rv h1 ⟨rfl, m1, t1⟩
  refine ev_iret dX12_symbolicGeneratorCount_6 rfl ?_
  exact ⟨rfl, m1, t1⟩
theorem cl_symbolicGeneratorM {n N : Nat} {x y : Int32} (g : gM h n N) (ok : gOK n N) (c : cacheM h n N) : Cl G (d + 5) M_X12_symbolicGenerator [.ref 67, .int x, .int y] h (fun rv h' => rv = some (.int (aRg x 1 3 (fun s => itL (sgL n N s) y))) ∧ ms h h' ∧ cacheM h' n N) := by
  rw [show (fun s => itL (sgL n N s) y) = (fun s => itL (gL n N 1 s) y) from funext (fun s => by rw [gL_1])]
  refine ev_start 0 (lv := [some (.ref 67), some (.int x), some (.int y)]) rfl (by decide) (Nat.le_of_ble_eq_true rfl) ?_
  refine ev_aload_n dX12_symbolicGenerator_0 rfl ?_
  refine ev_iload_n dX12_symbolicGenerator_1 rfl ?_
  refine ev_iconst (nI 1) dX12_symbolicGenerator_2 rfl ?_
  refine ev_iload_n dX12_symbolicGenerator_3 rfl ?_
  refine ev_callV (cl_generatorAt g ok c (by decide)) ok_X12_generatorAt ml_X12_196 rfl rfl rfl rfl (Nat.le_of_ble_eq_true rfl) dX12_symbolicGenerator_4 ?_
  rintro rv h1 ⟨rfl, m1, t1⟩
  refine ev_iret dX12_symbolicGenerator_7 rfl ?_
  exact ⟨rfl, m1, t1⟩
end Q5
