section PASS
variable {G : MG} {d : Nat} {h : MH}
/-- what a test says of m, when F tells what the lower ones say -/
def hvK (n N m : Nat) (F : Nat → Prop) (x : Tst) : Prop := match x.1 with
  | 0 => deg m = x.2.1
  | 1 => x.2.2 ≤ ex m x.2.1
  | 2 => m &&& 10922 = 0
  | 3 => x.2.1 ≤ ord n N m
  | 4 => x.2.1 ≤ so n N m
  | 5 => F x.2.1 ∧ F x.2.2
  | 6 => F x.2.1 ∨ F x.2.2
  | _ => ¬ F x.2.1
noncomputable def accF (n N m : Nat) (T : List Tst) : Nat → Nat
  | 0 => 0
  | t + 1 => accF n N m T t ||| b01 (hvK n N m (fun u => (accF n N m T t).testBit u = true) (tg T t)) * 2 ^ t
def PS (n N m : Nat) (T : List Tst) (t : Nat) : Prop := (accF n N m T (t + 1)).testBit t = true
theorem accF_lt {n N m : Nat} {T : List Tst} (t : Nat) : accF n N m T t < 2 ^ t := by
  induction t with
  | zero => exact Nat.one_pos
  | succ t ih =>
    rw [accF]
    refine Nat.or_lt_two_pow (Nat.lt_of_lt_of_le ih (Nat.pow_le_pow_right (by decide) (by omega))) ?_
    have := b01_lt (hvK n N m (fun u => (accF n N m T t).testBit u = true) (tg T t))
    have p := Nat.pow_pos (n := t) (show 0 < 2 by decide)
    rw [Nat.pow_succ]
    rcases (show b01 (hvK n N m (fun u => (accF n N m T t).testBit u = true) (tg T t)) = 0 ∨ b01 (hvK n N m (fun u => (accF n N m T t).testBit u = true) (tg T t)) = 1 by omega) with e | e <;> rw [e] <;> omega
theorem b01_bit (P : Prop) (t u : Nat) : (b01 P * 2 ^ t).testBit u = true ↔ P ∧ u = t := by
  by_cases c : P
  · rw [b01_t c, Nat.one_mul, Nat.testBit_two_pow, decide_eq_true_eq]
    exact ⟨fun e => ⟨c, e.symm⟩, fun e => e.2.symm⟩
  · rw [b01_f c, Nat.zero_mul, Nat.zero_testBit]
    exact ⟨fun e => absurd e (by decide), fun e => absurd e.1 c⟩
theorem accF_bit {n N m : Nat} {T : List Tst} (t u : Nat) (hu : u < t) : (accF n N m T t).testBit u = true ↔ PS n N m T u := by
  induction t with
  | zero => omega
  | succ t ih =>
    by_cases e : u = t
    · subst e; exact Iff.rfl
    · rw [accF, Nat.testBit_or, Bool.or_eq_true, ih (by omega), b01_bit]
      exact ⟨fun z => z.elim id (fun w => absurd w.2 e), Or.inl⟩
theorem hvK_cg {n N m t : Nat} {F F' : Nat → Prop} {x : Tst} (ok : okK t x) (hF : 5 ≤ x.1 → (F x.2.1 ↔ F' x.2.1) ∧ (F x.2.2 ↔ F' x.2.2)) : hvK n N m F x ↔ hvK n N m F' x := by
  obtain ⟨k, a, b⟩ := x
  have h1 : k ≤ 7 := ok.1
  have h2 : 5 ≤ k → (F a ↔ F' a) ∧ (F b ↔ F' b) := hF
  rcases (show k = 0 ∨ k = 1 ∨ k = 2 ∨ k = 3 ∨ k = 4 ∨ k = 5 ∨ k = 6 ∨ k = 7 by omega) with rfl | rfl | rfl | rfl | rfl | rfl | rfl | rfl
  · exact Iff.rfl
  · exact Iff.rfl
  · exact Iff.rfl
  · exact Iff.rfl
  · exact Iff.rfl
  · have q := h2 (by decide)
    show F a ∧ F b ↔ F' a ∧ F' b
    rw [q.1, q.2]
  · have q := h2 (by decide)
    show F a ∨ F b ↔ F' a ∨ F' b
    rw [q.1, q.2]
  · have q := h2 (by decide)
    show ¬ F a ↔ ¬ F' a
    rw [q.1]
theorem PS_iff {n N m t : Nat} {T : List Tst} (o : okT T) (ht : t < T.length) : PS n N m T t ↔ hvK n N m (PS n N m T) (tg T t) := by
  have e : PS n N m T t ↔ hvK n N m (fun u => (accF n N m T t).testBit u = true) (tg T t) := by
    unfold PS
    rw [accF, Nat.testBit_or, Bool.or_eq_true, b01_bit, Nat.testBit_lt_two_pow (accF_lt t)]
    exact ⟨fun z => z.elim (fun w => absurd w (by decide)) And.left, fun z => Or.inr ⟨z, rfl⟩⟩
  rw [e]
  have k := o.2 t ht
  exact hvK_cg k (fun z => ⟨accF_bit t _ (k.2.2.2.2.1 z).1, accF_bit t _ (k.2.2.2.2.1 z).2⟩)
theorem rv1 {P : Prop} (h : P) : (some (Value.int (nI 1)) : Option Value) = some (.int (nI (b01 P))) := by rw [b01_t h]
theorem rv0 {P : Prop} (h : ¬ P) : (some (Value.int (nI 0)) : Option Value) = some (.int (nI (b01 P))) := by rw [b01_f h]
theorem sqf {m : Nat} (hm : m < 16384) : andn m 5461 = 0 ↔ m &&& 10922 = 0 := by
  have key : ∀ i, i < 14 → (!(5461).testBit i) = (10922).testBit i := by decide
  have e : andn m 5461 = m &&& 10922 := Nat.eq_of_testBit_eq fun i => by
    rw [andn_bit, Nat.testBit_and]
    by_cases c : i < 14
    · rw [key i c]
    · rw [Nat.testBit_lt_two_pow (Nat.lt_of_lt_of_le (show m < 2 ^ 14 from hm) (Nat.pow_le_pow_right (by decide) (by omega)))]; rfl
  rw [e]
theorem sh_and (A a b : Nat) : ¬ (A / 2 ^ a &&& A / 2 ^ b &&& 1 = 0) ↔ A.testBit a = true ∧ A.testBit b = true := by
  rw [show A / 2 ^ a &&& A / 2 ^ b &&& 1 = (A / 2 ^ a &&& A / 2 ^ b) / 2 ^ 0 &&& 1 by rw [Nat.pow_zero, Nat.div_one], tb_n0, Nat.testBit_and, Nat.testBit_div_two_pow, Nat.testBit_div_two_pow, Nat.zero_add, Nat.zero_add, Bool.and_eq_true]
theorem sh_or (A a b : Nat) : ¬ ((A / 2 ^ a ||| A / 2 ^ b) &&& 1 = 0) ↔ A.testBit a = true ∨ A.testBit b = true := by
  rw [show (A / 2 ^ a ||| A / 2 ^ b) &&& 1 = (A / 2 ^ a ||| A / 2 ^ b) / 2 ^ 0 &&& 1 by rw [Nat.pow_zero, Nat.div_one], tb_n0, Nat.testBit_or, Nat.testBit_div_two_pow, Nat.testBit_div_two_pow, Nat.zero_add, Nat.zero_add, Bool.or_eq_true]
abbrev qH (n N : Nat) (h : MH) (P : Prop) : Option Value → MH → Prop := fun rv h' => rv = some (.int (nI (b01 P))) ∧ iq n N h h' ∧ cI h' n N
theorem cl_holds {n N m t Acc : Nat} {T : List Tst} (g : gC h n N) (ok : gOK n N) (c : cI h n N) (hm : m < 4 ^ n) (tc : tC h T) (o : okT T) (ht : t < T.length) (hA : Acc < 256) : Cl G (d + 4) M_X10_holds [.ref 34, .int (nI t), .int (nI m), .int (nI Acc), .ref 4] h (qH n N h (hvK n N m (fun u => Acc.testBit u = true) (tg T t))) := by
  have hn := ok.2.1
  have h4 := four_n hn
  have l8 := o.1
  have k8 := o.2 t ht
  obtain ⟨e1, e2, e3, -⟩ := tc.2 t ht
  have v1 := ord_le ok (m := m)
  have v2 := so_le n N m
  have xl := ex_lt m
  generalize tg T t = x at *
  obtain ⟨k, a, b⟩ := x
  obtain ⟨x1, x2, x3, x4, x5, x6⟩ := k8
  simp only at x1 x2 x3 x4 x5 x6 e1 e2 e3
  rcases (show k = 0 ∨ k = 1 ∨ k = 2 ∨ k = 3 ∨ k = 4 ∨ k = 5 ∨ k = 6 ∨ k = 7 by omega) with rfl | rfl | rfl | rfl | rfl | rfl | rfl | rfl
  · skip
    refine ev_start 2 (lv := [some (.ref 34), some (.int (nI t)), some (.int (nI m)), some (.int (nI Acc)), some (.ref 4), none, none]) rfl (by decide) (Nat.le_of_ble_eq_true rfl) ?_
    refine ev_aload_n dX10_holds_0 rfl ?_
    refine ev_getR fl_X10_15 rfl rfl dX10_holds_1 ?_
    refine ev_iload_n dX10_holds_4 rfl ?_
    refine ev_ialdv (e2) rfl dX10_holds_5 (by omega) (by omega) ?_
    refine ev_ist5 dX10_holds_6 (by decide) rfl ?_
    refine ev_aload_n dX10_holds_8 rfl ?_
    refine ev_getR fl_X10_18 rfl rfl dX10_holds_9 ?_
    refine ev_iload_n dX10_holds_12 rfl ?_
    refine ev_ialdv (e3) rfl dX10_holds_13 (by omega) (by omega) ?_
    refine ev_ist6 dX10_holds_14 (by decide) rfl ?_
    refine ev_aload_n dX10_holds_16 rfl ?_
    refine ev_getR fl_X10_11 rfl rfl dX10_holds_17 ?_
    refine ev_iload_n dX10_holds_20 rfl ?_
    refine ev_ialdv (e1) rfl dX10_holds_21 (by omega) (by omega) ?_
    refine ev_tsIn 64 dX10_holds_22 (by decide) (by decide) rfl (by decide) ?_
    refine ev_iload_n dX10_holds_64 rfl ?_
    refine ev_callS (cl_degreeOf (by omega)) ok_X6_degreeOf ml_X10_32 rfl rfl (Nat.le_of_ble_eq_true rfl) dX10_holds_65 (kI ?_)
    refine ev_iload dX10_holds_68 rfl ?_
    refine ev_icmp_neN 77 dX10_holds_70 (by decide) (by have := deg_le (m := m); omega) (by omega) (fun c70 => ?_) (fun c70 => ?_)
    · refine ev_iconst (nI 0) dX10_holds_77 rfl ?_
      refine ev_zret dX10_holds_78 rfl rfl ?_
      exact ⟨rv0 (show ¬ deg m = a from c70), iq.rf, c⟩
    · refine ev_iconst (nI 1) dX10_holds_73 rfl ?_
      refine ev_goto 78 dX10_holds_74 (by decide) ?_
      refine ev_zret dX10_holds_78 rfl rfl ?_
      exact ⟨rv1 (show deg m = a by omega), iq.rf, c⟩
  · skip
    refine ev_start 2 (lv := [some (.ref 34), some (.int (nI t)), some (.int (nI m)), some (.int (nI Acc)), some (.ref 4), none, none]) rfl (by decide) (Nat.le_of_ble_eq_true rfl) ?_
    refine ev_aload_n dX10_holds_0 rfl ?_
    refine ev_getR fl_X10_15 rfl rfl dX10_holds_1 ?_
    refine ev_iload_n dX10_holds_4 rfl ?_
    refine ev_ialdv (e2) rfl dX10_holds_5 (by omega) (by omega) ?_
    refine ev_ist5 dX10_holds_6 (by decide) rfl ?_
    refine ev_aload_n dX10_holds_8 rfl ?_
    refine ev_getR fl_X10_18 rfl rfl dX10_holds_9 ?_
    refine ev_iload_n dX10_holds_12 rfl ?_
    refine ev_ialdv (e3) rfl dX10_holds_13 (by omega) (by omega) ?_
    refine ev_ist6 dX10_holds_14 (by decide) rfl ?_
    refine ev_aload_n dX10_holds_16 rfl ?_
    refine ev_getR fl_X10_11 rfl rfl dX10_holds_17 ?_
    refine ev_iload_n dX10_holds_20 rfl ?_
    refine ev_ialdv (e1) rfl dX10_holds_21 (by omega) (by omega) ?_
    refine ev_tsIn 79 dX10_holds_22 (by decide) (by decide) rfl (by decide) ?_
    refine ev_iload_n dX10_holds_79 rfl ?_
    refine ev_iload dX10_holds_80 rfl ?_
    refine ev_callS (cl_exponentOf (by omega) (by have := x4 rfl; omega)) ok_X6_exponentOf ml_X10_38 rfl rfl (Nat.le_of_ble_eq_true rfl) dX10_holds_82 (kI ?_)
    refine ev_iload dX10_holds_85 rfl ?_
    refine ev_icmp_ltN 94 dX10_holds_87 (by decide) (by have := xl a; omega) (by omega) (fun c87 => ?_) (fun c87 => ?_)
    · refine ev_iconst (nI 0) dX10_holds_94 rfl ?_
      refine ev_zret dX10_holds_95 rfl rfl ?_
      exact ⟨rv0 (show ¬ b ≤ ex m a by omega), iq.rf, c⟩
    · refine ev_iconst (nI 1) dX10_holds_90 rfl ?_
      refine ev_goto 95 dX10_holds_91 (by decide) ?_
      refine ev_zret dX10_holds_95 rfl rfl ?_
      exact ⟨rv1 (show b ≤ ex m a by omega), iq.rf, c⟩
  · skip
    refine ev_start 2 (lv := [some (.ref 34), some (.int (nI t)), some (.int (nI m)), some (.int (nI Acc)), some (.ref 4), none, none]) rfl (by decide) (Nat.le_of_ble_eq_true rfl) ?_
    refine ev_aload_n dX10_holds_0 rfl ?_
    refine ev_getR fl_X10_15 rfl rfl dX10_holds_1 ?_
    refine ev_iload_n dX10_holds_4 rfl ?_
    refine ev_ialdv (e2) rfl dX10_holds_5 (by omega) (by omega) ?_
    refine ev_ist5 dX10_holds_6 (by decide) rfl ?_
    refine ev_aload_n dX10_holds_8 rfl ?_
    refine ev_getR fl_X10_18 rfl rfl dX10_holds_9 ?_
    refine ev_iload_n dX10_holds_12 rfl ?_
    refine ev_ialdv (e3) rfl dX10_holds_13 (by omega) (by omega) ?_
    refine ev_ist6 dX10_holds_14 (by decide) rfl ?_
    refine ev_aload_n dX10_holds_16 rfl ?_
    refine ev_getR fl_X10_11 rfl rfl dX10_holds_17 ?_
    refine ev_iload_n dX10_holds_20 rfl ?_
    refine ev_ialdv (e1) rfl dX10_holds_21 (by omega) (by omega) ?_
    refine ev_tsIn 96 dX10_holds_22 (by decide) (by decide) rfl (by decide) ?_
    refine ev_iload_n dX10_holds_96 rfl ?_
    refine ev_sipush (-5462) dX10_holds_97 rfl ?_
    rw [show (-5462 : Int32) = nI 5461 ^^^ (-1) by decide]
    refine ev_iandC dX10_holds_100 ?_
    refine ev_if_neN 108 dX10_holds_101 (by decide) (by have := andn_le m 5461; omega) (fun c101 => ?_) (fun c101 => ?_)
    · refine ev_iconst (nI 0) dX10_holds_108 rfl ?_
      refine ev_zret dX10_holds_109 rfl rfl ?_
      exact ⟨rv0 (show ¬ m &&& 10922 = 0 from fun z => c101 ((sqf (by omega)).mpr z)), iq.rf, c⟩
    · refine ev_iconst (nI 1) dX10_holds_104 rfl ?_
      refine ev_goto 109 dX10_holds_105 (by decide) ?_
      refine ev_zret dX10_holds_109 rfl rfl ?_
      exact ⟨rv1 (show m &&& 10922 = 0 from (sqf (by omega)).mp (by omega)), iq.rf, c⟩
  · skip
    refine ev_start 2 (lv := [some (.ref 34), some (.int (nI t)), some (.int (nI m)), some (.int (nI Acc)), some (.ref 4), none, none]) rfl (by decide) (Nat.le_of_ble_eq_true rfl) ?_
    refine ev_aload_n dX10_holds_0 rfl ?_
    refine ev_getR fl_X10_15 rfl rfl dX10_holds_1 ?_
    refine ev_iload_n dX10_holds_4 rfl ?_
    refine ev_ialdv (e2) rfl dX10_holds_5 (by omega) (by omega) ?_
    refine ev_ist5 dX10_holds_6 (by decide) rfl ?_
    refine ev_aload_n dX10_holds_8 rfl ?_
    refine ev_getR fl_X10_18 rfl rfl dX10_holds_9 ?_
    refine ev_iload_n dX10_holds_12 rfl ?_
    refine ev_ialdv (e3) rfl dX10_holds_13 (by omega) (by omega) ?_
    refine ev_ist6 dX10_holds_14 (by decide) rfl ?_
    refine ev_aload_n dX10_holds_16 rfl ?_
    refine ev_getR fl_X10_11 rfl rfl dX10_holds_17 ?_
    refine ev_iload_n dX10_holds_20 rfl ?_
    refine ev_ialdv (e1) rfl dX10_holds_21 (by omega) (by omega) ?_
    refine ev_tsIn 110 dX10_holds_22 (by decide) (by decide) rfl (by decide) ?_
    refine ev_aload dX10_holds_110 rfl ?_
    refine ev_iload_n dX10_holds_112 rfl ?_
    refine ev_callV (cl_po g ok c hm) ok_X2_powerOrderOf ml_X10_42 rfl rfl rfl rfl (Nat.le_of_ble_eq_true rfl) dX10_holds_113 ?_
    rintro rv h2 ⟨rfl, sm, sj, c2, ko, k1, k2, k3⟩
    have i2 : iq n N h h2 := ⟨sm.mono (fun k hk => by omega), fun ko0 q => ⟨ko, k3 ko0 q, k2⟩⟩
    refine ev_iload dX10_holds_116 rfl ?_
    refine ev_icmp_ltN 125 dX10_holds_118 (by decide) (by omega) (by omega) (fun c118 => ?_) (fun c118 => ?_)
    · refine ev_iconst (nI 0) dX10_holds_125 rfl ?_
      refine ev_zret dX10_holds_126 rfl rfl ?_
      exact ⟨rv0 (show ¬ a ≤ ord n N m by omega), i2, c2⟩
    · refine ev_iconst (nI 1) dX10_holds_121 rfl ?_
      refine ev_goto 126 dX10_holds_122 (by decide) ?_
      refine ev_zret dX10_holds_126 rfl rfl ?_
      exact ⟨rv1 (show a ≤ ord n N m by omega), i2, c2⟩
  · skip
    refine ev_start 2 (lv := [some (.ref 34), some (.int (nI t)), some (.int (nI m)), some (.int (nI Acc)), some (.ref 4), none, none]) rfl (by decide) (Nat.le_of_ble_eq_true rfl) ?_
    refine ev_aload_n dX10_holds_0 rfl ?_
    refine ev_getR fl_X10_15 rfl rfl dX10_holds_1 ?_
    refine ev_iload_n dX10_holds_4 rfl ?_
    refine ev_ialdv (e2) rfl dX10_holds_5 (by omega) (by omega) ?_
    refine ev_ist5 dX10_holds_6 (by decide) rfl ?_
    refine ev_aload_n dX10_holds_8 rfl ?_
    refine ev_getR fl_X10_18 rfl rfl dX10_holds_9 ?_
    refine ev_iload_n dX10_holds_12 rfl ?_
    refine ev_ialdv (e3) rfl dX10_holds_13 (by omega) (by omega) ?_
    refine ev_ist6 dX10_holds_14 (by decide) rfl ?_
    refine ev_aload_n dX10_holds_16 rfl ?_
    refine ev_getR fl_X10_11 rfl rfl dX10_holds_17 ?_
    refine ev_iload_n dX10_holds_20 rfl ?_
    refine ev_ialdv (e1) rfl dX10_holds_21 (by omega) (by omega) ?_
    refine ev_tsIn 127 dX10_holds_22 (by decide) (by decide) rfl (by decide) ?_
    refine ev_aload dX10_holds_127 rfl ?_
    refine ev_iload_n dX10_holds_129 rfl ?_
    refine ev_callV (cl_so g ok c hm) ok_X2_symbolicOrderOf ml_X10_47 rfl rfl rfl rfl (Nat.le_of_ble_eq_true rfl) dX10_holds_130 ?_
    rintro rv h2 ⟨rfl, sm, sj, c2⟩
    have i2 : iq n N h h2 := iq_of (sm.mono (fun k hk => by omega)) (sj 2 (by decide)) (sm 5 (by decide)).1
    refine ev_iload dX10_holds_133 rfl ?_
    refine ev_icmp_ltN 142 dX10_holds_135 (by decide) (by omega) (by omega) (fun c135 => ?_) (fun c135 => ?_)
    · refine ev_iconst (nI 0) dX10_holds_142 rfl ?_
      refine ev_zret dX10_holds_143 rfl rfl ?_
      exact ⟨rv0 (show ¬ a ≤ so n N m by omega), i2, c2⟩
    · refine ev_iconst (nI 1) dX10_holds_138 rfl ?_
      refine ev_goto 143 dX10_holds_139 (by decide) ?_
      refine ev_zret dX10_holds_143 rfl rfl ?_
      exact ⟨rv1 (show a ≤ so n N m by omega), i2, c2⟩
  · skip
    refine ev_start 2 (lv := [some (.ref 34), some (.int (nI t)), some (.int (nI m)), some (.int (nI Acc)), some (.ref 4), none, none]) rfl (by decide) (Nat.le_of_ble_eq_true rfl) ?_
    refine ev_aload_n dX10_holds_0 rfl ?_
    refine ev_getR fl_X10_15 rfl rfl dX10_holds_1 ?_
    refine ev_iload_n dX10_holds_4 rfl ?_
    refine ev_ialdv (e2) rfl dX10_holds_5 (by omega) (by omega) ?_
    refine ev_ist5 dX10_holds_6 (by decide) rfl ?_
    refine ev_aload_n dX10_holds_8 rfl ?_
    refine ev_getR fl_X10_18 rfl rfl dX10_holds_9 ?_
    refine ev_iload_n dX10_holds_12 rfl ?_
    refine ev_ialdv (e3) rfl dX10_holds_13 (by omega) (by omega) ?_
    refine ev_ist6 dX10_holds_14 (by decide) rfl ?_
    refine ev_aload_n dX10_holds_16 rfl ?_
    refine ev_getR fl_X10_11 rfl rfl dX10_holds_17 ?_
    refine ev_iload_n dX10_holds_20 rfl ?_
    refine ev_ialdv (e1) rfl dX10_holds_21 (by omega) (by omega) ?_
    refine ev_tsIn 144 dX10_holds_22 (by decide) (by decide) rfl (by decide) ?_
    refine ev_iload_n dX10_holds_144 rfl ?_
    refine ev_iload dX10_holds_145 rfl ?_
    refine ev_ishrN dX10_holds_147 (by omega) (by omega) ?_
    refine ev_iload_n dX10_holds_148 rfl ?_
    refine ev_iload dX10_holds_149 rfl ?_
    refine ev_ishrN dX10_holds_151 (by omega) (by omega) ?_
    refine ev_iandN dX10_holds_152 ?_
    refine ev_iconst (nI 1) dX10_holds_153 rfl ?_
    refine ev_iandN dX10_holds_154 ?_
    refine ev_if_eqN 162 dX10_holds_155 (by decide) (by have : Acc / 2 ^ a &&& Acc / 2 ^ b &&& 1 ≤ 1 := Nat.and_le_right; omega) (fun c155 => ?_) (fun c155 => ?_)
    · refine ev_iconst (nI 0) dX10_holds_162 rfl ?_
      refine ev_zret dX10_holds_163 rfl rfl ?_
      exact ⟨rv0 (show ¬ (Acc.testBit a = true ∧ Acc.testBit b = true) from fun z => (sh_and Acc a b).mpr z c155), iq.rf, c⟩
    · refine ev_iconst (nI 1) dX10_holds_158 rfl ?_
      refine ev_goto 163 dX10_holds_159 (by decide) ?_
      refine ev_zret dX10_holds_163 rfl rfl ?_
      exact ⟨rv1 (show Acc.testBit a = true ∧ Acc.testBit b = true from (sh_and Acc a b).mp c155), iq.rf, c⟩
  · skip
    refine ev_start 2 (lv := [some (.ref 34), some (.int (nI t)), some (.int (nI m)), some (.int (nI Acc)), some (.ref 4), none, none]) rfl (by decide) (Nat.le_of_ble_eq_true rfl) ?_
    refine ev_aload_n dX10_holds_0 rfl ?_
    refine ev_getR fl_X10_15 rfl rfl dX10_holds_1 ?_
    refine ev_iload_n dX10_holds_4 rfl ?_
    refine ev_ialdv (e2) rfl dX10_holds_5 (by omega) (by omega) ?_
    refine ev_ist5 dX10_holds_6 (by decide) rfl ?_
    refine ev_aload_n dX10_holds_8 rfl ?_
    refine ev_getR fl_X10_18 rfl rfl dX10_holds_9 ?_
    refine ev_iload_n dX10_holds_12 rfl ?_
    refine ev_ialdv (e3) rfl dX10_holds_13 (by omega) (by omega) ?_
    refine ev_ist6 dX10_holds_14 (by decide) rfl ?_
    refine ev_aload_n dX10_holds_16 rfl ?_
    refine ev_getR fl_X10_11 rfl rfl dX10_holds_17 ?_
    refine ev_iload_n dX10_holds_20 rfl ?_
    refine ev_ialdv (e1) rfl dX10_holds_21 (by omega) (by omega) ?_
    refine ev_tsIn 164 dX10_holds_22 (by decide) (by decide) rfl (by decide) ?_
    refine ev_iload_n dX10_holds_164 rfl ?_
    refine ev_iload dX10_holds_165 rfl ?_
    refine ev_ishrN dX10_holds_167 (by omega) (by omega) ?_
    refine ev_iload_n dX10_holds_168 rfl ?_
    refine ev_iload dX10_holds_169 rfl ?_
    refine ev_ishrN dX10_holds_171 (by omega) (by omega) ?_
    refine ev_iorN dX10_holds_172 ?_
    refine ev_iconst (nI 1) dX10_holds_173 rfl ?_
    refine ev_iandN dX10_holds_174 ?_
    refine ev_if_eqN 182 dX10_holds_175 (by decide) (by have : (Acc / 2 ^ a ||| Acc / 2 ^ b) &&& 1 ≤ 1 := Nat.and_le_right; omega) (fun c175 => ?_) (fun c175 => ?_)
    · refine ev_iconst (nI 0) dX10_holds_182 rfl ?_
      refine ev_zret dX10_holds_183 rfl rfl ?_
      exact ⟨rv0 (show ¬ (Acc.testBit a = true ∨ Acc.testBit b = true) from fun z => (sh_or Acc a b).mpr z c175), iq.rf, c⟩
    · refine ev_iconst (nI 1) dX10_holds_178 rfl ?_
      refine ev_goto 183 dX10_holds_179 (by decide) ?_
      refine ev_zret dX10_holds_183 rfl rfl ?_
      exact ⟨rv1 (show Acc.testBit a = true ∨ Acc.testBit b = true from (sh_or Acc a b).mp c175), iq.rf, c⟩
  · skip
    refine ev_start 2 (lv := [some (.ref 34), some (.int (nI t)), some (.int (nI m)), some (.int (nI Acc)), some (.ref 4), none, none]) rfl (by decide) (Nat.le_of_ble_eq_true rfl) ?_
    refine ev_aload_n dX10_holds_0 rfl ?_
    refine ev_getR fl_X10_15 rfl rfl dX10_holds_1 ?_
    refine ev_iload_n dX10_holds_4 rfl ?_
    refine ev_ialdv (e2) rfl dX10_holds_5 (by omega) (by omega) ?_
    refine ev_ist5 dX10_holds_6 (by decide) rfl ?_
    refine ev_aload_n dX10_holds_8 rfl ?_
    refine ev_getR fl_X10_18 rfl rfl dX10_holds_9 ?_
    refine ev_iload_n dX10_holds_12 rfl ?_
    refine ev_ialdv (e3) rfl dX10_holds_13 (by omega) (by omega) ?_
    refine ev_ist6 dX10_holds_14 (by decide) rfl ?_
    refine ev_aload_n dX10_holds_16 rfl ?_
    refine ev_getR fl_X10_11 rfl rfl dX10_holds_17 ?_
    refine ev_iload_n dX10_holds_20 rfl ?_
    refine ev_ialdv (e1) rfl dX10_holds_21 (by omega) (by omega) ?_
    refine ev_tsOut 184 dX10_holds_22 (by decide) (by decide) ?_
    refine ev_iload_n dX10_holds_184 rfl ?_
    refine ev_iload dX10_holds_185 rfl ?_
    refine ev_ishrN dX10_holds_187 (by omega) (by omega) ?_
    refine ev_iconst (nI 1) dX10_holds_188 rfl ?_
    refine ev_iandN dX10_holds_189 ?_
    refine ev_if_neN 197 dX10_holds_190 (by decide) (by have := tb_lt1 Acc a; omega) (fun c190 => ?_) (fun c190 => ?_)
    · refine ev_iconst (nI 0) dX10_holds_197 rfl ?_
      refine ev_zret dX10_holds_198 rfl rfl ?_
      exact ⟨rv0 (show ¬ ¬ Acc.testBit a = true from fun z => z ((tb_n0 Acc a).mp c190)), iq.rf, c⟩
    · refine ev_iconst (nI 1) dX10_holds_193 rfl ?_
      refine ev_goto 198 dX10_holds_194 (by decide) ?_
      refine ev_zret dX10_holds_198 rfl rfl ?_
      exact ⟨rv1 (show ¬ Acc.testBit a = true from fun z => (tb_n0 Acc a).mpr z (by omega)), iq.rf, c⟩
theorem tC_iq {n N : Nat} {h' : MH} {T : List Tst} (t : tC h T) (q : iq n N h h') : tC h' T := by
  unfold tC
  rw [(q.1 34 (by omega)).1, (q.1 35 (by omega)).1, (q.1 36 (by omega)).1, (q.1 37 (by omega)).1, (q.1 38 (by omega)).1]
  exact t
theorem cl_accepts {n N m t : Nat} {T : List Tst} (g : gC h n N) (ok : gOK n N) (c : cI h n N) (hm : m < 4 ^ n) (tc : tC h T) (o : okT T) (ht : t < T.length) : Cl G (d + 5) M_X10_accepts [.ref 34, .int (nI t), .int (nI m), .ref 4] h (qH n N h (PS n N m T t)) := by
  have hn := ok.2.1
  have h4 := four_n hn
  have l8 := o.1
  obtain ⟨-, -, -, p, ep, cp⟩ := tc.2 t ht
  have loop : ∀ (j v : Nat) (Acc : Nat) (h1 : MH), v + j = t + 1 → Acc < 256 → (∀ u, Acc.testBit u = true ↔ u < v ∧ p.testBit u = true ∧ PS n N m T u) → iq n N h h1 → cI h1 n N → Ev G (d + 5) M_X10_accepts 6 [some (.ref 34), some (.int (nI t)), some (.int (nI m)), some (.ref 4), some (.int (nI Acc)), some (.int (nI v))] [] h1 (qH n N h (PS n N m T t)) := by
    intro j
    induction j with
    | zero =>
      intro v Acc h1 hv hA hb i1 c1
      obtain rfl : v = t + 1 := by omega
      have hbt : Acc.testBit t = true ↔ PS n N m T t := by
        rw [hb t]; exact ⟨fun z => z.2.2, fun z => ⟨by omega, cp.2.1, z⟩⟩
      refine ev_iload dX10_accepts_6 rfl ?_
      refine ev_iload_n dX10_accepts_8 rfl ?_
      refine ev_icmp_gtN 54 dX10_accepts_9 (by decide) (by omega) (by omega) (fun c9 => ?_) (fun c9 => ?_)
      · refine ev_iload dX10_accepts_54 rfl ?_
        refine ev_iload_n dX10_accepts_56 rfl ?_
        refine ev_ishrN dX10_accepts_57 (by omega) (by omega) ?_
        refine ev_iconst (nI 1) dX10_accepts_58 rfl ?_
        refine ev_iandN dX10_accepts_59 ?_
        refine ev_if_eqN 67 dX10_accepts_60 (by decide) (by have := tb_lt1 Acc t; omega) (fun c60 => ?_) (fun c60 => ?_)
        · refine ev_iconst (nI 0) dX10_accepts_67 rfl ?_
          refine ev_zret dX10_accepts_68 rfl rfl ?_
          exact ⟨rv0 (fun z => (tb_n0 Acc t).mpr (hbt.mpr z) c60), i1, c1⟩
        · refine ev_iconst (nI 1) dX10_accepts_63 rfl ?_
          refine ev_goto 68 dX10_accepts_64 (by decide) ?_
          refine ev_zret dX10_accepts_68 rfl rfl ?_
          exact ⟨rv1 (hbt.mp ((tb_n0 Acc t).mp c60)), i1, c1⟩
      · omega
    | succ j ih =>
      intro v Acc h1 hv hA hb i1 c1
      have g1 := gC_iq g i1
      have t1 := tC_iq tc i1
      have ep1 : h1.1 38 t = nI p := by rw [(i1.1 38 (by omega)).1]; exact ep
      have p256 := cp.1
      have hvl : v < T.length := by omega
      have p8 := pow8 (v := v) (by omega)
      have key : p.testBit v = true → (hvK n N m (fun u => Acc.testBit u = true) (tg T v) ↔ PS n N m T v) := fun pv => by
        rw [PS_iff o hvl]
        have k := o.2 v hvl
        refine hvK_cg k (fun z => ?_)
        have w := (cp.2.2 v pv).2 z
        have l := k.2.2.2.2.1 z
        exact ⟨(hb _).trans ⟨fun y => y.2.2, fun y => ⟨l.1, w.1, y⟩⟩, (hb _).trans ⟨fun y => y.2.2, fun y => ⟨l.2, w.2, y⟩⟩⟩
      have skip0 : ¬ (p.testBit v = true ∧ PS n N m T v) → ∀ u, Acc.testBit u = true ↔ u < v + 1 ∧ p.testBit u = true ∧ PS n N m T u := fun hn u => by
        rw [hb u]
        refine ⟨fun z => ⟨by omega, z.2⟩, fun z => ⟨?_, z.2⟩⟩
        rcases Nat.lt_or_ge u v with w | w
        · exact w
        · obtain rfl : u = v := by omega
          exact absurd z.2 hn
      have add1 : p.testBit v = true ∧ PS n N m T v → ∀ u, (Acc ||| 2 ^ v).testBit u = true ↔ u < v + 1 ∧ p.testBit u = true ∧ PS n N m T u := fun hy u => by
        rw [Nat.testBit_or, Bool.or_eq_true, hb u, Nat.testBit_two_pow, decide_eq_true_eq]
        constructor
        · rintro (z | rfl)
          · exact ⟨by omega, z.2⟩
          · exact ⟨by omega, hy⟩
        · intro z
          rcases Nat.lt_or_ge u v with w | w
          · exact Or.inl ⟨w, z.2⟩
          · exact Or.inr (by omega)
      refine ev_iload dX10_accepts_6 rfl ?_
      refine ev_iload_n dX10_accepts_8 rfl ?_
      refine ev_icmp_gtN 54 dX10_accepts_9 (by decide) (by omega) (by omega) (fun c9 => ?_) (fun c9 => ?_)
      · omega
      · refine ev_aload_n dX10_accepts_12 rfl ?_
        refine ev_getR fl_X10_21 rfl rfl dX10_accepts_13 ?_
        refine ev_iload_n dX10_accepts_16 rfl ?_
        refine ev_ialdv (ep1) rfl dX10_accepts_17 (by omega) (by omega) ?_
        refine ev_iload dX10_accepts_18 rfl ?_
        refine ev_ishrN dX10_accepts_20 (by omega) (by omega) ?_
        refine ev_iconst (nI 1) dX10_accepts_21 rfl ?_
        refine ev_iandN dX10_accepts_22 ?_
        refine ev_if_eqN 48 dX10_accepts_23 (by decide) (by have := tb_lt1 p v; omega) (fun c23 => ?_) (fun c23 => ?_)
        · refine ev_inc5N dX10_accepts_48 (by decide) rfl ?_
          refine ev_goto 6 dX10_accepts_51 (by decide) ?_
          exact ih (v + 1) Acc _ (by omega) hA (skip0 (fun z => (tb_n0 p v).mpr z.1 c23)) i1 c1
        · refine ev_aload_n dX10_accepts_26 rfl ?_
          refine ev_iload dX10_accepts_27 rfl ?_
          refine ev_iload_n dX10_accepts_29 rfl ?_
          refine ev_iload dX10_accepts_30 rfl ?_
          refine ev_aload_n dX10_accepts_32 rfl ?_
          refine ev_callV (cl_holds g1 ok c1 hm t1 o hvl hA) ok_X10_holds ml_X10_28 rfl rfl rfl rfl (Nat.le_of_ble_eq_true rfl) dX10_accepts_33 ?_
          rintro rv h2 ⟨rfl, i2, c2⟩
          refine ev_if_eqN 48 dX10_accepts_36 (by decide) (by have := b01_lt (hvK n N m (fun u => Acc.testBit u = true) (tg T v)); omega) (fun c36 => ?_) (fun c36 => ?_)
          · refine ev_inc5N dX10_accepts_48 (by decide) rfl ?_
            refine ev_goto 6 dX10_accepts_51 (by decide) ?_
            exact ih (v + 1) Acc _ (by omega) hA (skip0 (fun z => b01_0.mp c36 ((key z.1).mpr z.2))) (i1.tr i2) c2
          · refine ev_iload dX10_accepts_39 rfl ?_
            refine ev_iconst (nI 1) dX10_accepts_41 rfl ?_
            refine ev_iload dX10_accepts_42 rfl ?_
            refine ev_ishlN dX10_accepts_44 (by omega) (by rw [Nat.one_mul]; omega) ?_
            rw [Nat.one_mul]
            refine ev_iorN dX10_accepts_45 ?_
            refine ev_ist4 dX10_accepts_46 (by decide) rfl ?_
            refine ev_inc5N dX10_accepts_48 (by decide) rfl ?_
            refine ev_goto 6 dX10_accepts_51 (by decide) ?_
            exact ih (v + 1) _ _ (by omega) (Nat.or_lt_two_pow (n := 8) hA p8) (add1 ⟨(tb_n0 p v).mp c23, (key ((tb_n0 p v).mp c23)).mp (Classical.byContradiction fun z => c36 (b01_f z))⟩) (i1.tr i2) c2
  refine ev_start 2 (lv := [some (.ref 34), some (.int (nI t)), some (.int (nI m)), some (.ref 4), none, none]) rfl (by decide) (Nat.le_of_ble_eq_true rfl) ?_
  refine ev_iconst (nI 0) dX10_accepts_0 rfl ?_
  refine ev_ist4 dX10_accepts_1 (by decide) rfl ?_
  refine ev_iconst (nI 0) dX10_accepts_3 rfl ?_
  refine ev_ist5 dX10_accepts_4 (by decide) rfl ?_
  exact loop (t + 1) 0 0 h (by omega) (by decide) (fun u => ⟨fun z => absurd z (by rw [Nat.zero_testBit]; decide), fun z => absurd z.1 (Nat.not_lt_zero _)⟩) iq.rf c
end PASS
