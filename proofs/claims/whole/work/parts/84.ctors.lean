section CTORS
theorem ct_X7 (l : Launch) (dC : Nat → ClassId) (dI : Nat → Nat → Nat) (dA : Nat → ClassId) (q : Nat) (n : Nat) (hn : n < 100000) : Ct vAO l dC dI dA M_X7_init 1 1 n [.ref q, .int (nI n)] [(q, .inr (6, [.null, .int 0]))] (fun u => [(q, .inr (6, [.ref (u 0), .int (nI 0)])), ((u 0), .inl (dA 0, n, .inl (fun _ => 0)))]) := by
  refine ct_start (by decide) (Nat.le_of_ble_eq_true rfl) ?_ rfl
  intro p e s m below meth c hV C hin hlk hr
  refine cw_aload C 0 rfl rfl dX7_init_0 ?_
  refine cw_objInit C oi_X7 oi_I oi_C dX7_init_1 (Nat.le_of_ble_eq_true rfl) (Nat.le_of_ble_eq_true rfl) ?_
  refine cw_aload C 0 rfl rfl dX7_init_4 ?_
  refine cw_iload C 1 rfl rfl dX7_init_5 ?_
  refine cw_iconst (nI 0) C dX7_init_6 (by decide) ?_
  refine cw_max C ml_X7_9 (Nat.le_of_ble_eq_true rfl) (Nat.le_of_ble_eq_true rfl) (Nat.zero_le _) (Nat.zero_le _) dX7_init_7 ?_
  rw [show (if nI n < nI 0 then nI 0 else nI n) = nI n from if_neg (nI_pos (by omega))]
  refine cw_newI C ac_int hn (by simp) (by simp) dX7_init_10 (fun a1 => ?_)
  refine cw_putF (ws' := [(q, .inr (6, [.ref a1, .int 0])), (a1, .inl (dA 0, n, .inl (fun _ => 0)))]) 0 C hin ff_X7_15 rfl rfl rfl (Nat.le_of_ble_eq_true rfl) rfl dX7_init_12 ?_
  refine cw_aload C 0 rfl rfl dX7_init_15 ?_
  refine cw_iconst (nI 0) C dX7_init_16 (by decide) ?_
  refine cw_put (ws' := [(q, .inr (6, [.ref a1, .int (nI 0)])), (a1, .inl (dA 0, n, .inl (fun _ => 0)))]) 0 C fp_X7_21 rfl rfl rfl (Nat.le_of_ble_eq_true rfl) rfl dX7_init_17 ?_
  exact cw_ret (fun i => ([a1] : List Nat).getD i 0) C hr hlk rfl rfl (Nat.zero_add n) dX7_init_20
theorem ct_X1 (l : Launch) (dC : Nat → ClassId) (dI : Nat → Nat → Nat) (dA : Nat → ClassId) (q : Nat) : Ct vAO l dC dI dA M_X1_init 2 2 9 [.ref q] [(q, .inr (1, [.int 0, .long 0, .null]))] (fun u => [(q, .inr (1, [.int (nI 4), .long (lN 0), .ref (u 0)])), ((u 0), .inr (6, [.ref (u 1), .int (nI 0)])), ((u 1), .inl (dA 0, 7, .inl (fun _ => 0)))]) := by
  refine ct_start (by decide) (Nat.le_of_ble_eq_true rfl) ?_ rfl
  intro p e s m below meth c hV C hin hlk hr
  refine cw_aload C 0 rfl rfl dX1_init_0 ?_
  refine cw_objInit C oi_X1 oi_I oi_C dX1_init_1 (Nat.le_of_ble_eq_true rfl) (Nat.le_of_ble_eq_true rfl) ?_
  refine cw_aload C 0 rfl rfl dX1_init_4 ?_
  refine cw_iconst (nI 4) C dX1_init_5 (by decide) ?_
  refine cw_put (ws' := [(q, .inr (1, [.int (nI 4), .long 0, .null]))]) 0 C fp_X1_9 rfl rfl rfl (Nat.le_of_ble_eq_true rfl) rfl dX1_init_6 ?_
  refine cw_aload C 0 rfl rfl dX1_init_9 ?_
  refine cw_lconst (lN 0) C dX1_init_10 (by decide) ?_
  refine cw_put (ws' := [(q, .inr (1, [.int (nI 4), .long (lN 0), .null]))]) 0 C fp_X1_15 rfl rfl rfl (Nat.le_of_ble_eq_true rfl) rfl dX1_init_11 ?_
  refine cw_aload C 0 rfl rfl dX1_init_14 ?_
  refine cw_new (ci := 6) (N := 2) tyX7 [.null, .int 0] C rfl iw_X7 tyX7_ok cx_X1_19 inst_X7 ini_X7 (fun j hj => by rcases (show j = 0 ∨ j = 1 by omega) with rfl | rfl <;> rfl) (Nat.le_of_ble_eq_true rfl) (Nat.le_of_ble_eq_true rfl) dX1_init_15 (fun a1 => ?_)
  refine cw_dup C rfl dX1_init_18 ?_
  refine cw_bipush (nI 7) C dX1_init_19 (by decide) ?_
  refine cw_call (n := 1) (f := 1) (mc := 1) (ms := 7) (As := [.int (nI 7)]) (w0 := [(a1, .inr (6, [.null, .int 0]))]) (wr := [(q, .inr (1, [.int (nI 4), .long (lN 0), .null]))]) (w1 := fun u => [(a1, .inr (6, [.ref (u 0), .int (nI 0)])), ((u 0), .inl (dA 0, 7, .inl (fun _ => 0)))]) [1] [0] C vAO hV vAO_mv (ct_X7 l dC dI dA a1 7 (by decide)) rfl rfl (by decide) (by decide) (by decide) ml_X1_21 ini_X7 im_X7 cd_X7 rfl (by decide +kernel) rfl (by decide) (Nat.le_of_ble_eq_true rfl) (Nat.le_of_ble_eq_true rfl) (Nat.le_of_ble_eq_true rfl) (Nat.le_of_ble_eq_true rfl) (Nat.le_of_ble_eq_true rfl) dX1_init_21 rfl (fun u2 => ?_)
  refine cw_putF (ws' := [(q, .inr (1, [.int (nI 4), .long (lN 0), .ref a1])), (a1, .inr (6, [.ref (u2 0), .int (nI 0)])), ((u2 0), .inl (dA 0, 7, .inl (fun _ => 0)))]) 0 C hin ff_X1_24 rfl rfl rfl (Nat.le_of_ble_eq_true rfl) rfl dX1_init_24 ?_
  exact cw_ret (fun i => ([a1, (u2 0)] : List Nat).getD i 0) C hr hlk rfl rfl rfl dX1_init_27
theorem ct_X2 (l : Launch) (dC : Nat → ClassId) (dI : Nat → Nat → Nat) (dA : Nat → ClassId) (q : Nat) (g : Nat) : Ct vAO l dC dI dA M_X2_init 2 21 25050 [.ref q, .ref g] [(q, .inr (2, [.null, .null, .int 0, .null, .null, .int 0, .null, .null, .null, .null]))] (fun u => [(q, .inr (2, [.ref g, .ref (u 0), .int 0, .ref (u 1), .ref (u 3), .int 0, .ref (u 5), .ref (u 6), .ref (u 7), .ref (u 8)])), ((u 0), .inl (dA 0, 16384, .inl (fun _ => 0))), ((u 1), .inr (6, [.ref (u 2), .int (nI 0)])), ((u 2), .inl (dA 0, 35, .inl (fun _ => 0))), ((u 3), .inr (6, [.ref (u 4), .int (nI 0)])), ((u 4), .inl (dA 0, 35, .inl (fun _ => 0))), ((u 5), .inl (dA 3, 3, .inr (.inr (.inr (.inr (fun j => ([(u 9), (u 13), (u 17)] : List Nat)[j]?)))))), ((u 6), .inl (dA 1, 3, .inl (fun _ => 0))), ((u 7), .inl (dA 3, 3, .inr (.inr (.inr (.inr (fun j => ([(u 11), (u 15), (u 19)] : List Nat)[j]?)))))), ((u 8), .inl (dA 1, 3, .inl (fun _ => 0))), ((u 9), .inr (6, [.ref (u 10), .int (nI 0)])), ((u 10), .inl (dA 0, 728, .inl (fun _ => 0))), ((u 11), .inr (6, [.ref (u 12), .int (nI 0)])), ((u 12), .inl (dA 0, 2128, .inl (fun _ => 0))), ((u 13), .inr (6, [.ref (u 14), .int (nI 0)])), ((u 14), .inl (dA 0, 728, .inl (fun _ => 0))), ((u 15), .inr (6, [.ref (u 16), .int (nI 0)])), ((u 16), .inl (dA 0, 2128, .inl (fun _ => 0))), ((u 17), .inr (6, [.ref (u 18), .int (nI 0)])), ((u 18), .inl (dA 0, 728, .inl (fun _ => 0))), ((u 19), .inr (6, [.ref (u 20), .int (nI 0)])), ((u 20), .inl (dA 0, 2128, .inl (fun _ => 0)))]) := by
  refine ct_start (by decide) (Nat.le_of_ble_eq_true rfl) ?_ rfl
  intro p e s m below meth c hV C hin hlk hr
  refine cw_aload C 0 rfl rfl dX2_init_0 ?_
  refine cw_objInit C oi_X2 oi_I oi_C dX2_init_1 (Nat.le_of_ble_eq_true rfl) (Nat.le_of_ble_eq_true rfl) ?_
  refine cw_aload C 0 rfl rfl dX2_init_4 ?_
  refine cw_aload C 1 rfl rfl dX2_init_5 ?_
  refine cw_putF (ws' := [(q, .inr (2, [.ref g, .null, .int 0, .null, .null, .int 0, .null, .null, .null, .null]))]) 0 C hin ff_X2_9 rfl rfl rfl (Nat.le_of_ble_eq_true rfl) rfl dX2_init_6 ?_
  refine cw_aload C 0 rfl rfl dX2_init_9 ?_
  refine cw_sipush (nI 16384) C dX2_init_10 (by decide) ?_
  refine cw_newI C ac_int (Nat.le_of_ble_eq_true rfl) (Nat.le_of_ble_eq_true rfl) (Nat.le_of_ble_eq_true rfl) dX2_init_13 (fun a1 => ?_)
  refine cw_putF (ws' := [(q, .inr (2, [.ref g, .ref a1, .int 0, .null, .null, .int 0, .null, .null, .null, .null])), (a1, .inl (dA 0, 16384, .inl (fun _ => 0)))]) 0 C hin ff_X2_17 rfl rfl rfl (Nat.le_of_ble_eq_true rfl) rfl dX2_init_15 ?_
  refine cw_aload C 0 rfl rfl dX2_init_18 ?_
  refine cw_new (ci := 6) (N := 2) tyX7 [.null, .int 0] C rfl iw_X7 tyX7_ok cx_X2_21 inst_X7 ini_X7 (fun j hj => by rcases (show j = 0 ∨ j = 1 by omega) with rfl | rfl <;> rfl) (Nat.le_of_ble_eq_true rfl) (Nat.le_of_ble_eq_true rfl) dX2_init_19 (fun a2 => ?_)
  refine cw_dup C rfl dX2_init_22 ?_
  refine cw_bipush (nI 35) C dX2_init_23 (by decide) ?_
  refine cw_call (n := 1) (f := 1) (mc := 1) (ms := 35) (As := [.int (nI 35)]) (w0 := [(a2, .inr (6, [.null, .int 0]))]) (wr := [(q, .inr (2, [.ref g, .ref a1, .int 0, .null, .null, .int 0, .null, .null, .null, .null])), (a1, .inl (dA 0, 16384, .inl (fun _ => 0)))]) (w1 := fun u => [(a2, .inr (6, [.ref (u 0), .int (nI 0)])), ((u 0), .inl (dA 0, 35, .inl (fun _ => 0)))]) [2] [0, 1] C vAO hV vAO_mv (ct_X7 l dC dI dA a2 35 (by decide)) rfl rfl (by decide) (by decide) (by decide) ml_X2_23 ini_X7 im_X7 cd_X7 rfl (by decide +kernel) rfl (by decide) (Nat.le_of_ble_eq_true rfl) (Nat.le_of_ble_eq_true rfl) (Nat.le_of_ble_eq_true rfl) (Nat.le_of_ble_eq_true rfl) (Nat.le_of_ble_eq_true rfl) dX2_init_25 rfl (fun u3 => ?_)
  refine cw_putF (ws' := [(q, .inr (2, [.ref g, .ref a1, .int 0, .ref a2, .null, .int 0, .null, .null, .null, .null])), (a1, .inl (dA 0, 16384, .inl (fun _ => 0))), (a2, .inr (6, [.ref (u3 0), .int (nI 0)])), ((u3 0), .inl (dA 0, 35, .inl (fun _ => 0)))]) 0 C hin ff_X2_26 rfl rfl rfl (Nat.le_of_ble_eq_true rfl) rfl dX2_init_28 ?_
  refine cw_aload C 0 rfl rfl dX2_init_31 ?_
  refine cw_new (ci := 6) (N := 2) tyX7 [.null, .int 0] C rfl iw_X7 tyX7_ok cx_X2_21 inst_X7 ini_X7 (fun j hj => by rcases (show j = 0 ∨ j = 1 by omega) with rfl | rfl <;> rfl) (Nat.le_of_ble_eq_true rfl) (Nat.le_of_ble_eq_true rfl) dX2_init_32 (fun a4 => ?_)
  refine cw_dup C rfl dX2_init_35 ?_
  refine cw_bipush (nI 35) C dX2_init_36 (by decide) ?_
  refine cw_call (n := 1) (f := 1) (mc := 1) (ms := 35) (As := [.int (nI 35)]) (w0 := [(a4, .inr (6, [.null, .int 0]))]) (wr := [(q, .inr (2, [.ref g, .ref a1, .int 0, .ref a2, .null, .int 0, .null, .null, .null, .null])), (a1, .inl (dA 0, 16384, .inl (fun _ => 0))), (a2, .inr (6, [.ref (u3 0), .int (nI 0)])), ((u3 0), .inl (dA 0, 35, .inl (fun _ => 0)))]) (w1 := fun u => [(a4, .inr (6, [.ref (u 0), .int (nI 0)])), ((u 0), .inl (dA 0, 35, .inl (fun _ => 0)))]) [4] [0, 1, 2, 3] C vAO hV vAO_mv (ct_X7 l dC dI dA a4 35 (by decide)) rfl rfl (by decide) (by decide) (by decide) ml_X2_23 ini_X7 im_X7 cd_X7 rfl (by decide +kernel) rfl (by decide) (Nat.le_of_ble_eq_true rfl) (Nat.le_of_ble_eq_true rfl) (Nat.le_of_ble_eq_true rfl) (Nat.le_of_ble_eq_true rfl) (Nat.le_of_ble_eq_true rfl) dX2_init_38 rfl (fun u5 => ?_)
  refine cw_putF (ws' := [(q, .inr (2, [.ref g, .ref a1, .int 0, .ref a2, .ref a4, .int 0, .null, .null, .null, .null])), (a1, .inl (dA 0, 16384, .inl (fun _ => 0))), (a2, .inr (6, [.ref (u3 0), .int (nI 0)])), ((u3 0), .inl (dA 0, 35, .inl (fun _ => 0))), (a4, .inr (6, [.ref (u5 0), .int (nI 0)])), ((u5 0), .inl (dA 0, 35, .inl (fun _ => 0)))]) 0 C hin ff_X2_30 rfl rfl rfl (Nat.le_of_ble_eq_true rfl) rfl dX2_init_41 ?_
  refine cw_aload C 0 rfl rfl dX2_init_44 ?_
  refine cw_iconst (nI 3) C dX2_init_45 (by decide) ?_
  refine cw_newq (kd := 3) C cx_X2_21 hV.1 rfl (Nat.le_of_ble_eq_true rfl) (Nat.le_of_ble_eq_true rfl) (Nat.le_of_ble_eq_true rfl) dX2_init_46 (fun a6 => ?_)
  refine cw_putF (ws' := [(q, .inr (2, [.ref g, .ref a1, .int 0, .ref a2, .ref a4, .int 0, .ref a6, .null, .null, .null])), (a1, .inl (dA 0, 16384, .inl (fun _ => 0))), (a2, .inr (6, [.ref (u3 0), .int (nI 0)])), ((u3 0), .inl (dA 0, 35, .inl (fun _ => 0))), (a4, .inr (6, [.ref (u5 0), .int (nI 0)])), ((u5 0), .inl (dA 0, 35, .inl (fun _ => 0))), (a6, .inl (dA 3, 3, .inr (.inr (.inr (.inr (fun _ => none))))))]) 0 C hin ff_X2_33 rfl rfl rfl (Nat.le_of_ble_eq_true rfl) rfl dX2_init_49 ?_
  refine cw_aload C 0 rfl rfl dX2_init_52 ?_
  refine cw_iconst (nI 3) C dX2_init_53 (by decide) ?_
  refine cw_newZ C ac_boolean (Nat.le_of_ble_eq_true rfl) (Nat.le_of_ble_eq_true rfl) (Nat.le_of_ble_eq_true rfl) dX2_init_54 (fun a7 => ?_)
  refine cw_putF (ws' := [(q, .inr (2, [.ref g, .ref a1, .int 0, .ref a2, .ref a4, .int 0, .ref a6, .ref a7, .null, .null])), (a1, .inl (dA 0, 16384, .inl (fun _ => 0))), (a2, .inr (6, [.ref (u3 0), .int (nI 0)])), ((u3 0), .inl (dA 0, 35, .inl (fun _ => 0))), (a4, .inr (6, [.ref (u5 0), .int (nI 0)])), ((u5 0), .inl (dA 0, 35, .inl (fun _ => 0))), (a6, .inl (dA 3, 3, .inr (.inr (.inr (.inr (fun _ => none)))))), (a7, .inl (dA 1, 3, .inl (fun _ => 0)))]) 0 C hin ff_X2_37 rfl rfl rfl (Nat.le_of_ble_eq_true rfl) rfl dX2_init_56 ?_
  refine cw_aload C 0 rfl rfl dX2_init_59 ?_
  refine cw_iconst (nI 3) C dX2_init_60 (by decide) ?_
  refine cw_newq (kd := 3) C cx_X2_21 hV.1 rfl (Nat.le_of_ble_eq_true rfl) (Nat.le_of_ble_eq_true rfl) (Nat.le_of_ble_eq_true rfl) dX2_init_61 (fun a8 => ?_)
  refine cw_putF (ws' := [(q, .inr (2, [.ref g, .ref a1, .int 0, .ref a2, .ref a4, .int 0, .ref a6, .ref a7, .ref a8, .null])), (a1, .inl (dA 0, 16384, .inl (fun _ => 0))), (a2, .inr (6, [.ref (u3 0), .int (nI 0)])), ((u3 0), .inl (dA 0, 35, .inl (fun _ => 0))), (a4, .inr (6, [.ref (u5 0), .int (nI 0)])), ((u5 0), .inl (dA 0, 35, .inl (fun _ => 0))), (a6, .inl (dA 3, 3, .inr (.inr (.inr (.inr (fun _ => none)))))), (a7, .inl (dA 1, 3, .inl (fun _ => 0))), (a8, .inl (dA 3, 3, .inr (.inr (.inr (.inr (fun _ => none))))))]) 0 C hin ff_X2_41 rfl rfl rfl (Nat.le_of_ble_eq_true rfl) rfl dX2_init_64 ?_
  refine cw_aload C 0 rfl rfl dX2_init_67 ?_
  refine cw_iconst (nI 3) C dX2_init_68 (by decide) ?_
  refine cw_newZ C ac_boolean (Nat.le_of_ble_eq_true rfl) (Nat.le_of_ble_eq_true rfl) (Nat.le_of_ble_eq_true rfl) dX2_init_69 (fun a9 => ?_)
  refine cw_putF (ws' := [(q, .inr (2, [.ref g, .ref a1, .int 0, .ref a2, .ref a4, .int 0, .ref a6, .ref a7, .ref a8, .ref a9])), (a1, .inl (dA 0, 16384, .inl (fun _ => 0))), (a2, .inr (6, [.ref (u3 0), .int (nI 0)])), ((u3 0), .inl (dA 0, 35, .inl (fun _ => 0))), (a4, .inr (6, [.ref (u5 0), .int (nI 0)])), ((u5 0), .inl (dA 0, 35, .inl (fun _ => 0))), (a6, .inl (dA 3, 3, .inr (.inr (.inr (.inr (fun _ => none)))))), (a7, .inl (dA 1, 3, .inl (fun _ => 0))), (a8, .inl (dA 3, 3, .inr (.inr (.inr (.inr (fun _ => none)))))), (a9, .inl (dA 1, 3, .inl (fun _ => 0)))]) 0 C hin ff_X2_44 rfl rfl rfl (Nat.le_of_ble_eq_true rfl) rfl dX2_init_71 ?_
  refine cw_iconst (nI 0) C dX2_init_74 (by decide) ?_
  refine cw_istore [(2, .int (nI 0)), (0, .ref q), (1, .ref g)] C rfl (by decide) rfl dX2_init_75 ?_
  refine cw_iload C 0 rfl rfl dX2_init_76 ?_
  refine cw_iconst (nI 3) C dX2_init_77 (by decide) ?_
  refine cw_ge_f 119 C (by decide) dX2_init_78 (by decide) ?_
  refine cw_aload C 1 rfl rfl dX2_init_81 ?_
  refine cw_get (v := .ref a6) 0 C fl_X2_33 rfl rfl dX2_init_82 ?_
  refine cw_iload C 0 rfl rfl dX2_init_85 ?_
  refine cw_new (ci := 6) (N := 2) tyX7 [.null, .int 0] C rfl iw_X7 tyX7_ok cx_X2_21 inst_X7 ini_X7 (fun j hj => by rcases (show j = 0 ∨ j = 1 by omega) with rfl | rfl <;> rfl) (Nat.le_of_ble_eq_true rfl) (Nat.le_of_ble_eq_true rfl) dX2_init_86 (fun a10 => ?_)
  refine cw_dup C rfl dX2_init_89 ?_
  refine cw_sipush (nI 728) C dX2_init_90 (by decide) ?_
  refine cw_call (n := 1) (f := 1) (mc := 1) (ms := 728) (As := [.int (nI 728)]) (w0 := [(a10, .inr (6, [.null, .int 0]))]) (wr := [(q, .inr (2, [.ref g, .ref a1, .int 0, .ref a2, .ref a4, .int 0, .ref a6, .ref a7, .ref a8, .ref a9])), (a1, .inl (dA 0, 16384, .inl (fun _ => 0))), (a2, .inr (6, [.ref (u3 0), .int (nI 0)])), ((u3 0), .inl (dA 0, 35, .inl (fun _ => 0))), (a4, .inr (6, [.ref (u5 0), .int (nI 0)])), ((u5 0), .inl (dA 0, 35, .inl (fun _ => 0))), (a6, .inl (dA 3, 3, .inr (.inr (.inr (.inr (fun _ => none)))))), (a7, .inl (dA 1, 3, .inl (fun _ => 0))), (a8, .inl (dA 3, 3, .inr (.inr (.inr (.inr (fun _ => none)))))), (a9, .inl (dA 1, 3, .inl (fun _ => 0)))]) (w1 := fun u => [(a10, .inr (6, [.ref (u 0), .int (nI 0)])), ((u 0), .inl (dA 0, 728, .inl (fun _ => 0)))]) [10] [0, 1, 2, 3, 4, 5, 6, 7, 8, 9] C vAO hV vAO_mv (ct_X7 l dC dI dA a10 728 (by decide)) rfl rfl (by decide) (by decide) (by decide) ml_X2_23 ini_X7 im_X7 cd_X7 rfl (by decide +kernel) rfl (by decide) (Nat.le_of_ble_eq_true rfl) (Nat.le_of_ble_eq_true rfl) (Nat.le_of_ble_eq_true rfl) (Nat.le_of_ble_eq_true rfl) (Nat.le_of_ble_eq_true rfl) dX2_init_93 rfl (fun u11 => ?_)
  refine cw_astore (kd := 3) (ws' := [(q, .inr (2, [.ref g, .ref a1, .int 0, .ref a2, .ref a4, .int 0, .ref a6, .ref a7, .ref a8, .ref a9])), (a1, .inl (dA 0, 16384, .inl (fun _ => 0))), (a2, .inr (6, [.ref (u3 0), .int (nI 0)])), ((u3 0), .inl (dA 0, 35, .inl (fun _ => 0))), (a4, .inr (6, [.ref (u5 0), .int (nI 0)])), ((u5 0), .inl (dA 0, 35, .inl (fun _ => 0))), (a6, .inl (dA 3, 3, .inr (.inr (.inr (.inr (va_up (fun _ => none) (nI 0).toNatClampNeg (some a10))))))), (a7, .inl (dA 1, 3, .inl (fun _ => 0))), (a8, .inl (dA 3, 3, .inr (.inr (.inr (.inr (fun _ => none)))))), (a9, .inl (dA 1, 3, .inl (fun _ => 0))), (a10, .inr (6, [.ref (u11 0), .int (nI 0)])), ((u11 0), .inl (dA 0, 728, .inl (fun _ => 0)))]) 6 10 C rfl rfl rfl rfl (vp_in_nI (by decide) (by decide)) rfl dX2_init_96 ?_
  refine cw_aload C 1 rfl rfl dX2_init_97 ?_
  refine cw_get (v := .ref a8) 0 C fl_X2_41 rfl rfl dX2_init_98 ?_
  refine cw_iload C 0 rfl rfl dX2_init_101 ?_
  refine cw_new (ci := 6) (N := 2) tyX7 [.null, .int 0] C rfl iw_X7 tyX7_ok cx_X2_21 inst_X7 ini_X7 (fun j hj => by rcases (show j = 0 ∨ j = 1 by omega) with rfl | rfl <;> rfl) (Nat.le_of_ble_eq_true rfl) (Nat.le_of_ble_eq_true rfl) dX2_init_102 (fun a12 => ?_)
  refine cw_dup C rfl dX2_init_105 ?_
  refine cw_sipush (nI 2128) C dX2_init_106 (by decide) ?_
  refine cw_call (n := 1) (f := 1) (mc := 1) (ms := 2128) (As := [.int (nI 2128)]) (w0 := [(a12, .inr (6, [.null, .int 0]))]) (wr := [(q, .inr (2, [.ref g, .ref a1, .int 0, .ref a2, .ref a4, .int 0, .ref a6, .ref a7, .ref a8, .ref a9])), (a1, .inl (dA 0, 16384, .inl (fun _ => 0))), (a2, .inr (6, [.ref (u3 0), .int (nI 0)])), ((u3 0), .inl (dA 0, 35, .inl (fun _ => 0))), (a4, .inr (6, [.ref (u5 0), .int (nI 0)])), ((u5 0), .inl (dA 0, 35, .inl (fun _ => 0))), (a6, .inl (dA 3, 3, .inr (.inr (.inr (.inr (va_up (fun _ => none) (nI 0).toNatClampNeg (some a10))))))), (a7, .inl (dA 1, 3, .inl (fun _ => 0))), (a8, .inl (dA 3, 3, .inr (.inr (.inr (.inr (fun _ => none)))))), (a9, .inl (dA 1, 3, .inl (fun _ => 0))), (a10, .inr (6, [.ref (u11 0), .int (nI 0)])), ((u11 0), .inl (dA 0, 728, .inl (fun _ => 0)))]) (w1 := fun u => [(a12, .inr (6, [.ref (u 0), .int (nI 0)])), ((u 0), .inl (dA 0, 2128, .inl (fun _ => 0)))]) [12] [0, 1, 2, 3, 4, 5, 6, 7, 8, 9, 10, 11] C vAO hV vAO_mv (ct_X7 l dC dI dA a12 2128 (by decide)) rfl rfl (by decide) (by decide) (by decide) ml_X2_23 ini_X7 im_X7 cd_X7 rfl (by decide +kernel) rfl (by decide) (Nat.le_of_ble_eq_true rfl) (Nat.le_of_ble_eq_true rfl) (Nat.le_of_ble_eq_true rfl) (Nat.le_of_ble_eq_true rfl) (Nat.le_of_ble_eq_true rfl) dX2_init_109 rfl (fun u13 => ?_)
  refine cw_astore (kd := 3) (ws' := [(q, .inr (2, [.ref g, .ref a1, .int 0, .ref a2, .ref a4, .int 0, .ref a6, .ref a7, .ref a8, .ref a9])), (a1, .inl (dA 0, 16384, .inl (fun _ => 0))), (a2, .inr (6, [.ref (u3 0), .int (nI 0)])), ((u3 0), .inl (dA 0, 35, .inl (fun _ => 0))), (a4, .inr (6, [.ref (u5 0), .int (nI 0)])), ((u5 0), .inl (dA 0, 35, .inl (fun _ => 0))), (a6, .inl (dA 3, 3, .inr (.inr (.inr (.inr (va_up (fun _ => none) (nI 0).toNatClampNeg (some a10))))))), (a7, .inl (dA 1, 3, .inl (fun _ => 0))), (a8, .inl (dA 3, 3, .inr (.inr (.inr (.inr (va_up (fun _ => none) (nI 0).toNatClampNeg (some a12))))))), (a9, .inl (dA 1, 3, .inl (fun _ => 0))), (a10, .inr (6, [.ref (u11 0), .int (nI 0)])), ((u11 0), .inl (dA 0, 728, .inl (fun _ => 0))), (a12, .inr (6, [.ref (u13 0), .int (nI 0)])), ((u13 0), .inl (dA 0, 2128, .inl (fun _ => 0)))]) 8 12 C rfl rfl rfl rfl (vp_in_nI (by decide) (by decide)) rfl dX2_init_112 ?_
  refine cw_iinc (nI 1) [(2, .int (nI 1)), (0, .ref q), (1, .ref g)] C 0 rfl (by decide) (by decide) rfl dX2_init_113 ?_
  refine cw_goto 76 C dX2_init_116 (by decide) ?_
  refine cw_iload C 0 rfl rfl dX2_init_76 ?_
  refine cw_iconst (nI 3) C dX2_init_77 (by decide) ?_
  refine cw_ge_f 119 C (by decide) dX2_init_78 (by decide) ?_
  refine cw_aload C 1 rfl rfl dX2_init_81 ?_
  refine cw_get (v := .ref a6) 0 C fl_X2_33 rfl rfl dX2_init_82 ?_
  refine cw_iload C 0 rfl rfl dX2_init_85 ?_
  refine cw_new (ci := 6) (N := 2) tyX7 [.null, .int 0] C rfl iw_X7 tyX7_ok cx_X2_21 inst_X7 ini_X7 (fun j hj => by rcases (show j = 0 ∨ j = 1 by omega) with rfl | rfl <;> rfl) (Nat.le_of_ble_eq_true rfl) (Nat.le_of_ble_eq_true rfl) dX2_init_86 (fun a14 => ?_)
  refine cw_dup C rfl dX2_init_89 ?_
  refine cw_sipush (nI 728) C dX2_init_90 (by decide) ?_
  refine cw_call (n := 1) (f := 1) (mc := 1) (ms := 728) (As := [.int (nI 728)]) (w0 := [(a14, .inr (6, [.null, .int 0]))]) (wr := [(q, .inr (2, [.ref g, .ref a1, .int 0, .ref a2, .ref a4, .int 0, .ref a6, .ref a7, .ref a8, .ref a9])), (a1, .inl (dA 0, 16384, .inl (fun _ => 0))), (a2, .inr (6, [.ref (u3 0), .int (nI 0)])), ((u3 0), .inl (dA 0, 35, .inl (fun _ => 0))), (a4, .inr (6, [.ref (u5 0), .int (nI 0)])), ((u5 0), .inl (dA 0, 35, .inl (fun _ => 0))), (a6, .inl (dA 3, 3, .inr (.inr (.inr (.inr (va_up (fun _ => none) (nI 0).toNatClampNeg (some a10))))))), (a7, .inl (dA 1, 3, .inl (fun _ => 0))), (a8, .inl (dA 3, 3, .inr (.inr (.inr (.inr (va_up (fun _ => none) (nI 0).toNatClampNeg (some a12))))))), (a9, .inl (dA 1, 3, .inl (fun _ => 0))), (a10, .inr (6, [.ref (u11 0), .int (nI 0)])), ((u11 0), .inl (dA 0, 728, .inl (fun _ => 0))), (a12, .inr (6, [.ref (u13 0), .int (nI 0)])), ((u13 0), .inl (dA 0, 2128, .inl (fun _ => 0)))]) (w1 := fun u => [(a14, .inr (6, [.ref (u 0), .int (nI 0)])), ((u 0), .inl (dA 0, 728, .inl (fun _ => 0)))]) [14] [0, 1, 2, 3, 4, 5, 6, 7, 8, 9, 10, 11, 12, 13] C vAO hV vAO_mv (ct_X7 l dC dI dA a14 728 (by decide)) rfl rfl (by decide) (by decide) (by decide) ml_X2_23 ini_X7 im_X7 cd_X7 rfl (by decide +kernel) rfl (by decide) (Nat.le_of_ble_eq_true rfl) (Nat.le_of_ble_eq_true rfl) (Nat.le_of_ble_eq_true rfl) (Nat.le_of_ble_eq_true rfl) (Nat.le_of_ble_eq_true rfl) dX2_init_93 rfl (fun u15 => ?_)
  refine cw_astore (kd := 3) (ws' := [(q, .inr (2, [.ref g, .ref a1, .int 0, .ref a2, .ref a4, .int 0, .ref a6, .ref a7, .ref a8, .ref a9])), (a1, .inl (dA 0, 16384, .inl (fun _ => 0))), (a2, .inr (6, [.ref (u3 0), .int (nI 0)])), ((u3 0), .inl (dA 0, 35, .inl (fun _ => 0))), (a4, .inr (6, [.ref (u5 0), .int (nI 0)])), ((u5 0), .inl (dA 0, 35, .inl (fun _ => 0))), (a6, .inl (dA 3, 3, .inr (.inr (.inr (.inr (va_up (va_up (fun _ => none) (nI 0).toNatClampNeg (some a10)) (nI 1).toNatClampNeg (some a14))))))), (a7, .inl (dA 1, 3, .inl (fun _ => 0))), (a8, .inl (dA 3, 3, .inr (.inr (.inr (.inr (va_up (fun _ => none) (nI 0).toNatClampNeg (some a12))))))), (a9, .inl (dA 1, 3, .inl (fun _ => 0))), (a10, .inr (6, [.ref (u11 0), .int (nI 0)])), ((u11 0), .inl (dA 0, 728, .inl (fun _ => 0))), (a12, .inr (6, [.ref (u13 0), .int (nI 0)])), ((u13 0), .inl (dA 0, 2128, .inl (fun _ => 0))), (a14, .inr (6, [.ref (u15 0), .int (nI 0)])), ((u15 0), .inl (dA 0, 728, .inl (fun _ => 0)))]) 6 14 C rfl rfl rfl rfl (vp_in_nI (by decide) (by decide)) rfl dX2_init_96 ?_
  refine cw_aload C 1 rfl rfl dX2_init_97 ?_
  refine cw_get (v := .ref a8) 0 C fl_X2_41 rfl rfl dX2_init_98 ?_
  refine cw_iload C 0 rfl rfl dX2_init_101 ?_
  refine cw_new (ci := 6) (N := 2) tyX7 [.null, .int 0] C rfl iw_X7 tyX7_ok cx_X2_21 inst_X7 ini_X7 (fun j hj => by rcases (show j = 0 ∨ j = 1 by omega) with rfl | rfl <;> rfl) (Nat.le_of_ble_eq_true rfl) (Nat.le_of_ble_eq_true rfl) dX2_init_102 (fun a16 => ?_)
  refine cw_dup C rfl dX2_init_105 ?_
  refine cw_sipush (nI 2128) C dX2_init_106 (by decide) ?_
  refine cw_call (n := 1) (f := 1) (mc := 1) (ms := 2128) (As := [.int (nI 2128)]) (w0 := [(a16, .inr (6, [.null, .int 0]))]) (wr := [(q, .inr (2, [.ref g, .ref a1, .int 0, .ref a2, .ref a4, .int 0, .ref a6, .ref a7, .ref a8, .ref a9])), (a1, .inl (dA 0, 16384, .inl (fun _ => 0))), (a2, .inr (6, [.ref (u3 0), .int (nI 0)])), ((u3 0), .inl (dA 0, 35, .inl (fun _ => 0))), (a4, .inr (6, [.ref (u5 0), .int (nI 0)])), ((u5 0), .inl (dA 0, 35, .inl (fun _ => 0))), (a6, .inl (dA 3, 3, .inr (.inr (.inr (.inr (va_up (va_up (fun _ => none) (nI 0).toNatClampNeg (some a10)) (nI 1).toNatClampNeg (some a14))))))), (a7, .inl (dA 1, 3, .inl (fun _ => 0))), (a8, .inl (dA 3, 3, .inr (.inr (.inr (.inr (va_up (fun _ => none) (nI 0).toNatClampNeg (some a12))))))), (a9, .inl (dA 1, 3, .inl (fun _ => 0))), (a10, .inr (6, [.ref (u11 0), .int (nI 0)])), ((u11 0), .inl (dA 0, 728, .inl (fun _ => 0))), (a12, .inr (6, [.ref (u13 0), .int (nI 0)])), ((u13 0), .inl (dA 0, 2128, .inl (fun _ => 0))), (a14, .inr (6, [.ref (u15 0), .int (nI 0)])), ((u15 0), .inl (dA 0, 728, .inl (fun _ => 0)))]) (w1 := fun u => [(a16, .inr (6, [.ref (u 0), .int (nI 0)])), ((u 0), .inl (dA 0, 2128, .inl (fun _ => 0)))]) [16] [0, 1, 2, 3, 4, 5, 6, 7, 8, 9, 10, 11, 12, 13, 14, 15] C vAO hV vAO_mv (ct_X7 l dC dI dA a16 2128 (by decide)) rfl rfl (by decide) (by decide) (by decide) ml_X2_23 ini_X7 im_X7 cd_X7 rfl (by decide +kernel) rfl (by decide) (Nat.le_of_ble_eq_true rfl) (Nat.le_of_ble_eq_true rfl) (Nat.le_of_ble_eq_true rfl) (Nat.le_of_ble_eq_true rfl) (Nat.le_of_ble_eq_true rfl) dX2_init_109 rfl (fun u17 => ?_)
  refine cw_astore (kd := 3) (ws' := [(q, .inr (2, [.ref g, .ref a1, .int 0, .ref a2, .ref a4, .int 0, .ref a6, .ref a7, .ref a8, .ref a9])), (a1, .inl (dA 0, 16384, .inl (fun _ => 0))), (a2, .inr (6, [.ref (u3 0), .int (nI 0)])), ((u3 0), .inl (dA 0, 35, .inl (fun _ => 0))), (a4, .inr (6, [.ref (u5 0), .int (nI 0)])), ((u5 0), .inl (dA 0, 35, .inl (fun _ => 0))), (a6, .inl (dA 3, 3, .inr (.inr (.inr (.inr (va_up (va_up (fun _ => none) (nI 0).toNatClampNeg (some a10)) (nI 1).toNatClampNeg (some a14))))))), (a7, .inl (dA 1, 3, .inl (fun _ => 0))), (a8, .inl (dA 3, 3, .inr (.inr (.inr (.inr (va_up (va_up (fun _ => none) (nI 0).toNatClampNeg (some a12)) (nI 1).toNatClampNeg (some a16))))))), (a9, .inl (dA 1, 3, .inl (fun _ => 0))), (a10, .inr (6, [.ref (u11 0), .int (nI 0)])), ((u11 0), .inl (dA 0, 728, .inl (fun _ => 0))), (a12, .inr (6, [.ref (u13 0), .int (nI 0)])), ((u13 0), .inl (dA 0, 2128, .inl (fun _ => 0))), (a14, .inr (6, [.ref (u15 0), .int (nI 0)])), ((u15 0), .inl (dA 0, 728, .inl (fun _ => 0))), (a16, .inr (6, [.ref (u17 0), .int (nI 0)])), ((u17 0), .inl (dA 0, 2128, .inl (fun _ => 0)))]) 8 16 C rfl rfl rfl rfl (vp_in_nI (by decide) (by decide)) rfl dX2_init_112 ?_
  refine cw_iinc (nI 2) [(2, .int (nI 2)), (0, .ref q), (1, .ref g)] C 0 rfl (by decide) (by decide) rfl dX2_init_113 ?_
  refine cw_goto 76 C dX2_init_116 (by decide) ?_
  refine cw_iload C 0 rfl rfl dX2_init_76 ?_
  refine cw_iconst (nI 3) C dX2_init_77 (by decide) ?_
  refine cw_ge_f 119 C (by decide) dX2_init_78 (by decide) ?_
  refine cw_aload C 1 rfl rfl dX2_init_81 ?_
  refine cw_get (v := .ref a6) 0 C fl_X2_33 rfl rfl dX2_init_82 ?_
  refine cw_iload C 0 rfl rfl dX2_init_85 ?_
  refine cw_new (ci := 6) (N := 2) tyX7 [.null, .int 0] C rfl iw_X7 tyX7_ok cx_X2_21 inst_X7 ini_X7 (fun j hj => by rcases (show j = 0 ∨ j = 1 by omega) with rfl | rfl <;> rfl) (Nat.le_of_ble_eq_true rfl) (Nat.le_of_ble_eq_true rfl) dX2_init_86 (fun a18 => ?_)
  refine cw_dup C rfl dX2_init_89 ?_
  refine cw_sipush (nI 728) C dX2_init_90 (by decide) ?_
  refine cw_call (n := 1) (f := 1) (mc := 1) (ms := 728) (As := [.int (nI 728)]) (w0 := [(a18, .inr (6, [.null, .int 0]))]) (wr := [(q, .inr (2, [.ref g, .ref a1, .int 0, .ref a2, .ref a4, .int 0, .ref a6, .ref a7, .ref a8, .ref a9])), (a1, .inl (dA 0, 16384, .inl (fun _ => 0))), (a2, .inr (6, [.ref (u3 0), .int (nI 0)])), ((u3 0), .inl (dA 0, 35, .inl (fun _ => 0))), (a4, .inr (6, [.ref (u5 0), .int (nI 0)])), ((u5 0), .inl (dA 0, 35, .inl (fun _ => 0))), (a6, .inl (dA 3, 3, .inr (.inr (.inr (.inr (va_up (va_up (fun _ => none) (nI 0).toNatClampNeg (some a10)) (nI 1).toNatClampNeg (some a14))))))), (a7, .inl (dA 1, 3, .inl (fun _ => 0))), (a8, .inl (dA 3, 3, .inr (.inr (.inr (.inr (va_up (va_up (fun _ => none) (nI 0).toNatClampNeg (some a12)) (nI 1).toNatClampNeg (some a16))))))), (a9, .inl (dA 1, 3, .inl (fun _ => 0))), (a10, .inr (6, [.ref (u11 0), .int (nI 0)])), ((u11 0), .inl (dA 0, 728, .inl (fun _ => 0))), (a12, .inr (6, [.ref (u13 0), .int (nI 0)])), ((u13 0), .inl (dA 0, 2128, .inl (fun _ => 0))), (a14, .inr (6, [.ref (u15 0), .int (nI 0)])), ((u15 0), .inl (dA 0, 728, .inl (fun _ => 0))), (a16, .inr (6, [.ref (u17 0), .int (nI 0)])), ((u17 0), .inl (dA 0, 2128, .inl (fun _ => 0)))]) (w1 := fun u => [(a18, .inr (6, [.ref (u 0), .int (nI 0)])), ((u 0), .inl (dA 0, 728, .inl (fun _ => 0)))]) [18] [0, 1, 2, 3, 4, 5, 6, 7, 8, 9, 10, 11, 12, 13, 14, 15, 16, 17] C vAO hV vAO_mv (ct_X7 l dC dI dA a18 728 (by decide)) rfl rfl (by decide) (by decide) (by decide) ml_X2_23 ini_X7 im_X7 cd_X7 rfl (by decide +kernel) rfl (by decide) (Nat.le_of_ble_eq_true rfl) (Nat.le_of_ble_eq_true rfl) (Nat.le_of_ble_eq_true rfl) (Nat.le_of_ble_eq_true rfl) (Nat.le_of_ble_eq_true rfl) dX2_init_93 rfl (fun u19 => ?_)
  refine cw_astore (kd := 3) (ws' := [(q, .inr (2, [.ref g, .ref a1, .int 0, .ref a2, .ref a4, .int 0, .ref a6, .ref a7, .ref a8, .ref a9])), (a1, .inl (dA 0, 16384, .inl (fun _ => 0))), (a2, .inr (6, [.ref (u3 0), .int (nI 0)])), ((u3 0), .inl (dA 0, 35, .inl (fun _ => 0))), (a4, .inr (6, [.ref (u5 0), .int (nI 0)])), ((u5 0), .inl (dA 0, 35, .inl (fun _ => 0))), (a6, .inl (dA 3, 3, .inr (.inr (.inr (.inr (va_up (va_up (va_up (fun _ => none) (nI 0).toNatClampNeg (some a10)) (nI 1).toNatClampNeg (some a14)) (nI 2).toNatClampNeg (some a18))))))), (a7, .inl (dA 1, 3, .inl (fun _ => 0))), (a8, .inl (dA 3, 3, .inr (.inr (.inr (.inr (va_up (va_up (fun _ => none) (nI 0).toNatClampNeg (some a12)) (nI 1).toNatClampNeg (some a16))))))), (a9, .inl (dA 1, 3, .inl (fun _ => 0))), (a10, .inr (6, [.ref (u11 0), .int (nI 0)])), ((u11 0), .inl (dA 0, 728, .inl (fun _ => 0))), (a12, .inr (6, [.ref (u13 0), .int (nI 0)])), ((u13 0), .inl (dA 0, 2128, .inl (fun _ => 0))), (a14, .inr (6, [.ref (u15 0), .int (nI 0)])), ((u15 0), .inl (dA 0, 728, .inl (fun _ => 0))), (a16, .inr (6, [.ref (u17 0), .int (nI 0)])), ((u17 0), .inl (dA 0, 2128, .inl (fun _ => 0))), (a18, .inr (6, [.ref (u19 0), .int (nI 0)])), ((u19 0), .inl (dA 0, 728, .inl (fun _ => 0)))]) 6 18 C rfl rfl rfl rfl (vp_in_nI (by decide) (by decide)) rfl dX2_init_96 ?_
  refine cw_aload C 1 rfl rfl dX2_init_97 ?_
  refine cw_get (v := .ref a8) 0 C fl_X2_41 rfl rfl dX2_init_98 ?_
  refine cw_iload C 0 rfl rfl dX2_init_101 ?_
  refine cw_new (ci := 6) (N := 2) tyX7 [.null, .int 0] C rfl iw_X7 tyX7_ok cx_X2_21 inst_X7 ini_X7 (fun j hj => by rcases (show j = 0 ∨ j = 1 by omega) with rfl | rfl <;> rfl) (Nat.le_of_ble_eq_true rfl) (Nat.le_of_ble_eq_true rfl) dX2_init_102 (fun a20 => ?_)
  refine cw_dup C rfl dX2_init_105 ?_
  refine cw_sipush (nI 2128) C dX2_init_106 (by decide) ?_
  refine cw_call (n := 1) (f := 1) (mc := 1) (ms := 2128) (As := [.int (nI 2128)]) (w0 := [(a20, .inr (6, [.null, .int 0]))]) (wr := [(q, .inr (2, [.ref g, .ref a1, .int 0, .ref a2, .ref a4, .int 0, .ref a6, .ref a7, .ref a8, .ref a9])), (a1, .inl (dA 0, 16384, .inl (fun _ => 0))), (a2, .inr (6, [.ref (u3 0), .int (nI 0)])), ((u3 0), .inl (dA 0, 35, .inl (fun _ => 0))), (a4, .inr (6, [.ref (u5 0), .int (nI 0)])), ((u5 0), .inl (dA 0, 35, .inl (fun _ => 0))), (a6, .inl (dA 3, 3, .inr (.inr (.inr (.inr (va_up (va_up (va_up (fun _ => none) (nI 0).toNatClampNeg (some a10)) (nI 1).toNatClampNeg (some a14)) (nI 2).toNatClampNeg (some a18))))))), (a7, .inl (dA 1, 3, .inl (fun _ => 0))), (a8, .inl (dA 3, 3, .inr (.inr (.inr (.inr (va_up (va_up (fun _ => none) (nI 0).toNatClampNeg (some a12)) (nI 1).toNatClampNeg (some a16))))))), (a9, .inl (dA 1, 3, .inl (fun _ => 0))), (a10, .inr (6, [.ref (u11 0), .int (nI 0)])), ((u11 0), .inl (dA 0, 728, .inl (fun _ => 0))), (a12, .inr (6, [.ref (u13 0), .int (nI 0)])), ((u13 0), .inl (dA 0, 2128, .inl (fun _ => 0))), (a14, .inr (6, [.ref (u15 0), .int (nI 0)])), ((u15 0), .inl (dA 0, 728, .inl (fun _ => 0))), (a16, .inr (6, [.ref (u17 0), .int (nI 0)])), ((u17 0), .inl (dA 0, 2128, .inl (fun _ => 0))), (a18, .inr (6, [.ref (u19 0), .int (nI 0)])), ((u19 0), .inl (dA 0, 728, .inl (fun _ => 0)))]) (w1 := fun u => [(a20, .inr (6, [.ref (u 0), .int (nI 0)])), ((u 0), .inl (dA 0, 2128, .inl (fun _ => 0)))]) [20] [0, 1, 2, 3, 4, 5, 6, 7, 8, 9, 10, 11, 12, 13, 14, 15, 16, 17, 18, 19] C vAO hV vAO_mv (ct_X7 l dC dI dA a20 2128 (by decide)) rfl rfl (by decide) (by decide) (by decide) ml_X2_23 ini_X7 im_X7 cd_X7 rfl (by decide +kernel) rfl (by decide) (Nat.le_of_ble_eq_true rfl) (Nat.le_of_ble_eq_true rfl) (Nat.le_of_ble_eq_true rfl) (Nat.le_of_ble_eq_true rfl) (Nat.le_of_ble_eq_true rfl) dX2_init_109 rfl (fun u21 => ?_)
  refine cw_astore (kd := 3) (ws' := [(q, .inr (2, [.ref g, .ref a1, .int 0, .ref a2, .ref a4, .int 0, .ref a6, .ref a7, .ref a8, .ref a9])), (a1, .inl (dA 0, 16384, .inl (fun _ => 0))), (a2, .inr (6, [.ref (u3 0), .int (nI 0)])), ((u3 0), .inl (dA 0, 35, .inl (fun _ => 0))), (a4, .inr (6, [.ref (u5 0), .int (nI 0)])), ((u5 0), .inl (dA 0, 35, .inl (fun _ => 0))), (a6, .inl (dA 3, 3, .inr (.inr (.inr (.inr (va_up (va_up (va_up (fun _ => none) (nI 0).toNatClampNeg (some a10)) (nI 1).toNatClampNeg (some a14)) (nI 2).toNatClampNeg (some a18))))))), (a7, .inl (dA 1, 3, .inl (fun _ => 0))), (a8, .inl (dA 3, 3, .inr (.inr (.inr (.inr (va_up (va_up (va_up (fun _ => none) (nI 0).toNatClampNeg (some a12)) (nI 1).toNatClampNeg (some a16)) (nI 2).toNatClampNeg (some a20))))))), (a9, .inl (dA 1, 3, .inl (fun _ => 0))), (a10, .inr (6, [.ref (u11 0), .int (nI 0)])), ((u11 0), .inl (dA 0, 728, .inl (fun _ => 0))), (a12, .inr (6, [.ref (u13 0), .int (nI 0)])), ((u13 0), .inl (dA 0, 2128, .inl (fun _ => 0))), (a14, .inr (6, [.ref (u15 0), .int (nI 0)])), ((u15 0), .inl (dA 0, 728, .inl (fun _ => 0))), (a16, .inr (6, [.ref (u17 0), .int (nI 0)])), ((u17 0), .inl (dA 0, 2128, .inl (fun _ => 0))), (a18, .inr (6, [.ref (u19 0), .int (nI 0)])), ((u19 0), .inl (dA 0, 728, .inl (fun _ => 0))), (a20, .inr (6, [.ref (u21 0), .int (nI 0)])), ((u21 0), .inl (dA 0, 2128, .inl (fun _ => 0)))]) 8 20 C rfl rfl rfl rfl (vp_in_nI (by decide) (by decide)) rfl dX2_init_112 ?_
  refine cw_iinc (nI 3) [(2, .int (nI 3)), (0, .ref q), (1, .ref g)] C 0 rfl (by decide) (by decide) rfl dX2_init_113 ?_
  refine cw_goto 76 C dX2_init_116 (by decide) ?_
  refine cw_iload C 0 rfl rfl dX2_init_76 ?_
  refine cw_iconst (nI 3) C dX2_init_77 (by decide) ?_
  refine cw_ge_t 119 C (by decide) dX2_init_78 (by decide) ?_
  exact cw_ret (fun i => ([a1, a2, (u3 0), a4, (u5 0), a6, a7, a8, a9, a10, (u11 0), a12, (u13 0), a14, (u15 0), a16, (u17 0), a18, (u19 0), a20, (u21 0)] : List Nat).getD i 0) C hr hlk (by rw [up3, up3]; rfl) rfl rfl dX2_init_119
theorem ct_X4 (l : Launch) (dC : Nat → ClassId) (dI : Nat → Nat → Nat) (dA : Nat → ClassId) (q : Nat) (g i : Nat) : Ct vAO l dC dI dA M_X4_init 2 5 1467 [.ref q, .ref g, .ref i] [(q, .inr (4, [.null, .null, .null, .null, .null, .int 0, .int 0]))] (fun u => [(q, .inr (4, [.ref g, .ref i, .ref (u 0), .ref (u 1), .ref (u 3), .int (nI 0), .int 0])), ((u 0), .inl (dA 0, 7, .inl (fun _ => 0))), ((u 1), .inr (6, [.ref (u 2), .int (nI 0)])), ((u 2), .inl (dA 0, 728, .inl (fun _ => 0))), ((u 3), .inr (6, [.ref (u 4), .int (nI 0)])), ((u 4), .inl (dA 0, 728, .inl (fun _ => 0)))]) := by
  refine ct_start (by decide) (Nat.le_of_ble_eq_true rfl) ?_ rfl
  intro p e s m below meth c hV C hin hlk hr
  refine cw_aload C 0 rfl rfl dX4_init_0 ?_
  refine cw_objInit C oi_X4 oi_I oi_C dX4_init_1 (Nat.le_of_ble_eq_true rfl) (Nat.le_of_ble_eq_true rfl) ?_
  refine cw_aload C 0 rfl rfl dX4_init_4 ?_
  refine cw_aload C 1 rfl rfl dX4_init_5 ?_
  refine cw_putF (ws' := [(q, .inr (4, [.ref g, .null, .null, .null, .null, .int 0, .int 0]))]) 0 C hin ff_X4_9 rfl rfl rfl (Nat.le_of_ble_eq_true rfl) rfl dX4_init_6 ?_
  refine cw_aload C 0 rfl rfl dX4_init_9 ?_
  refine cw_aload C 2 rfl rfl dX4_init_10 ?_
  refine cw_putF (ws' := [(q, .inr (4, [.ref g, .ref i, .null, .null, .null, .int 0, .int 0]))]) 0 C hin ff_X4_15 rfl rfl rfl (Nat.le_of_ble_eq_true rfl) rfl dX4_init_11 ?_
  refine cw_aload C 0 rfl rfl dX4_init_14 ?_
  refine cw_bipush (nI 7) C dX4_init_15 (by decide) ?_
  refine cw_newI C ac_int (Nat.le_of_ble_eq_true rfl) (Nat.le_of_ble_eq_true rfl) (Nat.le_of_ble_eq_true rfl) dX4_init_17 (fun a1 => ?_)
  refine cw_putF (ws' := [(q, .inr (4, [.ref g, .ref i, .ref a1, .null, .null, .int 0, .int 0])), (a1, .inl (dA 0, 7, .inl (fun _ => 0)))]) 0 C hin ff_X4_19 rfl rfl rfl (Nat.le_of_ble_eq_true rfl) rfl dX4_init_19 ?_
  refine cw_aload C 0 rfl rfl dX4_init_22 ?_
  refine cw_new (ci := 6) (N := 2) tyX7 [.null, .int 0] C rfl iw_X7 tyX7_ok cx_X4_23 inst_X7 ini_X7 (fun j hj => by rcases (show j = 0 ∨ j = 1 by omega) with rfl | rfl <;> rfl) (Nat.le_of_ble_eq_true rfl) (Nat.le_of_ble_eq_true rfl) dX4_init_23 (fun a2 => ?_)
  refine cw_dup C rfl dX4_init_26 ?_
  refine cw_sipush (nI 728) C dX4_init_27 (by decide) ?_
  refine cw_call (n := 1) (f := 1) (mc := 1) (ms := 728) (As := [.int (nI 728)]) (w0 := [(a2, .inr (6, [.null, .int 0]))]) (wr := [(q, .inr (4, [.ref g, .ref i, .ref a1, .null, .null, .int 0, .int 0])), (a1, .inl (dA 0, 7, .inl (fun _ => 0)))]) (w1 := fun u => [(a2, .inr (6, [.ref (u 0), .int (nI 0)])), ((u 0), .inl (dA 0, 728, .inl (fun _ => 0)))]) [2] [0, 1] C vAO hV vAO_mv (ct_X7 l dC dI dA a2 728 (by decide)) rfl rfl (by decide) (by decide) (by decide) ml_X4_27 ini_X7 im_X7 cd_X7 rfl (by decide +kernel) rfl (by decide) (Nat.le_of_ble_eq_true rfl) (Nat.le_of_ble_eq_true rfl) (Nat.le_of_ble_eq_true rfl) (Nat.le_of_ble_eq_true rfl) (Nat.le_of_ble_eq_true rfl) dX4_init_30 rfl (fun u3 => ?_)
  refine cw_putF (ws' := [(q, .inr (4, [.ref g, .ref i, .ref a1, .ref a2, .null, .int 0, .int 0])), (a1, .inl (dA 0, 7, .inl (fun _ => 0))), (a2, .inr (6, [.ref (u3 0), .int (nI 0)])), ((u3 0), .inl (dA 0, 728, .inl (fun _ => 0)))]) 0 C hin ff_X4_30 rfl rfl rfl (Nat.le_of_ble_eq_true rfl) rfl dX4_init_33 ?_
  refine cw_aload C 0 rfl rfl dX4_init_36 ?_
  refine cw_new (ci := 6) (N := 2) tyX7 [.null, .int 0] C rfl iw_X7 tyX7_ok cx_X4_23 inst_X7 ini_X7 (fun j hj => by rcases (show j = 0 ∨ j = 1 by omega) with rfl | rfl <;> rfl) (Nat.le_of_ble_eq_true rfl) (Nat.le_of_ble_eq_true rfl) dX4_init_37 (fun a4 => ?_)
  refine cw_dup C rfl dX4_init_40 ?_
  refine cw_sipush (nI 728) C dX4_init_41 (by decide) ?_
  refine cw_call (n := 1) (f := 1) (mc := 1) (ms := 728) (As := [.int (nI 728)]) (w0 := [(a4, .inr (6, [.null, .int 0]))]) (wr := [(q, .inr (4, [.ref g, .ref i, .ref a1, .ref a2, .null, .int 0, .int 0])), (a1, .inl (dA 0, 7, .inl (fun _ => 0))), (a2, .inr (6, [.ref (u3 0), .int (nI 0)])), ((u3 0), .inl (dA 0, 728, .inl (fun _ => 0)))]) (w1 := fun u => [(a4, .inr (6, [.ref (u 0), .int (nI 0)])), ((u 0), .inl (dA 0, 728, .inl (fun _ => 0)))]) [4] [0, 1, 2, 3] C vAO hV vAO_mv (ct_X7 l dC dI dA a4 728 (by decide)) rfl rfl (by decide) (by decide) (by decide) ml_X4_27 ini_X7 im_X7 cd_X7 rfl (by decide +kernel) rfl (by decide) (Nat.le_of_ble_eq_true rfl) (Nat.le_of_ble_eq_true rfl) (Nat.le_of_ble_eq_true rfl) (Nat.le_of_ble_eq_true rfl) (Nat.le_of_ble_eq_true rfl) dX4_init_44 rfl (fun u5 => ?_)
  refine cw_putF (ws' := [(q, .inr (4, [.ref g, .ref i, .ref a1, .ref a2, .ref a4, .int 0, .int 0])), (a1, .inl (dA 0, 7, .inl (fun _ => 0))), (a2, .inr (6, [.ref (u3 0), .int (nI 0)])), ((u3 0), .inl (dA 0, 728, .inl (fun _ => 0))), (a4, .inr (6, [.ref (u5 0), .int (nI 0)])), ((u5 0), .inl (dA 0, 728, .inl (fun _ => 0)))]) 0 C hin ff_X4_34 rfl rfl rfl (Nat.le_of_ble_eq_true rfl) rfl dX4_init_47 ?_
  refine cw_aload C 0 rfl rfl dX4_init_50 ?_
  refine cw_iconst (nI 0) C dX4_init_51 (by decide) ?_
  refine cw_put (ws' := [(q, .inr (4, [.ref g, .ref i, .ref a1, .ref a2, .ref a4, .int (nI 0), .int 0])), (a1, .inl (dA 0, 7, .inl (fun _ => 0))), (a2, .inr (6, [.ref (u3 0), .int (nI 0)])), ((u3 0), .inl (dA 0, 728, .inl (fun _ => 0))), (a4, .inr (6, [.ref (u5 0), .int (nI 0)])), ((u5 0), .inl (dA 0, 728, .inl (fun _ => 0)))]) 0 C fp_X4_37 rfl rfl rfl (Nat.le_of_ble_eq_true rfl) rfl dX4_init_52 ?_
  exact cw_ret (fun i => ([a1, a2, (u3 0), a4, (u5 0)] : List Nat).getD i 0) C hr hlk rfl rfl rfl dX4_init_55
theorem ct_X0 (l : Launch) (dC : Nat → ClassId) (dI : Nat → Nat → Nat) (dA : Nat → ClassId) (q : Nat) : Ct vAO l dC dI dA M_X0_init 1 1 12 [.ref q] [(q, .inr (0, [.null, .int 0]))] (fun u => [(q, .inr (0, [.ref (u 0), .int (nI 0)])), ((u 0), .inl (dA 2, 12, .inr (.inl (fun _ => 0))))]) := by
  refine ct_start (by decide) (Nat.le_of_ble_eq_true rfl) ?_ rfl
  intro p e s m below meth c hV C hin hlk hr
  refine cw_aload C 0 rfl rfl dX0_init_0 ?_
  refine cw_objInit C oi_X0 oi_I oi_C dX0_init_1 (Nat.le_of_ble_eq_true rfl) (Nat.le_of_ble_eq_true rfl) ?_
  refine cw_aload C 0 rfl rfl dX0_init_4 ?_
  refine cw_bipush (nI 12) C dX0_init_5 (by decide) ?_
  refine cw_newJ C ac_long (Nat.le_of_ble_eq_true rfl) (Nat.le_of_ble_eq_true rfl) (Nat.le_of_ble_eq_true rfl) dX0_init_7 (fun a1 => ?_)
  refine cw_putF (ws' := [(q, .inr (0, [.ref a1, .int 0])), (a1, .inl (dA 2, 12, .inr (.inl (fun _ => 0))))]) 0 C hin ff_X0_9 rfl rfl rfl (Nat.le_of_ble_eq_true rfl) rfl dX0_init_9 ?_
  refine cw_aload C 0 rfl rfl dX0_init_12 ?_
  refine cw_iconst (nI 0) C dX0_init_13 (by decide) ?_
  refine cw_put (ws' := [(q, .inr (0, [.ref a1, .int (nI 0)])), (a1, .inl (dA 2, 12, .inr (.inl (fun _ => 0))))]) 0 C fp_X0_13 rfl rfl rfl (Nat.le_of_ble_eq_true rfl) rfl dX0_init_14 ?_
  exact cw_ret (fun i => ([a1] : List Nat).getD i 0) C hr hlk rfl rfl rfl dX0_init_17
theorem ct_X10 (l : Launch) (dC : Nat → ClassId) (dI : Nat → Nat → Nat) (dA : Nat → ClassId) (q : Nat) : Ct vAO l dC dI dA M_X10_init 1 4 32 [.ref q] [(q, .inr (9, [.null, .null, .null, .null, .int 0]))] (fun u => [(q, .inr (9, [.ref (u 0), .ref (u 1), .ref (u 2), .ref (u 3), .int (nI 0)])), ((u 0), .inl (dA 0, 8, .inl (fun _ => 0))), ((u 1), .inl (dA 0, 8, .inl (fun _ => 0))), ((u 2), .inl (dA 0, 8, .inl (fun _ => 0))), ((u 3), .inl (dA 0, 8, .inl (fun _ => 0)))]) := by
  refine ct_start (by decide) (Nat.le_of_ble_eq_true rfl) ?_ rfl
  intro p e s m below meth c hV C hin hlk hr
  refine cw_aload C 0 rfl rfl dX10_init_0 ?_
  refine cw_objInit C oi_X10 oi_I oi_C dX10_init_1 (Nat.le_of_ble_eq_true rfl) (Nat.le_of_ble_eq_true rfl) ?_
  refine cw_aload C 0 rfl rfl dX10_init_4 ?_
  refine cw_bipush (nI 8) C dX10_init_5 (by decide) ?_
  refine cw_newI C ac_int (Nat.le_of_ble_eq_true rfl) (Nat.le_of_ble_eq_true rfl) (Nat.le_of_ble_eq_true rfl) dX10_init_7 (fun a1 => ?_)
  refine cw_putF (ws' := [(q, .inr (9, [.ref a1, .null, .null, .null, .int 0])), (a1, .inl (dA 0, 8, .inl (fun _ => 0)))]) 0 C hin ff_X10_11 rfl rfl rfl (Nat.le_of_ble_eq_true rfl) rfl dX10_init_9 ?_
  refine cw_aload C 0 rfl rfl dX10_init_12 ?_
  refine cw_bipush (nI 8) C dX10_init_13 (by decide) ?_
  refine cw_newI C ac_int (Nat.le_of_ble_eq_true rfl) (Nat.le_of_ble_eq_true rfl) (Nat.le_of_ble_eq_true rfl) dX10_init_15 (fun a2 => ?_)
  refine cw_putF (ws' := [(q, .inr (9, [.ref a1, .ref a2, .null, .null, .int 0])), (a1, .inl (dA 0, 8, .inl (fun _ => 0))), (a2, .inl (dA 0, 8, .inl (fun _ => 0)))]) 0 C hin ff_X10_15 rfl rfl rfl (Nat.le_of_ble_eq_true rfl) rfl dX10_init_17 ?_
  refine cw_aload C 0 rfl rfl dX10_init_20 ?_
  refine cw_bipush (nI 8) C dX10_init_21 (by decide) ?_
  refine cw_newI C ac_int (Nat.le_of_ble_eq_true rfl) (Nat.le_of_ble_eq_true rfl) (Nat.le_of_ble_eq_true rfl) dX10_init_23 (fun a3 => ?_)
  refine cw_putF (ws' := [(q, .inr (9, [.ref a1, .ref a2, .ref a3, .null, .int 0])), (a1, .inl (dA 0, 8, .inl (fun _ => 0))), (a2, .inl (dA 0, 8, .inl (fun _ => 0))), (a3, .inl (dA 0, 8, .inl (fun _ => 0)))]) 0 C hin ff_X10_18 rfl rfl rfl (Nat.le_of_ble_eq_true rfl) rfl dX10_init_25 ?_
  refine cw_aload C 0 rfl rfl dX10_init_28 ?_
  refine cw_bipush (nI 8) C dX10_init_29 (by decide) ?_
  refine cw_newI C ac_int (Nat.le_of_ble_eq_true rfl) (Nat.le_of_ble_eq_true rfl) (Nat.le_of_ble_eq_true rfl) dX10_init_31 (fun a4 => ?_)
  refine cw_putF (ws' := [(q, .inr (9, [.ref a1, .ref a2, .ref a3, .ref a4, .int 0])), (a1, .inl (dA 0, 8, .inl (fun _ => 0))), (a2, .inl (dA 0, 8, .inl (fun _ => 0))), (a3, .inl (dA 0, 8, .inl (fun _ => 0))), (a4, .inl (dA 0, 8, .inl (fun _ => 0)))]) 0 C hin ff_X10_21 rfl rfl rfl (Nat.le_of_ble_eq_true rfl) rfl dX10_init_33 ?_
  refine cw_aload C 0 rfl rfl dX10_init_36 ?_
  refine cw_iconst (nI 0) C dX10_init_37 (by decide) ?_
  refine cw_put (ws' := [(q, .inr (9, [.ref a1, .ref a2, .ref a3, .ref a4, .int (nI 0)])), (a1, .inl (dA 0, 8, .inl (fun _ => 0))), (a2, .inl (dA 0, 8, .inl (fun _ => 0))), (a3, .inl (dA 0, 8, .inl (fun _ => 0))), (a4, .inl (dA 0, 8, .inl (fun _ => 0)))]) 0 C fp_X10_24 rfl rfl rfl (Nat.le_of_ble_eq_true rfl) rfl dX10_init_38 ?_
  exact cw_ret (fun i => ([a1, a2, a3, a4] : List Nat).getD i 0) C hr hlk rfl rfl rfl dX10_init_41
theorem ct_X5 (l : Launch) (dC : Nat → ClassId) (dI : Nat → Nat → Nat) (dA : Nat → ClassId) (q : Nat) : Ct vAO l dC dI dA M_X5_init 2 6 413 [.ref q] [(q, .inr (5, [.null, .null, .null]))] (fun u => [(q, .inr (5, [.ref (u 0), .ref (u 2), .ref (u 4)])), ((u 0), .inr (6, [.ref (u 1), .int (nI 0)])), ((u 1), .inl (dA 0, 24, .inl (fun _ => 0))), ((u 2), .inr (6, [.ref (u 3), .int (nI 0)])), ((u 3), .inl (dA 0, 24, .inl (fun _ => 0))), ((u 4), .inr (6, [.ref (u 5), .int (nI 0)])), ((u 5), .inl (dA 0, 359, .inl (fun _ => 0)))]) := by
  refine ct_start (by decide) (Nat.le_of_ble_eq_true rfl) ?_ rfl
  intro p e s m below meth c hV C hin hlk hr
  refine cw_aload C 0 rfl rfl dX5_init_0 ?_
  refine cw_objInit C oi_X5 oi_I oi_C dX5_init_1 (Nat.le_of_ble_eq_true rfl) (Nat.le_of_ble_eq_true rfl) ?_
  refine cw_aload C 0 rfl rfl dX5_init_4 ?_
  refine cw_new (ci := 6) (N := 2) tyX7 [.null, .int 0] C rfl iw_X7 tyX7_ok cx_X5_9 inst_X7 ini_X7 (fun j hj => by rcases (show j = 0 ∨ j = 1 by omega) with rfl | rfl <;> rfl) (Nat.le_of_ble_eq_true rfl) (Nat.le_of_ble_eq_true rfl) dX5_init_5 (fun a1 => ?_)
  refine cw_dup C rfl dX5_init_8 ?_
  refine cw_bipush (nI 24) C dX5_init_9 (by decide) ?_
  refine cw_call (n := 1) (f := 1) (mc := 1) (ms := 24) (As := [.int (nI 24)]) (w0 := [(a1, .inr (6, [.null, .int 0]))]) (wr := [(q, .inr (5, [.null, .null, .null]))]) (w1 := fun u => [(a1, .inr (6, [.ref (u 0), .int (nI 0)])), ((u 0), .inl (dA 0, 24, .inl (fun _ => 0)))]) [1] [0] C vAO hV vAO_mv (ct_X7 l dC dI dA a1 24 (by decide)) rfl rfl (by decide) (by decide) (by decide) ml_X5_11 ini_X7 im_X7 cd_X7 rfl (by decide +kernel) rfl (by decide) (Nat.le_of_ble_eq_true rfl) (Nat.le_of_ble_eq_true rfl) (Nat.le_of_ble_eq_true rfl) (Nat.le_of_ble_eq_true rfl) (Nat.le_of_ble_eq_true rfl) dX5_init_11 rfl (fun u2 => ?_)
  refine cw_putF (ws' := [(q, .inr (5, [.ref a1, .null, .null])), (a1, .inr (6, [.ref (u2 0), .int (nI 0)])), ((u2 0), .inl (dA 0, 24, .inl (fun _ => 0)))]) 0 C hin ff_X5_14 rfl rfl rfl (Nat.le_of_ble_eq_true rfl) rfl dX5_init_14 ?_
  refine cw_aload C 0 rfl rfl dX5_init_17 ?_
  refine cw_new (ci := 6) (N := 2) tyX7 [.null, .int 0] C rfl iw_X7 tyX7_ok cx_X5_9 inst_X7 ini_X7 (fun j hj => by rcases (show j = 0 ∨ j = 1 by omega) with rfl | rfl <;> rfl) (Nat.le_of_ble_eq_true rfl) (Nat.le_of_ble_eq_true rfl) dX5_init_18 (fun a3 => ?_)
  refine cw_dup C rfl dX5_init_21 ?_
  refine cw_bipush (nI 24) C dX5_init_22 (by decide) ?_
  refine cw_call (n := 1) (f := 1) (mc := 1) (ms := 24) (As := [.int (nI 24)]) (w0 := [(a3, .inr (6, [.null, .int 0]))]) (wr := [(q, .inr (5, [.ref a1, .null, .null])), (a1, .inr (6, [.ref (u2 0), .int (nI 0)])), ((u2 0), .inl (dA 0, 24, .inl (fun _ => 0)))]) (w1 := fun u => [(a3, .inr (6, [.ref (u 0), .int (nI 0)])), ((u 0), .inl (dA 0, 24, .inl (fun _ => 0)))]) [3] [0, 1, 2] C vAO hV vAO_mv (ct_X7 l dC dI dA a3 24 (by decide)) rfl rfl (by decide) (by decide) (by decide) ml_X5_11 ini_X7 im_X7 cd_X7 rfl (by decide +kernel) rfl (by decide) (Nat.le_of_ble_eq_true rfl) (Nat.le_of_ble_eq_true rfl) (Nat.le_of_ble_eq_true rfl) (Nat.le_of_ble_eq_true rfl) (Nat.le_of_ble_eq_true rfl) dX5_init_24 rfl (fun u4 => ?_)
  refine cw_putF (ws' := [(q, .inr (5, [.ref a1, .ref a3, .null])), (a1, .inr (6, [.ref (u2 0), .int (nI 0)])), ((u2 0), .inl (dA 0, 24, .inl (fun _ => 0))), (a3, .inr (6, [.ref (u4 0), .int (nI 0)])), ((u4 0), .inl (dA 0, 24, .inl (fun _ => 0)))]) 0 C hin ff_X5_20 rfl rfl rfl (Nat.le_of_ble_eq_true rfl) rfl dX5_init_27 ?_
  refine cw_aload C 0 rfl rfl dX5_init_30 ?_
  refine cw_new (ci := 6) (N := 2) tyX7 [.null, .int 0] C rfl iw_X7 tyX7_ok cx_X5_9 inst_X7 ini_X7 (fun j hj => by rcases (show j = 0 ∨ j = 1 by omega) with rfl | rfl <;> rfl) (Nat.le_of_ble_eq_true rfl) (Nat.le_of_ble_eq_true rfl) dX5_init_31 (fun a5 => ?_)
  refine cw_dup C rfl dX5_init_34 ?_
  refine cw_sipush (nI 359) C dX5_init_35 (by decide) ?_
  refine cw_call (n := 1) (f := 1) (mc := 1) (ms := 359) (As := [.int (nI 359)]) (w0 := [(a5, .inr (6, [.null, .int 0]))]) (wr := [(q, .inr (5, [.ref a1, .ref a3, .null])), (a1, .inr (6, [.ref (u2 0), .int (nI 0)])), ((u2 0), .inl (dA 0, 24, .inl (fun _ => 0))), (a3, .inr (6, [.ref (u4 0), .int (nI 0)])), ((u4 0), .inl (dA 0, 24, .inl (fun _ => 0)))]) (w1 := fun u => [(a5, .inr (6, [.ref (u 0), .int (nI 0)])), ((u 0), .inl (dA 0, 359, .inl (fun _ => 0)))]) [5] [0, 1, 2, 3, 4] C vAO hV vAO_mv (ct_X7 l dC dI dA a5 359 (by decide)) rfl rfl (by decide) (by decide) (by decide) ml_X5_11 ini_X7 im_X7 cd_X7 rfl (by decide +kernel) rfl (by decide) (Nat.le_of_ble_eq_true rfl) (Nat.le_of_ble_eq_true rfl) (Nat.le_of_ble_eq_true rfl) (Nat.le_of_ble_eq_true rfl) (Nat.le_of_ble_eq_true rfl) dX5_init_38 rfl (fun u6 => ?_)
  refine cw_putF (ws' := [(q, .inr (5, [.ref a1, .ref a3, .ref a5])), (a1, .inr (6, [.ref (u2 0), .int (nI 0)])), ((u2 0), .inl (dA 0, 24, .inl (fun _ => 0))), (a3, .inr (6, [.ref (u4 0), .int (nI 0)])), ((u4 0), .inl (dA 0, 24, .inl (fun _ => 0))), (a5, .inr (6, [.ref (u6 0), .int (nI 0)])), ((u6 0), .inl (dA 0, 359, .inl (fun _ => 0)))]) 0 C hin ff_X5_23 rfl rfl rfl (Nat.le_of_ble_eq_true rfl) rfl dX5_init_41 ?_
  exact cw_ret (fun i => ([a1, (u2 0), a3, (u4 0), a5, (u6 0)] : List Nat).getD i 0) C hr hlk rfl rfl rfl dX5_init_44
theorem ct_X3 (l : Launch) (dC : Nat → ClassId) (dI : Nat → Nat → Nat) (dA : Nat → ClassId) (q : Nat) : Ct vAO l dC dI dA M_X3_init 2 4 88 [.ref q] [(q, .inr (3, [.null, .null, .int 0, .int 0, .int 0]))] (fun u => [(q, .inr (3, [.ref (u 0), .ref (u 2), .int (nI 0), .int 0, .int 0])), ((u 0), .inr (6, [.ref (u 1), .int (nI 0)])), ((u 1), .inl (dA 0, 60, .inl (fun _ => 0))), ((u 2), .inr (6, [.ref (u 3), .int (nI 0)])), ((u 3), .inl (dA 0, 24, .inl (fun _ => 0)))]) := by
  refine ct_start (by decide) (Nat.le_of_ble_eq_true rfl) ?_ rfl
  intro p e s m below meth c hV C hin hlk hr
  refine cw_aload C 0 rfl rfl dX3_init_0 ?_
  refine cw_objInit C oi_X3 oi_I oi_C dX3_init_1 (Nat.le_of_ble_eq_true rfl) (Nat.le_of_ble_eq_true rfl) ?_
  refine cw_aload C 0 rfl rfl dX3_init_4 ?_
  refine cw_new (ci := 6) (N := 2) tyX7 [.null, .int 0] C rfl iw_X7 tyX7_ok cx_X3_9 inst_X7 ini_X7 (fun j hj => by rcases (show j = 0 ∨ j = 1 by omega) with rfl | rfl <;> rfl) (Nat.le_of_ble_eq_true rfl) (Nat.le_of_ble_eq_true rfl) dX3_init_5 (fun a1 => ?_)
  refine cw_dup C rfl dX3_init_8 ?_
  refine cw_bipush (nI 60) C dX3_init_9 (by decide) ?_
  refine cw_call (n := 1) (f := 1) (mc := 1) (ms := 60) (As := [.int (nI 60)]) (w0 := [(a1, .inr (6, [.null, .int 0]))]) (wr := [(q, .inr (3, [.null, .null, .int 0, .int 0, .int 0]))]) (w1 := fun u => [(a1, .inr (6, [.ref (u 0), .int (nI 0)])), ((u 0), .inl (dA 0, 60, .inl (fun _ => 0)))]) [1] [0] C vAO hV vAO_mv (ct_X7 l dC dI dA a1 60 (by decide)) rfl rfl (by decide) (by decide) (by decide) ml_X3_11 ini_X7 im_X7 cd_X7 rfl (by decide +kernel) rfl (by decide) (Nat.le_of_ble_eq_true rfl) (Nat.le_of_ble_eq_true rfl) (Nat.le_of_ble_eq_true rfl) (Nat.le_of_ble_eq_true rfl) (Nat.le_of_ble_eq_true rfl) dX3_init_11 rfl (fun u2 => ?_)
  refine cw_putF (ws' := [(q, .inr (3, [.ref a1, .null, .int 0, .int 0, .int 0])), (a1, .inr (6, [.ref (u2 0), .int (nI 0)])), ((u2 0), .inl (dA 0, 60, .inl (fun _ => 0)))]) 0 C hin ff_X3_14 rfl rfl rfl (Nat.le_of_ble_eq_true rfl) rfl dX3_init_14 ?_
  refine cw_aload C 0 rfl rfl dX3_init_17 ?_
  refine cw_new (ci := 6) (N := 2) tyX7 [.null, .int 0] C rfl iw_X7 tyX7_ok cx_X3_9 inst_X7 ini_X7 (fun j hj => by rcases (show j = 0 ∨ j = 1 by omega) with rfl | rfl <;> rfl) (Nat.le_of_ble_eq_true rfl) (Nat.le_of_ble_eq_true rfl) dX3_init_18 (fun a3 => ?_)
  refine cw_dup C rfl dX3_init_21 ?_
  refine cw_bipush (nI 24) C dX3_init_22 (by decide) ?_
  refine cw_call (n := 1) (f := 1) (mc := 1) (ms := 24) (As := [.int (nI 24)]) (w0 := [(a3, .inr (6, [.null, .int 0]))]) (wr := [(q, .inr (3, [.ref a1, .null, .int 0, .int 0, .int 0])), (a1, .inr (6, [.ref (u2 0), .int (nI 0)])), ((u2 0), .inl (dA 0, 60, .inl (fun _ => 0)))]) (w1 := fun u => [(a3, .inr (6, [.ref (u 0), .int (nI 0)])), ((u 0), .inl (dA 0, 24, .inl (fun _ => 0)))]) [3] [0, 1, 2] C vAO hV vAO_mv (ct_X7 l dC dI dA a3 24 (by decide)) rfl rfl (by decide) (by decide) (by decide) ml_X3_11 ini_X7 im_X7 cd_X7 rfl (by decide +kernel) rfl (by decide) (Nat.le_of_ble_eq_true rfl) (Nat.le_of_ble_eq_true rfl) (Nat.le_of_ble_eq_true rfl) (Nat.le_of_ble_eq_true rfl) (Nat.le_of_ble_eq_true rfl) dX3_init_24 rfl (fun u4 => ?_)
  refine cw_putF (ws' := [(q, .inr (3, [.ref a1, .ref a3, .int 0, .int 0, .int 0])), (a1, .inr (6, [.ref (u2 0), .int (nI 0)])), ((u2 0), .inl (dA 0, 60, .inl (fun _ => 0))), (a3, .inr (6, [.ref (u4 0), .int (nI 0)])), ((u4 0), .inl (dA 0, 24, .inl (fun _ => 0)))]) 0 C hin ff_X3_20 rfl rfl rfl (Nat.le_of_ble_eq_true rfl) rfl dX3_init_27 ?_
  refine cw_aload C 0 rfl rfl dX3_init_30 ?_
  refine cw_iconst (nI 0) C dX3_init_31 (by decide) ?_
  refine cw_put (ws' := [(q, .inr (3, [.ref a1, .ref a3, .int (nI 0), .int 0, .int 0])), (a1, .inr (6, [.ref (u2 0), .int (nI 0)])), ((u2 0), .inl (dA 0, 60, .inl (fun _ => 0))), (a3, .inr (6, [.ref (u4 0), .int (nI 0)])), ((u4 0), .inl (dA 0, 24, .inl (fun _ => 0)))]) 0 C fp_X3_23 rfl rfl rfl (Nat.le_of_ble_eq_true rfl) rfl dX3_init_32 ?_
  exact cw_ret (fun i => ([a1, (u2 0), a3, (u4 0)] : List Nat).getD i 0) C hr hlk rfl rfl rfl dX3_init_35
theorem ct_X8 (l : Launch) (dC : Nat → ClassId) (dI : Nat → Nat → Nat) (dA : Nat → ClassId) (q : Nat) : Ct vAO l dC dI dA M_X8_init 2 2 32 [.ref q] [(q, .inr (7, [.int 0, .null]))] (fun u => [(q, .inr (7, [.int (nI 0), .ref (u 0)])), ((u 0), .inr (6, [.ref (u 1), .int (nI 0)])), ((u 1), .inl (dA 0, 30, .inl (fun _ => 0)))]) := by
  refine ct_start (by decide) (Nat.le_of_ble_eq_true rfl) ?_ rfl
  intro p e s m below meth c hV C hin hlk hr
  refine cw_aload C 0 rfl rfl dX8_init_0 ?_
  refine cw_objInit C oi_X8 oi_I oi_C dX8_init_1 (Nat.le_of_ble_eq_true rfl) (Nat.le_of_ble_eq_true rfl) ?_
  refine cw_aload C 0 rfl rfl dX8_init_4 ?_
  refine cw_iconst (nI 0) C dX8_init_5 (by decide) ?_
  refine cw_put (ws' := [(q, .inr (7, [.int (nI 0), .null]))]) 0 C fp_X8_11 rfl rfl rfl (Nat.le_of_ble_eq_true rfl) rfl dX8_init_6 ?_
  refine cw_aload C 0 rfl rfl dX8_init_9 ?_
  refine cw_new (ci := 6) (N := 2) tyX7 [.null, .int 0] C rfl iw_X7 tyX7_ok cx_X8_15 inst_X7 ini_X7 (fun j hj => by rcases (show j = 0 ∨ j = 1 by omega) with rfl | rfl <;> rfl) (Nat.le_of_ble_eq_true rfl) (Nat.le_of_ble_eq_true rfl) dX8_init_10 (fun a1 => ?_)
  refine cw_dup C rfl dX8_init_13 ?_
  refine cw_bipush (nI 30) C dX8_init_14 (by decide) ?_
  refine cw_call (n := 1) (f := 1) (mc := 1) (ms := 30) (As := [.int (nI 30)]) (w0 := [(a1, .inr (6, [.null, .int 0]))]) (wr := [(q, .inr (7, [.int (nI 0), .null]))]) (w1 := fun u => [(a1, .inr (6, [.ref (u 0), .int (nI 0)])), ((u 0), .inl (dA 0, 30, .inl (fun _ => 0)))]) [1] [0] C vAO hV vAO_mv (ct_X7 l dC dI dA a1 30 (by decide)) rfl rfl (by decide) (by decide) (by decide) ml_X8_17 ini_X7 im_X7 cd_X7 rfl (by decide +kernel) rfl (by decide) (Nat.le_of_ble_eq_true rfl) (Nat.le_of_ble_eq_true rfl) (Nat.le_of_ble_eq_true rfl) (Nat.le_of_ble_eq_true rfl) (Nat.le_of_ble_eq_true rfl) dX8_init_16 rfl (fun u2 => ?_)
  refine cw_putF (ws' := [(q, .inr (7, [.int (nI 0), .ref a1])), (a1, .inr (6, [.ref (u2 0), .int (nI 0)])), ((u2 0), .inl (dA 0, 30, .inl (fun _ => 0)))]) 0 C hin ff_X8_20 rfl rfl rfl (Nat.le_of_ble_eq_true rfl) rfl dX8_init_19 ?_
  exact cw_ret (fun i => ([a1, (u2 0)] : List Nat).getD i 0) C hr hlk rfl rfl rfl dX8_init_22
theorem ct_X9 (l : Launch) (dC : Nat → ClassId) (dI : Nat → Nat → Nat) (dA : Nat → ClassId) (q : Nat) : Ct vAO l dC dI dA M_X9_init 2 2 26 [.ref q] [(q, .inr (8, [.int 0, .int 0, .long 0, .int 0, .null]))] (fun u => [(q, .inr (8, [.int (nI 0), .int 0, .long 0, .int 0, .ref (u 0)])), ((u 0), .inr (6, [.ref (u 1), .int (nI 0)])), ((u 1), .inl (dA 0, 24, .inl (fun _ => 0)))]) := by
  refine ct_start (by decide) (Nat.le_of_ble_eq_true rfl) ?_ rfl
  intro p e s m below meth c hV C hin hlk hr
  refine cw_aload C 0 rfl rfl dX9_init_0 ?_
  refine cw_objInit C oi_X9 oi_I oi_C dX9_init_1 (Nat.le_of_ble_eq_true rfl) (Nat.le_of_ble_eq_true rfl) ?_
  refine cw_aload C 0 rfl rfl dX9_init_4 ?_
  refine cw_iconst (nI 0) C dX9_init_5 (by decide) ?_
  refine cw_put (ws' := [(q, .inr (8, [.int (nI 0), .int 0, .long 0, .int 0, .null]))]) 0 C fp_X9_9 rfl rfl rfl (Nat.le_of_ble_eq_true rfl) rfl dX9_init_6 ?_
  refine cw_aload C 0 rfl rfl dX9_init_9 ?_
  refine cw_new (ci := 6) (N := 2) tyX7 [.null, .int 0] C rfl iw_X7 tyX7_ok cx_X9_15 inst_X7 ini_X7 (fun j hj => by rcases (show j = 0 ∨ j = 1 by omega) with rfl | rfl <;> rfl) (Nat.le_of_ble_eq_true rfl) (Nat.le_of_ble_eq_true rfl) dX9_init_10 (fun a1 => ?_)
  refine cw_dup C rfl dX9_init_13 ?_
  refine cw_bipush (nI 24) C dX9_init_14 (by decide) ?_
  refine cw_call (n := 1) (f := 1) (mc := 1) (ms := 24) (As := [.int (nI 24)]) (w0 := [(a1, .inr (6, [.null, .int 0]))]) (wr := [(q, .inr (8, [.int (nI 0), .int 0, .long 0, .int 0, .null]))]) (w1 := fun u => [(a1, .inr (6, [.ref (u 0), .int (nI 0)])), ((u 0), .inl (dA 0, 24, .inl (fun _ => 0)))]) [1] [0] C vAO hV vAO_mv (ct_X7 l dC dI dA a1 24 (by decide)) rfl rfl (by decide) (by decide) (by decide) ml_X9_17 ini_X7 im_X7 cd_X7 rfl (by decide +kernel) rfl (by decide) (Nat.le_of_ble_eq_true rfl) (Nat.le_of_ble_eq_true rfl) (Nat.le_of_ble_eq_true rfl) (Nat.le_of_ble_eq_true rfl) (Nat.le_of_ble_eq_true rfl) dX9_init_16 rfl (fun u2 => ?_)
  refine cw_putF (ws' := [(q, .inr (8, [.int (nI 0), .int 0, .long 0, .int 0, .ref a1])), (a1, .inr (6, [.ref (u2 0), .int (nI 0)])), ((u2 0), .inl (dA 0, 24, .inl (fun _ => 0)))]) 0 C hin ff_X9_20 rfl rfl rfl (Nat.le_of_ble_eq_true rfl) rfl dX9_init_19 ?_
  exact cw_ret (fun i => ([a1, (u2 0)] : List Nat).getD i 0) C hr hlk rfl rfl rfl dX9_init_22
end CTORS
