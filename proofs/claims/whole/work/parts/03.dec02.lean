theorem dX4_moveToSpare_1 : decode cX4_moveToSpare 1 = .ok (.istore_n 3, 1) := by decide +kernel
theorem dX4_moveToSpare_2 : decode cX4_moveToSpare 2 = .ok (.iload_n 3, 1) := by decide +kernel
theorem dX4_moveToSpare_3 : decode cX4_moveToSpare 3 = .ok (.aload_n 0, 1) := by decide +kernel
theorem dX4_moveToSpare_4 : decode cX4_moveToSpare 4 = .ok (.getfield 30, 3) := by decide +kernel
theorem dX4_moveToSpare_7 : decode cX4_moveToSpare 7 = .ok (.getfield 64, 3) := by decide +kernel
theorem dX4_moveToSpare_10 : decode cX4_moveToSpare 10 = .ok (.if_icmp .ge 43, 3) := by decide +kernel
theorem dX4_moveToSpare_13 : decode cX4_moveToSpare 13 = .ok (.aload_n 0, 1) := by decide +kernel
theorem dX4_moveToSpare_14 : decode cX4_moveToSpare 14 = .ok (.getfield 30, 3) := by decide +kernel
theorem dX4_moveToSpare_17 : decode cX4_moveToSpare 17 = .ok (.getfield 71, 3) := by decide +kernel
theorem dX4_moveToSpare_20 : decode cX4_moveToSpare 20 = .ok (.iload_n 3, 1) := by decide +kernel
theorem dX4_moveToSpare_21 : decode cX4_moveToSpare 21 = .ok (.iaload, 1) := by decide +kernel
theorem dX4_moveToSpare_22 : decode cX4_moveToSpare 22 = .ok (.iload_n 1, 1) := by decide +kernel
theorem dX4_moveToSpare_23 : decode cX4_moveToSpare 23 = .ok (.invokestatic 74, 3) := by decide +kernel
theorem dX4_moveToSpare_26 : decode cX4_moveToSpare 26 = .ok (.iload_n 2, 1) := by decide +kernel
theorem dX4_moveToSpare_27 : decode cX4_moveToSpare 27 = .ok (.if_icmp .ne 20, 3) := by decide +kernel
theorem dX4_moveToSpare_30 : decode cX4_moveToSpare 30 = .ok (.aload_n 0, 1) := by decide +kernel
theorem dX4_moveToSpare_31 : decode cX4_moveToSpare 31 = .ok (.getfield 34, 3) := by decide +kernel
theorem dX4_moveToSpare_34 : decode cX4_moveToSpare 34 = .ok (.aload_n 0, 1) := by decide +kernel
theorem dX4_moveToSpare_35 : decode cX4_moveToSpare 35 = .ok (.getfield 30, 3) := by decide +kernel
theorem dX4_moveToSpare_38 : decode cX4_moveToSpare 38 = .ok (.getfield 71, 3) := by decide +kernel
theorem dX4_moveToSpare_41 : decode cX4_moveToSpare 41 = .ok (.iload_n 3, 1) := by decide +kernel
theorem dX4_moveToSpare_42 : decode cX4_moveToSpare 42 = .ok (.iaload, 1) := by decide +kernel
theorem dX4_moveToSpare_43 : decode cX4_moveToSpare 43 = .ok (.invokevirtual 80, 3) := by decide +kernel
theorem dX4_moveToSpare_46 : decode cX4_moveToSpare 46 = .ok (.pop, 1) := by decide +kernel
theorem dX4_moveToSpare_47 : decode cX4_moveToSpare 47 = .ok (.iinc 3 1, 3) := by decide +kernel
theorem dX4_moveToSpare_50 : decode cX4_moveToSpare 50 = .ok (.goto (-48), 3) := by decide +kernel
theorem dX4_moveToSpare_53 : decode cX4_moveToSpare 53 = .ok (.return_, 1) := by decide +kernel
theorem dX4_colonUnits_0 : decode cX4_colonUnits 0 = .ok (.iconst 0, 1) := by decide +kernel
theorem dX4_colonUnits_1 : decode cX4_colonUnits 1 = .ok (.istore_n 2, 1) := by decide +kernel
theorem dX4_colonUnits_2 : decode cX4_colonUnits 2 = .ok (.aload_n 0, 1) := by decide +kernel
theorem dX4_colonUnits_3 : decode cX4_colonUnits 3 = .ok (.getfield 30, 3) := by decide +kernel
theorem dX4_colonUnits_6 : decode cX4_colonUnits 6 = .ok (.getfield 71, 3) := by decide +kernel
theorem dX4_colonUnits_9 : decode cX4_colonUnits 9 = .ok (.iload_n 1, 1) := by decide +kernel
theorem dX4_colonUnits_10 : decode cX4_colonUnits 10 = .ok (.iaload, 1) := by decide +kernel
theorem dX4_colonUnits_11 : decode cX4_colonUnits 11 = .ok (.istore_n 3, 1) := by decide +kernel
theorem dX4_colonUnits_12 : decode cX4_colonUnits 12 = .ok (.iconst 0, 1) := by decide +kernel
theorem dX4_colonUnits_13 : decode cX4_colonUnits 13 = .ok (.istore 4, 2) := by decide +kernel
theorem dX4_colonUnits_15 : decode cX4_colonUnits 15 = .ok (.iload 4, 2) := by decide +kernel
theorem dX4_colonUnits_17 : decode cX4_colonUnits 17 = .ok (.aload_n 0, 1) := by decide +kernel
theorem dX4_colonUnits_18 : decode cX4_colonUnits 18 = .ok (.getfield 9, 3) := by decide +kernel
theorem dX4_colonUnits_21 : decode cX4_colonUnits 21 = .ok (.getfield 59, 3) := by decide +kernel
theorem dX4_colonUnits_24 : decode cX4_colonUnits 24 = .ok (.if_icmp .ge 46, 3) := by decide +kernel
theorem dX4_colonUnits_27 : decode cX4_colonUnits 27 = .ok (.aload_n 0, 1) := by decide +kernel
theorem dX4_colonUnits_28 : decode cX4_colonUnits 28 = .ok (.getfield 19, 3) := by decide +kernel
theorem dX4_colonUnits_31 : decode cX4_colonUnits 31 = .ok (.iload 4, 2) := by decide +kernel
theorem dX4_colonUnits_33 : decode cX4_colonUnits 33 = .ok (.iaload, 1) := by decide +kernel
theorem dX4_colonUnits_34 : decode cX4_colonUnits 34 = .ok (.istore 5, 2) := by decide +kernel
theorem dX4_colonUnits_36 : decode cX4_colonUnits 36 = .ok (.iload_n 3, 1) := by decide +kernel
theorem dX4_colonUnits_37 : decode cX4_colonUnits 37 = .ok (.iload 5, 2) := by decide +kernel
theorem dX4_colonUnits_39 : decode cX4_colonUnits 39 = .ok (.invokestatic 74, 3) := by decide +kernel
theorem dX4_colonUnits_42 : decode cX4_colonUnits 42 = .ok (.iconst 3, 1) := by decide +kernel
theorem dX4_colonUnits_43 : decode cX4_colonUnits 43 = .ok (.if_icmp .ge 21, 3) := by decide +kernel
theorem dX4_colonUnits_46 : decode cX4_colonUnits 46 = .ok (.aload_n 0, 1) := by decide +kernel
theorem dX4_colonUnits_47 : decode cX4_colonUnits 47 = .ok (.iload_n 3, 1) := by decide +kernel
theorem dX4_colonUnits_48 : decode cX4_colonUnits 48 = .ok (.iload 4, 2) := by decide +kernel
theorem dX4_colonUnits_50 : decode cX4_colonUnits 50 = .ok (.invokevirtual 83, 3) := by decide +kernel
theorem dX4_colonUnits_53 : decode cX4_colonUnits 53 = .ok (.ifCond .eq 11, 3) := by decide +kernel
theorem dX4_colonUnits_56 : decode cX4_colonUnits 56 = .ok (.iload_n 2, 1) := by decide +kernel
theorem dX4_colonUnits_57 : decode cX4_colonUnits 57 = .ok (.iload 5, 2) := by decide +kernel
theorem dX4_colonUnits_59 : decode cX4_colonUnits 59 = .ok (.invokestatic 87, 3) := by decide +kernel
theorem dX4_colonUnits_62 : decode cX4_colonUnits 62 = .ok (.ior, 1) := by decide +kernel
theorem dX4_colonUnits_63 : decode cX4_colonUnits 63 = .ok (.istore_n 2, 1) := by decide +kernel
theorem dX4_colonUnits_64 : decode cX4_colonUnits 64 = .ok (.iinc 4 1, 3) := by decide +kernel
theorem dX4_colonUnits_67 : decode cX4_colonUnits 67 = .ok (.goto (-52), 3) := by decide +kernel
theorem dX4_colonUnits_70 : decode cX4_colonUnits 70 = .ok (.iload_n 2, 1) := by decide +kernel
theorem dX4_colonUnits_71 : decode cX4_colonUnits 71 = .ok (.ireturn, 1) := by decide +kernel
theorem dX4_hasExchange_0 : decode cX4_hasExchange 0 = .ok (.iload_n 1, 1) := by decide +kernel
theorem dX4_hasExchange_1 : decode cX4_hasExchange 1 = .ok (.aload_n 0, 1) := by decide +kernel
theorem dX4_hasExchange_2 : decode cX4_hasExchange 2 = .ok (.getfield 19, 3) := by decide +kernel
theorem dX4_hasExchange_5 : decode cX4_hasExchange 5 = .ok (.iload_n 2, 1) := by decide +kernel
theorem dX4_hasExchange_6 : decode cX4_hasExchange 6 = .ok (.iaload, 1) := by decide +kernel
theorem dX4_hasExchange_7 : decode cX4_hasExchange 7 = .ok (.invokestatic 87, 3) := by decide +kernel
theorem dX4_hasExchange_10 : decode cX4_hasExchange 10 = .ok (.iadd, 1) := by decide +kernel
theorem dX4_hasExchange_11 : decode cX4_hasExchange 11 = .ok (.istore_n 3, 1) := by decide +kernel
theorem dX4_hasExchange_12 : decode cX4_hasExchange 12 = .ok (.iload_n 2, 1) := by decide +kernel
theorem dX4_hasExchange_13 : decode cX4_hasExchange 13 = .ok (.iconst 1, 1) := by decide +kernel
theorem dX4_hasExchange_14 : decode cX4_hasExchange 14 = .ok (.iadd, 1) := by decide +kernel
theorem dX4_hasExchange_15 : decode cX4_hasExchange 15 = .ok (.istore 4, 2) := by decide +kernel
theorem dX4_hasExchange_17 : decode cX4_hasExchange 17 = .ok (.iload 4, 2) := by decide +kernel
theorem dX4_hasExchange_19 : decode cX4_hasExchange 19 = .ok (.aload_n 0, 1) := by decide +kernel
theorem dX4_hasExchange_20 : decode cX4_hasExchange 20 = .ok (.getfield 9, 3) := by decide +kernel
theorem dX4_hasExchange_23 : decode cX4_hasExchange 23 = .ok (.getfield 59, 3) := by decide +kernel
theorem dX4_hasExchange_26 : decode cX4_hasExchange 26 = .ok (.if_icmp .ge 50, 3) := by decide +kernel
theorem dX4_hasExchange_29 : decode cX4_hasExchange 29 = .ok (.aload_n 0, 1) := by decide +kernel
theorem dX4_hasExchange_30 : decode cX4_hasExchange 30 = .ok (.getfield 19, 3) := by decide +kernel
theorem dX4_hasExchange_33 : decode cX4_hasExchange 33 = .ok (.iload 4, 2) := by decide +kernel
theorem dX4_hasExchange_35 : decode cX4_hasExchange 35 = .ok (.iaload, 1) := by decide +kernel
theorem dX4_hasExchange_36 : decode cX4_hasExchange 36 = .ok (.istore 5, 2) := by decide +kernel
theorem dX4_hasExchange_38 : decode cX4_hasExchange 38 = .ok (.iload_n 1, 1) := by decide +kernel
theorem dX4_hasExchange_39 : decode cX4_hasExchange 39 = .ok (.iload 5, 2) := by decide +kernel
theorem dX4_hasExchange_41 : decode cX4_hasExchange 41 = .ok (.invokestatic 74, 3) := by decide +kernel
theorem dX4_hasExchange_44 : decode cX4_hasExchange 44 = .ok (.ifCond .le 26, 3) := by decide +kernel
theorem dX4_hasExchange_47 : decode cX4_hasExchange 47 = .ok (.aload_n 0, 1) := by decide +kernel
theorem dX4_hasExchange_48 : decode cX4_hasExchange 48 = .ok (.getfield 15, 3) := by decide +kernel
theorem dX4_hasExchange_51 : decode cX4_hasExchange 51 = .ok (.iload_n 3, 1) := by decide +kernel
theorem dX4_hasExchange_52 : decode cX4_hasExchange 52 = .ok (.iload 5, 2) := by decide +kernel
theorem dX4_hasExchange_54 : decode cX4_hasExchange 54 = .ok (.invokestatic 87, 3) := by decide +kernel
theorem dX4_hasExchange_57 : decode cX4_hasExchange 57 = .ok (.isub, 1) := by decide +kernel
theorem dX4_hasExchange_58 : decode cX4_hasExchange 58 = .ok (.aload_n 0, 1) := by decide +kernel
theorem dX4_hasExchange_59 : decode cX4_hasExchange 59 = .ok (.getfield 37, 3) := by decide +kernel
theorem dX4_hasExchange_62 : decode cX4_hasExchange 62 = .ok (.invokevirtual 91, 3) := by decide +kernel
theorem dX4_hasExchange_65 : decode cX4_hasExchange 65 = .ok (.ifCond .eq 5, 3) := by decide +kernel
theorem dX4_hasExchange_68 : decode cX4_hasExchange 68 = .ok (.iconst 1, 1) := by decide +kernel
theorem dX4_hasExchange_69 : decode cX4_hasExchange 69 = .ok (.ireturn, 1) := by decide +kernel
theorem dX4_hasExchange_70 : decode cX4_hasExchange 70 = .ok (.iinc 4 1, 3) := by decide +kernel
theorem dX4_hasExchange_73 : decode cX4_hasExchange 73 = .ok (.goto (-56), 3) := by decide +kernel
theorem dX4_hasExchange_76 : decode cX4_hasExchange 76 = .ok (.iconst 0, 1) := by decide +kernel
theorem dX4_hasExchange_77 : decode cX4_hasExchange 77 = .ok (.ireturn, 1) := by decide +kernel
theorem dX4_isLinearAt_0 : decode cX4_isLinearAt 0 = .ok (.aload_n 0, 1) := by decide +kernel
theorem dX4_isLinearAt_1 : decode cX4_isLinearAt 1 = .ok (.getfield 30, 3) := by decide +kernel
theorem dX4_isLinearAt_4 : decode cX4_isLinearAt 4 = .ok (.getfield 71, 3) := by decide +kernel
theorem dX4_isLinearAt_7 : decode cX4_isLinearAt 7 = .ok (.iload_n 1, 1) := by decide +kernel
theorem dX4_isLinearAt_8 : decode cX4_isLinearAt 8 = .ok (.iaload, 1) := by decide +kernel
theorem dX4_isLinearAt_9 : decode cX4_isLinearAt 9 = .ok (.istore_n 2, 1) := by decide +kernel
theorem dX4_isLinearAt_10 : decode cX4_isLinearAt 10 = .ok (.aload_n 0, 1) := by decide +kernel
theorem dX4_isLinearAt_11 : decode cX4_isLinearAt 11 = .ok (.iload_n 1, 1) := by decide +kernel
theorem dX4_isLinearAt_12 : decode cX4_isLinearAt 12 = .ok (.invokevirtual 94, 3) := by decide +kernel
theorem dX4_isLinearAt_15 : decode cX4_isLinearAt 15 = .ok (.istore_n 3, 1) := by decide +kernel
theorem dX4_isLinearAt_16 : decode cX4_isLinearAt 16 = .ok (.iconst 0, 1) := by decide +kernel
theorem dX4_isLinearAt_17 : decode cX4_isLinearAt 17 = .ok (.istore 4, 2) := by decide +kernel
theorem dX4_isLinearAt_19 : decode cX4_isLinearAt 19 = .ok (.iload 4, 2) := by decide +kernel
theorem dX4_isLinearAt_21 : decode cX4_isLinearAt 21 = .ok (.iload_n 1, 1) := by decide +kernel
theorem dX4_isLinearAt_22 : decode cX4_isLinearAt 22 = .ok (.if_icmp .ge 30, 3) := by decide +kernel
theorem dX4_isLinearAt_25 : decode cX4_isLinearAt 25 = .ok (.aload_n 0, 1) := by decide +kernel
theorem dX4_isLinearAt_26 : decode cX4_isLinearAt 26 = .ok (.getfield 30, 3) := by decide +kernel
theorem dX4_isLinearAt_29 : decode cX4_isLinearAt 29 = .ok (.getfield 71, 3) := by decide +kernel
theorem dX4_isLinearAt_32 : decode cX4_isLinearAt 32 = .ok (.iload 4, 2) := by decide +kernel
theorem dX4_isLinearAt_34 : decode cX4_isLinearAt 34 = .ok (.iaload, 1) := by decide +kernel
theorem dX4_isLinearAt_35 : decode cX4_isLinearAt 35 = .ok (.iload_n 2, 1) := by decide +kernel
theorem dX4_isLinearAt_36 : decode cX4_isLinearAt 36 = .ok (.invokestatic 97, 3) := by decide +kernel
theorem dX4_isLinearAt_39 : decode cX4_isLinearAt 39 = .ok (.iload_n 3, 1) := by decide +kernel
theorem dX4_isLinearAt_40 : decode cX4_isLinearAt 40 = .ok (.iand, 1) := by decide +kernel
theorem dX4_isLinearAt_41 : decode cX4_isLinearAt 41 = .ok (.ifCond .ne 5, 3) := by decide +kernel
theorem dX4_isLinearAt_44 : decode cX4_isLinearAt 44 = .ok (.iconst 0, 1) := by decide +kernel
theorem dX4_isLinearAt_45 : decode cX4_isLinearAt 45 = .ok (.ireturn, 1) := by decide +kernel
theorem dX4_isLinearAt_46 : decode cX4_isLinearAt 46 = .ok (.iinc 4 1, 3) := by decide +kernel
theorem dX4_isLinearAt_49 : decode cX4_isLinearAt 49 = .ok (.goto (-30), 3) := by decide +kernel
theorem dX4_isLinearAt_52 : decode cX4_isLinearAt 52 = .ok (.iconst 1, 1) := by decide +kernel
theorem dX4_isLinearAt_53 : decode cX4_isLinearAt 53 = .ok (.ireturn, 1) := by decide +kernel
theorem dX4_firstNonLinear_0 : decode cX4_firstNonLinear 0 = .ok (.iconst 0, 1) := by decide +kernel
theorem dX4_firstNonLinear_1 : decode cX4_firstNonLinear 1 = .ok (.istore_n 1, 1) := by decide +kernel
theorem dX4_firstNonLinear_2 : decode cX4_firstNonLinear 2 = .ok (.iload_n 1, 1) := by decide +kernel
theorem dX4_firstNonLinear_3 : decode cX4_firstNonLinear 3 = .ok (.aload_n 0, 1) := by decide +kernel
theorem dX4_firstNonLinear_4 : decode cX4_firstNonLinear 4 = .ok (.getfield 30, 3) := by decide +kernel
theorem dX4_firstNonLinear_7 : decode cX4_firstNonLinear 7 = .ok (.getfield 64, 3) := by decide +kernel
theorem dX4_firstNonLinear_10 : decode cX4_firstNonLinear 10 = .ok (.if_icmp .ge 19, 3) := by decide +kernel
theorem dX4_firstNonLinear_13 : decode cX4_firstNonLinear 13 = .ok (.aload_n 0, 1) := by decide +kernel
theorem dX4_firstNonLinear_14 : decode cX4_firstNonLinear 14 = .ok (.iload_n 1, 1) := by decide +kernel
theorem dX4_firstNonLinear_15 : decode cX4_firstNonLinear 15 = .ok (.invokevirtual 100, 3) := by decide +kernel
theorem dX4_firstNonLinear_18 : decode cX4_firstNonLinear 18 = .ok (.ifCond .ne 5, 3) := by decide +kernel
theorem dX4_firstNonLinear_21 : decode cX4_firstNonLinear 21 = .ok (.iload_n 1, 1) := by decide +kernel
theorem dX4_firstNonLinear_22 : decode cX4_firstNonLinear 22 = .ok (.ireturn, 1) := by decide +kernel
theorem dX4_firstNonLinear_23 : decode cX4_firstNonLinear 23 = .ok (.iinc 1 1, 3) := by decide +kernel
theorem dX4_firstNonLinear_26 : decode cX4_firstNonLinear 26 = .ok (.goto (-24), 3) := by decide +kernel
theorem dX4_firstNonLinear_29 : decode cX4_firstNonLinear 29 = .ok (.bipush (-2), 2) := by decide +kernel
theorem dX4_firstNonLinear_31 : decode cX4_firstNonLinear 31 = .ok (.ireturn, 1) := by decide +kernel
theorem dX4_bettiSum_0 : decode cX4_bettiSum 0 = .ok (.lconst 0, 1) := by decide +kernel
theorem dX4_bettiSum_1 : decode cX4_bettiSum 1 = .ok (.lstore_n 2, 1) := by decide +kernel
theorem dX4_bettiSum_2 : decode cX4_bettiSum 2 = .ok (.iconst 0, 1) := by decide +kernel
theorem dX4_bettiSum_3 : decode cX4_bettiSum 3 = .ok (.istore 4, 2) := by decide +kernel
theorem dX4_bettiSum_5 : decode cX4_bettiSum 5 = .ok (.iload 4, 2) := by decide +kernel
theorem dX4_bettiSum_7 : decode cX4_bettiSum 7 = .ok (.aload_n 0, 1) := by decide +kernel
theorem dX4_bettiSum_8 : decode cX4_bettiSum 8 = .ok (.getfield 30, 3) := by decide +kernel
theorem dX4_bettiSum_11 : decode cX4_bettiSum 11 = .ok (.getfield 64, 3) := by decide +kernel
theorem dX4_bettiSum_14 : decode cX4_bettiSum 14 = .ok (.if_icmp .ge 26, 3) := by decide +kernel
theorem dX4_bettiSum_17 : decode cX4_bettiSum 17 = .ok (.lload_n 2, 1) := by decide +kernel
theorem dX4_bettiSum_18 : decode cX4_bettiSum 18 = .ok (.aload_n 0, 1) := by decide +kernel
theorem dX4_bettiSum_19 : decode cX4_bettiSum 19 = .ok (.iload 4, 2) := by decide +kernel
theorem dX4_bettiSum_21 : decode cX4_bettiSum 21 = .ok (.invokevirtual 94, 3) := by decide +kernel
theorem dX4_bettiSum_24 : decode cX4_bettiSum 24 = .ok (.invokestatic 103, 3) := by decide +kernel
theorem dX4_bettiSum_27 : decode cX4_bettiSum 27 = .ok (.iload_n 1, 1) := by decide +kernel
theorem dX4_bettiSum_28 : decode cX4_bettiSum 28 = .ok (.invokestatic 108, 3) := by decide +kernel
theorem dX4_bettiSum_31 : decode cX4_bettiSum 31 = .ok (.i2l, 1) := by decide +kernel
theorem dX4_bettiSum_32 : decode cX4_bettiSum 32 = .ok (.ladd, 1) := by decide +kernel
theorem dX4_bettiSum_33 : decode cX4_bettiSum 33 = .ok (.lstore_n 2, 1) := by decide +kernel
theorem dX4_bettiSum_34 : decode cX4_bettiSum 34 = .ok (.iinc 4 1, 3) := by decide +kernel
theorem dX4_bettiSum_37 : decode cX4_bettiSum 37 = .ok (.goto (-32), 3) := by decide +kernel
theorem dX4_bettiSum_40 : decode cX4_bettiSum 40 = .ok (.lload_n 2, 1) := by decide +kernel
theorem dX4_bettiSum_41 : decode cX4_bettiSum 41 = .ok (.lreturn, 1) := by decide +kernel
theorem dX4_binomial_0 : decode cX4_binomial 0 = .ok (.iconst 1, 1) := by decide +kernel
theorem dX4_binomial_1 : decode cX4_binomial 1 = .ok (.istore_n 2, 1) := by decide +kernel
theorem dX4_binomial_2 : decode cX4_binomial 2 = .ok (.iconst 1, 1) := by decide +kernel
theorem dX4_binomial_3 : decode cX4_binomial 3 = .ok (.istore_n 3, 1) := by decide +kernel
theorem dX4_binomial_4 : decode cX4_binomial 4 = .ok (.iload_n 3, 1) := by decide +kernel
theorem dX4_binomial_5 : decode cX4_binomial 5 = .ok (.iload_n 1, 1) := by decide +kernel
theorem dX4_binomial_6 : decode cX4_binomial 6 = .ok (.if_icmp .gt 19, 3) := by decide +kernel
theorem dX4_binomial_9 : decode cX4_binomial 9 = .ok (.iload_n 2, 1) := by decide +kernel
theorem dX4_binomial_10 : decode cX4_binomial 10 = .ok (.iload_n 0, 1) := by decide +kernel
theorem dX4_binomial_11 : decode cX4_binomial 11 = .ok (.iload_n 3, 1) := by decide +kernel
theorem dX4_binomial_12 : decode cX4_binomial 12 = .ok (.isub, 1) := by decide +kernel
theorem dX4_binomial_13 : decode cX4_binomial 13 = .ok (.iconst 1, 1) := by decide +kernel
theorem dX4_binomial_14 : decode cX4_binomial 14 = .ok (.iadd, 1) := by decide +kernel
theorem dX4_binomial_15 : decode cX4_binomial 15 = .ok (.imul, 1) := by decide +kernel
theorem dX4_binomial_16 : decode cX4_binomial 16 = .ok (.iload_n 3, 1) := by decide +kernel
theorem dX4_binomial_17 : decode cX4_binomial 17 = .ok (.idiv, 1) := by decide +kernel
theorem dX4_binomial_18 : decode cX4_binomial 18 = .ok (.istore_n 2, 1) := by decide +kernel
theorem dX4_binomial_19 : decode cX4_binomial 19 = .ok (.iinc 3 1, 3) := by decide +kernel
theorem dX4_binomial_22 : decode cX4_binomial 22 = .ok (.goto (-18), 3) := by decide +kernel
theorem dX4_binomial_25 : decode cX4_binomial 25 = .ok (.iload_n 2, 1) := by decide +kernel
theorem dX4_binomial_26 : decode cX4_binomial 26 = .ok (.ireturn, 1) := by decide +kernel
theorem dX5_init_0 : decode cX5_init 0 = .ok (.aload_n 0, 1) := by decide +kernel
theorem dX5_init_1 : decode cX5_init 1 = .ok (.invokespecial 3, 3) := by decide +kernel
theorem dX5_init_4 : decode cX5_init 4 = .ok (.aload_n 0, 1) := by decide +kernel
theorem dX5_init_5 : decode cX5_init 5 = .ok (.new 9, 3) := by decide +kernel
theorem dX5_init_8 : decode cX5_init 8 = .ok (.dup, 1) := by decide +kernel
theorem dX5_init_9 : decode cX5_init 9 = .ok (.bipush 24, 2) := by decide +kernel
theorem dX5_init_11 : decode cX5_init 11 = .ok (.invokespecial 11, 3) := by decide +kernel
theorem dX5_init_14 : decode cX5_init 14 = .ok (.putfield 14, 3) := by decide +kernel
theorem dX5_init_17 : decode cX5_init 17 = .ok (.aload_n 0, 1) := by decide +kernel
theorem dX5_init_18 : decode cX5_init 18 = .ok (.new 9, 3) := by decide +kernel
theorem dX5_init_21 : decode cX5_init 21 = .ok (.dup, 1) := by decide +kernel
theorem dX5_init_22 : decode cX5_init 22 = .ok (.bipush 24, 2) := by decide +kernel
theorem dX5_init_24 : decode cX5_init 24 = .ok (.invokespecial 11, 3) := by decide +kernel
theorem dX5_init_27 : decode cX5_init 27 = .ok (.putfield 20, 3) := by decide +kernel
theorem dX5_init_30 : decode cX5_init 30 = .ok (.aload_n 0, 1) := by decide +kernel
theorem dX5_init_31 : decode cX5_init 31 = .ok (.new 9, 3) := by decide +kernel
theorem dX5_init_34 : decode cX5_init 34 = .ok (.dup, 1) := by decide +kernel
theorem dX5_init_35 : decode cX5_init 35 = .ok (.sipush 359, 3) := by decide +kernel
theorem dX5_init_38 : decode cX5_init 38 = .ok (.invokespecial 11, 3) := by decide +kernel
theorem dX5_init_41 : decode cX5_init 41 = .ok (.putfield 23, 3) := by decide +kernel
theorem dX5_init_44 : decode cX5_init 44 = .ok (.return_, 1) := by decide +kernel
theorem dX5_minimize_0 : decode cX5_minimize 0 = .ok (.aload_n 0, 1) := by decide +kernel
theorem dX5_minimize_1 : decode cX5_minimize 1 = .ok (.getfield 20, 3) := by decide +kernel
theorem dX5_minimize_4 : decode cX5_minimize 4 = .ok (.iconst 0, 1) := by decide +kernel
theorem dX5_minimize_5 : decode cX5_minimize 5 = .ok (.putfield 26, 3) := by decide +kernel
theorem dX5_minimize_8 : decode cX5_minimize 8 = .ok (.iconst 0, 1) := by decide +kernel
theorem dX5_minimize_9 : decode cX5_minimize 9 = .ok (.istore_n 1, 1) := by decide +kernel
theorem dX5_minimize_10 : decode cX5_minimize 10 = .ok (.iload_n 1, 1) := by decide +kernel
theorem dX5_minimize_11 : decode cX5_minimize 11 = .ok (.aload_n 0, 1) := by decide +kernel
theorem dX5_minimize_12 : decode cX5_minimize 12 = .ok (.getfield 14, 3) := by decide +kernel
theorem dX5_minimize_15 : decode cX5_minimize 15 = .ok (.getfield 26, 3) := by decide +kernel
theorem dX5_minimize_18 : decode cX5_minimize 18 = .ok (.if_icmp .ge 34, 3) := by decide +kernel
theorem dX5_minimize_21 : decode cX5_minimize 21 = .ok (.aload_n 0, 1) := by decide +kernel
theorem dX5_minimize_22 : decode cX5_minimize 22 = .ok (.iload_n 1, 1) := by decide +kernel
theorem dX5_minimize_23 : decode cX5_minimize 23 = .ok (.invokevirtual 30, 3) := by decide +kernel
theorem dX5_minimize_26 : decode cX5_minimize 26 = .ok (.ifCond .ne 20, 3) := by decide +kernel
theorem dX5_minimize_29 : decode cX5_minimize 29 = .ok (.aload_n 0, 1) := by decide +kernel
theorem dX5_minimize_30 : decode cX5_minimize 30 = .ok (.getfield 20, 3) := by decide +kernel
theorem dX5_minimize_33 : decode cX5_minimize 33 = .ok (.aload_n 0, 1) := by decide +kernel
theorem dX5_minimize_34 : decode cX5_minimize 34 = .ok (.getfield 14, 3) := by decide +kernel
theorem dX5_minimize_37 : decode cX5_minimize 37 = .ok (.getfield 34, 3) := by decide +kernel
theorem dX5_minimize_40 : decode cX5_minimize 40 = .ok (.iload_n 1, 1) := by decide +kernel
theorem dX5_minimize_41 : decode cX5_minimize 41 = .ok (.iaload, 1) := by decide +kernel
theorem dX5_minimize_42 : decode cX5_minimize 42 = .ok (.invokevirtual 38, 3) := by decide +kernel
theorem dX5_minimize_45 : decode cX5_minimize 45 = .ok (.pop, 1) := by decide +kernel
theorem dX5_minimize_46 : decode cX5_minimize 46 = .ok (.iinc 1 1, 3) := by decide +kernel
theorem dX5_minimize_49 : decode cX5_minimize 49 = .ok (.goto (-39), 3) := by decide +kernel
theorem dX5_minimize_52 : decode cX5_minimize 52 = .ok (.aload_n 0, 1) := by decide +kernel
theorem dX5_minimize_53 : decode cX5_minimize 53 = .ok (.getfield 14, 3) := by decide +kernel
theorem dX5_minimize_56 : decode cX5_minimize 56 = .ok (.aload_n 0, 1) := by decide +kernel
theorem dX5_minimize_57 : decode cX5_minimize 57 = .ok (.getfield 20, 3) := by decide +kernel
theorem dX5_minimize_60 : decode cX5_minimize 60 = .ok (.invokevirtual 41, 3) := by decide +kernel
theorem dX5_minimize_63 : decode cX5_minimize 63 = .ok (.return_, 1) := by decide +kernel
theorem dX5_isSuperfluous_0 : decode cX5_isSuperfluous 0 = .ok (.iconst 0, 1) := by decide +kernel
theorem dX5_isSuperfluous_1 : decode cX5_isSuperfluous 1 = .ok (.istore_n 2, 1) := by decide +kernel
theorem dX5_isSuperfluous_2 : decode cX5_isSuperfluous 2 = .ok (.iload_n 2, 1) := by decide +kernel
theorem dX5_isSuperfluous_3 : decode cX5_isSuperfluous 3 = .ok (.aload_n 0, 1) := by decide +kernel
theorem dX5_isSuperfluous_4 : decode cX5_isSuperfluous 4 = .ok (.getfield 14, 3) := by decide +kernel
theorem dX5_isSuperfluous_7 : decode cX5_isSuperfluous 7 = .ok (.getfield 26, 3) := by decide +kernel
theorem dX5_isSuperfluous_10 : decode cX5_isSuperfluous 10 = .ok (.if_icmp .ge 71, 3) := by decide +kernel
theorem dX5_isSuperfluous_13 : decode cX5_isSuperfluous 13 = .ok (.aload_n 0, 1) := by decide +kernel
theorem dX5_isSuperfluous_14 : decode cX5_isSuperfluous 14 = .ok (.getfield 14, 3) := by decide +kernel
theorem dX5_isSuperfluous_17 : decode cX5_isSuperfluous 17 = .ok (.getfield 34, 3) := by decide +kernel
theorem dX5_isSuperfluous_20 : decode cX5_isSuperfluous 20 = .ok (.iload_n 2, 1) := by decide +kernel
theorem dX5_isSuperfluous_21 : decode cX5_isSuperfluous 21 = .ok (.iaload, 1) := by decide +kernel
theorem dX5_isSuperfluous_22 : decode cX5_isSuperfluous 22 = .ok (.aload_n 0, 1) := by decide +kernel
theorem dX5_isSuperfluous_23 : decode cX5_isSuperfluous 23 = .ok (.getfield 14, 3) := by decide +kernel
theorem dX5_isSuperfluous_26 : decode cX5_isSuperfluous 26 = .ok (.getfield 34, 3) := by decide +kernel
theorem dX5_isSuperfluous_29 : decode cX5_isSuperfluous 29 = .ok (.iload_n 1, 1) := by decide +kernel
theorem dX5_isSuperfluous_30 : decode cX5_isSuperfluous 30 = .ok (.iaload, 1) := by decide +kernel
theorem dX5_isSuperfluous_31 : decode cX5_isSuperfluous 31 = .ok (.if_icmp .ne 8, 3) := by decide +kernel
theorem dX5_isSuperfluous_34 : decode cX5_isSuperfluous 34 = .ok (.iload_n 2, 1) := by decide +kernel
theorem dX5_isSuperfluous_35 : decode cX5_isSuperfluous 35 = .ok (.iload_n 1, 1) := by decide +kernel
theorem dX5_isSuperfluous_36 : decode cX5_isSuperfluous 36 = .ok (.if_icmp .ge 7, 3) := by decide +kernel
theorem dX5_isSuperfluous_39 : decode cX5_isSuperfluous 39 = .ok (.iconst 1, 1) := by decide +kernel
theorem dX5_isSuperfluous_40 : decode cX5_isSuperfluous 40 = .ok (.goto 4, 3) := by decide +kernel
theorem dX5_isSuperfluous_43 : decode cX5_isSuperfluous 43 = .ok (.iconst 0, 1) := by decide +kernel
theorem dX5_isSuperfluous_44 : decode cX5_isSuperfluous 44 = .ok (.istore_n 3, 1) := by decide +kernel
theorem dX5_isSuperfluous_45 : decode cX5_isSuperfluous 45 = .ok (.iload_n 3, 1) := by decide +kernel
theorem dX5_isSuperfluous_46 : decode cX5_isSuperfluous 46 = .ok (.ifCond .eq 29, 3) := by decide +kernel
theorem dX5_isSuperfluous_49 : decode cX5_isSuperfluous 49 = .ok (.aload_n 0, 1) := by decide +kernel
theorem dX5_isSuperfluous_50 : decode cX5_isSuperfluous 50 = .ok (.getfield 14, 3) := by decide +kernel
theorem dX5_isSuperfluous_53 : decode cX5_isSuperfluous 53 = .ok (.getfield 34, 3) := by decide +kernel
theorem dX5_isSuperfluous_56 : decode cX5_isSuperfluous 56 = .ok (.iload_n 2, 1) := by decide +kernel
theorem dX5_isSuperfluous_57 : decode cX5_isSuperfluous 57 = .ok (.iaload, 1) := by decide +kernel
theorem dX5_isSuperfluous_58 : decode cX5_isSuperfluous 58 = .ok (.aload_n 0, 1) := by decide +kernel
theorem dX5_isSuperfluous_59 : decode cX5_isSuperfluous 59 = .ok (.getfield 14, 3) := by decide +kernel
theorem dX5_isSuperfluous_62 : decode cX5_isSuperfluous 62 = .ok (.getfield 34, 3) := by decide +kernel
theorem dX5_isSuperfluous_65 : decode cX5_isSuperfluous 65 = .ok (.iload_n 1, 1) := by decide +kernel
theorem dX5_isSuperfluous_66 : decode cX5_isSuperfluous 66 = .ok (.iaload, 1) := by decide +kernel
theorem dX5_isSuperfluous_67 : decode cX5_isSuperfluous 67 = .ok (.invokestatic 45, 3) := by decide +kernel
theorem dX5_isSuperfluous_70 : decode cX5_isSuperfluous 70 = .ok (.ifCond .eq 5, 3) := by decide +kernel
theorem dX5_isSuperfluous_73 : decode cX5_isSuperfluous 73 = .ok (.iconst 1, 1) := by decide +kernel
theorem dX5_isSuperfluous_74 : decode cX5_isSuperfluous 74 = .ok (.ireturn, 1) := by decide +kernel
theorem dX5_isSuperfluous_75 : decode cX5_isSuperfluous 75 = .ok (.iinc 2 1, 3) := by decide +kernel
theorem dX5_isSuperfluous_78 : decode cX5_isSuperfluous 78 = .ok (.goto (-76), 3) := by decide +kernel
theorem dX5_isSuperfluous_81 : decode cX5_isSuperfluous 81 = .ok (.iconst 0, 1) := by decide +kernel
theorem dX5_isSuperfluous_82 : decode cX5_isSuperfluous 82 = .ok (.ireturn, 1) := by decide +kernel
theorem dX5_decreaseExponents_0 : decode cX5_decreaseExponents 0 = .ok (.iconst 0, 1) := by decide +kernel
theorem dX5_decreaseExponents_1 : decode cX5_decreaseExponents 1 = .ok (.istore_n 2, 1) := by decide +kernel
theorem dX5_decreaseExponents_2 : decode cX5_decreaseExponents 2 = .ok (.iload_n 2, 1) := by decide +kernel
theorem dX5_decreaseExponents_3 : decode cX5_decreaseExponents 3 = .ok (.aload_n 0, 1) := by decide +kernel
theorem dX5_decreaseExponents_4 : decode cX5_decreaseExponents 4 = .ok (.getfield 14, 3) := by decide +kernel
theorem dX5_decreaseExponents_7 : decode cX5_decreaseExponents 7 = .ok (.getfield 26, 3) := by decide +kernel
theorem dX5_decreaseExponents_10 : decode cX5_decreaseExponents 10 = .ok (.if_icmp .ge 41, 3) := by decide +kernel
theorem dX5_decreaseExponents_13 : decode cX5_decreaseExponents 13 = .ok (.aload_n 0, 1) := by decide +kernel
theorem dX5_decreaseExponents_14 : decode cX5_decreaseExponents 14 = .ok (.getfield 14, 3) := by decide +kernel
theorem dX5_decreaseExponents_17 : decode cX5_decreaseExponents 17 = .ok (.getfield 34, 3) := by decide +kernel
theorem dX5_decreaseExponents_20 : decode cX5_decreaseExponents 20 = .ok (.iload_n 2, 1) := by decide +kernel
theorem dX5_decreaseExponents_21 : decode cX5_decreaseExponents 21 = .ok (.iaload, 1) := by decide +kernel
theorem dX5_decreaseExponents_22 : decode cX5_decreaseExponents 22 = .ok (.iload_n 1, 1) := by decide +kernel
theorem dX5_decreaseExponents_23 : decode cX5_decreaseExponents 23 = .ok (.invokestatic 51, 3) := by decide +kernel
theorem dX5_decreaseExponents_26 : decode cX5_decreaseExponents 26 = .ok (.ifCond .le 19, 3) := by decide +kernel
theorem dX5_decreaseExponents_29 : decode cX5_decreaseExponents 29 = .ok (.aload_n 0, 1) := by decide +kernel
theorem dX5_decreaseExponents_30 : decode cX5_decreaseExponents 30 = .ok (.getfield 14, 3) := by decide +kernel
theorem dX5_decreaseExponents_33 : decode cX5_decreaseExponents 33 = .ok (.getfield 34, 3) := by decide +kernel
theorem dX5_decreaseExponents_36 : decode cX5_decreaseExponents 36 = .ok (.iload_n 2, 1) := by decide +kernel
theorem dX5_decreaseExponents_37 : decode cX5_decreaseExponents 37 = .ok (.dup2, 1) := by decide +kernel
theorem dX5_decreaseExponents_38 : decode cX5_decreaseExponents 38 = .ok (.iaload, 1) := by decide +kernel
theorem dX5_decreaseExponents_39 : decode cX5_decreaseExponents 39 = .ok (.iload_n 1, 1) := by decide +kernel
theorem dX5_decreaseExponents_40 : decode cX5_decreaseExponents 40 = .ok (.invokestatic 55, 3) := by decide +kernel
theorem dX5_decreaseExponents_43 : decode cX5_decreaseExponents 43 = .ok (.isub, 1) := by decide +kernel
theorem dX5_decreaseExponents_44 : decode cX5_decreaseExponents 44 = .ok (.iastore, 1) := by decide +kernel
theorem dX5_decreaseExponents_45 : decode cX5_decreaseExponents 45 = .ok (.iinc 2 1, 3) := by decide +kernel
theorem dX5_decreaseExponents_48 : decode cX5_decreaseExponents 48 = .ok (.goto (-46), 3) := by decide +kernel
theorem dX5_decreaseExponents_51 : decode cX5_decreaseExponents 51 = .ok (.return_, 1) := by decide +kernel
theorem dX5_reverse_0 : decode cX5_reverse 0 = .ok (.iconst 0, 1) := by decide +kernel
theorem dX5_reverse_1 : decode cX5_reverse 1 = .ok (.istore_n 1, 1) := by decide +kernel
theorem dX5_reverse_2 : decode cX5_reverse 2 = .ok (.iload_n 1, 1) := by decide +kernel
theorem dX5_reverse_3 : decode cX5_reverse 3 = .ok (.aload_n 0, 1) := by decide +kernel
theorem dX5_reverse_4 : decode cX5_reverse 4 = .ok (.getfield 14, 3) := by decide +kernel
theorem dX5_reverse_7 : decode cX5_reverse 7 = .ok (.getfield 26, 3) := by decide +kernel
theorem dX5_reverse_10 : decode cX5_reverse 10 = .ok (.iconst 2, 1) := by decide +kernel
theorem dX5_reverse_11 : decode cX5_reverse 11 = .ok (.idiv, 1) := by decide +kernel
theorem dX5_reverse_12 : decode cX5_reverse 12 = .ok (.if_icmp .ge 25, 3) := by decide +kernel
theorem dX5_reverse_15 : decode cX5_reverse 15 = .ok (.aload_n 0, 1) := by decide +kernel
theorem dX5_reverse_16 : decode cX5_reverse 16 = .ok (.iload_n 1, 1) := by decide +kernel
theorem dX5_reverse_17 : decode cX5_reverse 17 = .ok (.aload_n 0, 1) := by decide +kernel
theorem dX5_reverse_18 : decode cX5_reverse 18 = .ok (.getfield 14, 3) := by decide +kernel
theorem dX5_reverse_21 : decode cX5_reverse 21 = .ok (.getfield 26, 3) := by decide +kernel
theorem dX5_reverse_24 : decode cX5_reverse 24 = .ok (.iconst 1, 1) := by decide +kernel
theorem dX5_reverse_25 : decode cX5_reverse 25 = .ok (.isub, 1) := by decide +kernel
theorem dX5_reverse_26 : decode cX5_reverse 26 = .ok (.iload_n 1, 1) := by decide +kernel
theorem dX5_reverse_27 : decode cX5_reverse 27 = .ok (.isub, 1) := by decide +kernel
theorem dX5_reverse_28 : decode cX5_reverse 28 = .ok (.invokevirtual 59, 3) := by decide +kernel
theorem dX5_reverse_31 : decode cX5_reverse 31 = .ok (.iinc 1 1, 3) := by decide +kernel
theorem dX5_reverse_34 : decode cX5_reverse 34 = .ok (.goto (-32), 3) := by decide +kernel
theorem dX5_reverse_37 : decode cX5_reverse 37 = .ok (.return_, 1) := by decide +kernel
theorem dX5_swap_0 : decode cX5_swap 0 = .ok (.aload_n 0, 1) := by decide +kernel
theorem dX5_swap_1 : decode cX5_swap 1 = .ok (.getfield 14, 3) := by decide +kernel
theorem dX5_swap_4 : decode cX5_swap 4 = .ok (.getfield 34, 3) := by decide +kernel
theorem dX5_swap_7 : decode cX5_swap 7 = .ok (.iload_n 1, 1) := by decide +kernel
theorem dX5_swap_8 : decode cX5_swap 8 = .ok (.iaload, 1) := by decide +kernel
theorem dX5_swap_9 : decode cX5_swap 9 = .ok (.istore_n 3, 1) := by decide +kernel
theorem dX5_swap_10 : decode cX5_swap 10 = .ok (.aload_n 0, 1) := by decide +kernel
theorem dX5_swap_11 : decode cX5_swap 11 = .ok (.getfield 14, 3) := by decide +kernel
theorem dX5_swap_14 : decode cX5_swap 14 = .ok (.getfield 34, 3) := by decide +kernel
theorem dX5_swap_17 : decode cX5_swap 17 = .ok (.iload_n 1, 1) := by decide +kernel
theorem dX5_swap_18 : decode cX5_swap 18 = .ok (.aload_n 0, 1) := by decide +kernel
theorem dX5_swap_19 : decode cX5_swap 19 = .ok (.getfield 14, 3) := by decide +kernel
theorem dX5_swap_22 : decode cX5_swap 22 = .ok (.getfield 34, 3) := by decide +kernel
theorem dX5_swap_25 : decode cX5_swap 25 = .ok (.iload_n 2, 1) := by decide +kernel
theorem dX5_swap_26 : decode cX5_swap 26 = .ok (.iaload, 1) := by decide +kernel
theorem dX5_swap_27 : decode cX5_swap 27 = .ok (.iastore, 1) := by decide +kernel
theorem dX5_swap_28 : decode cX5_swap 28 = .ok (.aload_n 0, 1) := by decide +kernel
theorem dX5_swap_29 : decode cX5_swap 29 = .ok (.getfield 14, 3) := by decide +kernel
theorem dX5_swap_32 : decode cX5_swap 32 = .ok (.getfield 34, 3) := by decide +kernel
theorem dX5_swap_35 : decode cX5_swap 35 = .ok (.iload_n 2, 1) := by decide +kernel
theorem dX5_swap_36 : decode cX5_swap 36 = .ok (.iload_n 3, 1) := by decide +kernel
theorem dX5_swap_37 : decode cX5_swap 37 = .ok (.iastore, 1) := by decide +kernel
theorem dX5_swap_38 : decode cX5_swap 38 = .ok (.return_, 1) := by decide +kernel
theorem dX5_rotate_0 : decode cX5_rotate 0 = .ok (.aload_n 0, 1) := by decide +kernel
theorem dX5_rotate_1 : decode cX5_rotate 1 = .ok (.getfield 14, 3) := by decide +kernel
theorem dX5_rotate_4 : decode cX5_rotate 4 = .ok (.getfield 26, 3) := by decide +kernel
theorem dX5_rotate_7 : decode cX5_rotate 7 = .ok (.ifCond .ne 4, 3) := by decide +kernel
theorem dX5_rotate_10 : decode cX5_rotate 10 = .ok (.return_, 1) := by decide +kernel
theorem dX5_rotate_11 : decode cX5_rotate 11 = .ok (.aload_n 0, 1) := by decide +kernel
theorem dX5_rotate_12 : decode cX5_rotate 12 = .ok (.getfield 14, 3) := by decide +kernel
theorem dX5_rotate_15 : decode cX5_rotate 15 = .ok (.getfield 26, 3) := by decide +kernel
theorem dX5_rotate_18 : decode cX5_rotate 18 = .ok (.iload_n 1, 1) := by decide +kernel
theorem dX5_rotate_19 : decode cX5_rotate 19 = .ok (.aload_n 0, 1) := by decide +kernel
theorem dX5_rotate_20 : decode cX5_rotate 20 = .ok (.getfield 14, 3) := by decide +kernel
theorem dX5_rotate_23 : decode cX5_rotate 23 = .ok (.getfield 26, 3) := by decide +kernel
theorem dX5_rotate_26 : decode cX5_rotate 26 = .ok (.irem, 1) := by decide +kernel
theorem dX5_rotate_27 : decode cX5_rotate 27 = .ok (.isub, 1) := by decide +kernel
theorem dX5_rotate_28 : decode cX5_rotate 28 = .ok (.istore_n 2, 1) := by decide +kernel
theorem dX5_rotate_29 : decode cX5_rotate 29 = .ok (.aload_n 0, 1) := by decide +kernel
theorem dX5_rotate_30 : decode cX5_rotate 30 = .ok (.getfield 20, 3) := by decide +kernel
theorem dX5_rotate_33 : decode cX5_rotate 33 = .ok (.iconst 0, 1) := by decide +kernel
theorem dX5_rotate_34 : decode cX5_rotate 34 = .ok (.putfield 26, 3) := by decide +kernel
theorem dX5_rotate_37 : decode cX5_rotate 37 = .ok (.iconst 0, 1) := by decide +kernel
theorem dX5_rotate_38 : decode cX5_rotate 38 = .ok (.istore_n 3, 1) := by decide +kernel
theorem dX5_rotate_39 : decode cX5_rotate 39 = .ok (.iload_n 3, 1) := by decide +kernel
theorem dX5_rotate_40 : decode cX5_rotate 40 = .ok (.aload_n 0, 1) := by decide +kernel
theorem dX5_rotate_41 : decode cX5_rotate 41 = .ok (.getfield 14, 3) := by decide +kernel
theorem dX5_rotate_44 : decode cX5_rotate 44 = .ok (.getfield 26, 3) := by decide +kernel
theorem dX5_rotate_47 : decode cX5_rotate 47 = .ok (.if_icmp .ge 36, 3) := by decide +kernel
theorem dX5_rotate_50 : decode cX5_rotate 50 = .ok (.aload_n 0, 1) := by decide +kernel
theorem dX5_rotate_51 : decode cX5_rotate 51 = .ok (.getfield 20, 3) := by decide +kernel
theorem dX5_rotate_54 : decode cX5_rotate 54 = .ok (.aload_n 0, 1) := by decide +kernel
theorem dX5_rotate_55 : decode cX5_rotate 55 = .ok (.getfield 14, 3) := by decide +kernel
theorem dX5_rotate_58 : decode cX5_rotate 58 = .ok (.getfield 34, 3) := by decide +kernel
theorem dX5_rotate_61 : decode cX5_rotate 61 = .ok (.iload_n 2, 1) := by decide +kernel
theorem dX5_rotate_62 : decode cX5_rotate 62 = .ok (.iload_n 3, 1) := by decide +kernel
theorem dX5_rotate_63 : decode cX5_rotate 63 = .ok (.iadd, 1) := by decide +kernel
theorem dX5_rotate_64 : decode cX5_rotate 64 = .ok (.aload_n 0, 1) := by decide +kernel
theorem dX5_rotate_65 : decode cX5_rotate 65 = .ok (.getfield 14, 3) := by decide +kernel
theorem dX5_rotate_68 : decode cX5_rotate 68 = .ok (.getfield 26, 3) := by decide +kernel
theorem dX5_rotate_71 : decode cX5_rotate 71 = .ok (.irem, 1) := by decide +kernel
theorem dX5_rotate_72 : decode cX5_rotate 72 = .ok (.iaload, 1) := by decide +kernel
theorem dX5_rotate_73 : decode cX5_rotate 73 = .ok (.invokevirtual 38, 3) := by decide +kernel
theorem dX5_rotate_76 : decode cX5_rotate 76 = .ok (.pop, 1) := by decide +kernel
theorem dX5_rotate_77 : decode cX5_rotate 77 = .ok (.iinc 3 1, 3) := by decide +kernel
theorem dX5_rotate_80 : decode cX5_rotate 80 = .ok (.goto (-41), 3) := by decide +kernel
theorem dX5_rotate_83 : decode cX5_rotate 83 = .ok (.aload_n 0, 1) := by decide +kernel
theorem dX5_rotate_84 : decode cX5_rotate 84 = .ok (.getfield 14, 3) := by decide +kernel
theorem dX5_rotate_87 : decode cX5_rotate 87 = .ok (.aload_n 0, 1) := by decide +kernel
theorem dX5_rotate_88 : decode cX5_rotate 88 = .ok (.getfield 20, 3) := by decide +kernel
theorem dX5_rotate_91 : decode cX5_rotate 91 = .ok (.invokevirtual 41, 3) := by decide +kernel
theorem dX5_rotate_94 : decode cX5_rotate 94 = .ok (.return_, 1) := by decide +kernel
theorem dX5_firstDivisorOf_0 : decode cX5_firstDivisorOf 0 = .ok (.iconst 0, 1) := by decide +kernel
theorem dX5_firstDivisorOf_1 : decode cX5_firstDivisorOf 1 = .ok (.istore_n 2, 1) := by decide +kernel
theorem dX5_firstDivisorOf_2 : decode cX5_firstDivisorOf 2 = .ok (.iload_n 2, 1) := by decide +kernel
theorem dX5_firstDivisorOf_3 : decode cX5_firstDivisorOf 3 = .ok (.aload_n 0, 1) := by decide +kernel
theorem dX5_firstDivisorOf_4 : decode cX5_firstDivisorOf 4 = .ok (.getfield 14, 3) := by decide +kernel
theorem dX5_firstDivisorOf_7 : decode cX5_firstDivisorOf 7 = .ok (.getfield 26, 3) := by decide +kernel
theorem dX5_firstDivisorOf_10 : decode cX5_firstDivisorOf 10 = .ok (.if_icmp .ge 27, 3) := by decide +kernel
theorem dX5_firstDivisorOf_13 : decode cX5_firstDivisorOf 13 = .ok (.aload_n 0, 1) := by decide +kernel
theorem dX5_firstDivisorOf_14 : decode cX5_firstDivisorOf 14 = .ok (.getfield 14, 3) := by decide +kernel
theorem dX5_firstDivisorOf_17 : decode cX5_firstDivisorOf 17 = .ok (.getfield 34, 3) := by decide +kernel
theorem dX5_firstDivisorOf_20 : decode cX5_firstDivisorOf 20 = .ok (.iload_n 2, 1) := by decide +kernel
theorem dX5_firstDivisorOf_21 : decode cX5_firstDivisorOf 21 = .ok (.iaload, 1) := by decide +kernel
theorem dX5_firstDivisorOf_22 : decode cX5_firstDivisorOf 22 = .ok (.iload_n 1, 1) := by decide +kernel
theorem dX5_firstDivisorOf_23 : decode cX5_firstDivisorOf 23 = .ok (.invokestatic 45, 3) := by decide +kernel
theorem dX5_firstDivisorOf_26 : decode cX5_firstDivisorOf 26 = .ok (.ifCond .eq 5, 3) := by decide +kernel
theorem dX5_firstDivisorOf_29 : decode cX5_firstDivisorOf 29 = .ok (.iload_n 2, 1) := by decide +kernel
theorem dX5_firstDivisorOf_30 : decode cX5_firstDivisorOf 30 = .ok (.ireturn, 1) := by decide +kernel
theorem dX5_firstDivisorOf_31 : decode cX5_firstDivisorOf 31 = .ok (.iinc 2 1, 3) := by decide +kernel
theorem dX5_firstDivisorOf_34 : decode cX5_firstDivisorOf 34 = .ok (.goto (-32), 3) := by decide +kernel
theorem dX5_firstDivisorOf_37 : decode cX5_firstDivisorOf 37 = .ok (.bipush (-2), 2) := by decide +kernel
theorem dX5_firstDivisorOf_39 : decode cX5_firstDivisorOf 39 = .ok (.ireturn, 1) := by decide +kernel
theorem dX5_greatestExponentOf_0 : decode cX5_greatestExponentOf 0 = .ok (.iconst 0, 1) := by decide +kernel
theorem dX5_greatestExponentOf_1 : decode cX5_greatestExponentOf 1 = .ok (.istore_n 2, 1) := by decide +kernel
theorem dX5_greatestExponentOf_2 : decode cX5_greatestExponentOf 2 = .ok (.iconst 0, 1) := by decide +kernel
theorem dX5_greatestExponentOf_3 : decode cX5_greatestExponentOf 3 = .ok (.istore_n 3, 1) := by decide +kernel
theorem dX5_greatestExponentOf_4 : decode cX5_greatestExponentOf 4 = .ok (.iload_n 3, 1) := by decide +kernel
theorem dX5_greatestExponentOf_5 : decode cX5_greatestExponentOf 5 = .ok (.aload_n 0, 1) := by decide +kernel
theorem dX5_greatestExponentOf_6 : decode cX5_greatestExponentOf 6 = .ok (.getfield 14, 3) := by decide +kernel
theorem dX5_greatestExponentOf_9 : decode cX5_greatestExponentOf 9 = .ok (.getfield 26, 3) := by decide +kernel
theorem dX5_greatestExponentOf_12 : decode cX5_greatestExponentOf 12 = .ok (.if_icmp .ge 27, 3) := by decide +kernel
theorem dX5_greatestExponentOf_15 : decode cX5_greatestExponentOf 15 = .ok (.iload_n 2, 1) := by decide +kernel
theorem dX5_greatestExponentOf_16 : decode cX5_greatestExponentOf 16 = .ok (.aload_n 0, 1) := by decide +kernel
theorem dX5_greatestExponentOf_17 : decode cX5_greatestExponentOf 17 = .ok (.getfield 14, 3) := by decide +kernel
theorem dX5_greatestExponentOf_20 : decode cX5_greatestExponentOf 20 = .ok (.getfield 34, 3) := by decide +kernel
theorem dX5_greatestExponentOf_23 : decode cX5_greatestExponentOf 23 = .ok (.iload_n 3, 1) := by decide +kernel
theorem dX5_greatestExponentOf_24 : decode cX5_greatestExponentOf 24 = .ok (.iaload, 1) := by decide +kernel
theorem dX5_greatestExponentOf_25 : decode cX5_greatestExponentOf 25 = .ok (.iload_n 1, 1) := by decide +kernel
theorem dX5_greatestExponentOf_26 : decode cX5_greatestExponentOf 26 = .ok (.invokestatic 51, 3) := by decide +kernel
theorem dX5_greatestExponentOf_29 : decode cX5_greatestExponentOf 29 = .ok (.invokestatic 63, 3) := by decide +kernel
theorem dX5_greatestExponentOf_32 : decode cX5_greatestExponentOf 32 = .ok (.istore_n 2, 1) := by decide +kernel
theorem dX5_greatestExponentOf_33 : decode cX5_greatestExponentOf 33 = .ok (.iinc 3 1, 3) := by decide +kernel
theorem dX5_greatestExponentOf_36 : decode cX5_greatestExponentOf 36 = .ok (.goto (-32), 3) := by decide +kernel
theorem dX5_greatestExponentOf_39 : decode cX5_greatestExponentOf 39 = .ok (.iload_n 2, 1) := by decide +kernel
theorem dX5_greatestExponentOf_40 : decode cX5_greatestExponentOf 40 = .ok (.ireturn, 1) := by decide +kernel
theorem dX5_polarizedTotal_0 : decode cX5_polarizedTotal 0 = .ok (.iconst 0, 1) := by decide +kernel
theorem dX5_polarizedTotal_1 : decode cX5_polarizedTotal 1 = .ok (.istore_n 1, 1) := by decide +kernel
theorem dX5_polarizedTotal_2 : decode cX5_polarizedTotal 2 = .ok (.iconst 0, 1) := by decide +kernel
theorem dX5_polarizedTotal_3 : decode cX5_polarizedTotal 3 = .ok (.istore_n 2, 1) := by decide +kernel
theorem dX5_polarizedTotal_4 : decode cX5_polarizedTotal 4 = .ok (.iload_n 2, 1) := by decide +kernel
theorem dX5_polarizedTotal_5 : decode cX5_polarizedTotal 5 = .ok (.bipush 7, 2) := by decide +kernel
theorem dX5_polarizedTotal_7 : decode cX5_polarizedTotal 7 = .ok (.if_icmp .ge 17, 3) := by decide +kernel
theorem dX5_polarizedTotal_10 : decode cX5_polarizedTotal 10 = .ok (.iload_n 1, 1) := by decide +kernel
theorem dX5_polarizedTotal_11 : decode cX5_polarizedTotal 11 = .ok (.aload_n 0, 1) := by decide +kernel
theorem dX5_polarizedTotal_12 : decode cX5_polarizedTotal 12 = .ok (.iload_n 2, 1) := by decide +kernel
theorem dX5_polarizedTotal_13 : decode cX5_polarizedTotal 13 = .ok (.invokevirtual 68, 3) := by decide +kernel
theorem dX5_polarizedTotal_16 : decode cX5_polarizedTotal 16 = .ok (.iadd, 1) := by decide +kernel
theorem dX5_polarizedTotal_17 : decode cX5_polarizedTotal 17 = .ok (.istore_n 1, 1) := by decide +kernel
theorem dX5_polarizedTotal_18 : decode cX5_polarizedTotal 18 = .ok (.iinc 2 1, 3) := by decide +kernel
theorem dX5_polarizedTotal_21 : decode cX5_polarizedTotal 21 = .ok (.goto (-17), 3) := by decide +kernel
theorem dX5_polarizedTotal_24 : decode cX5_polarizedTotal 24 = .ok (.iload_n 1, 1) := by decide +kernel
theorem dX5_polarizedTotal_25 : decode cX5_polarizedTotal 25 = .ok (.ireturn, 1) := by decide +kernel
theorem dX5_polarizationOf_0 : decode cX5_polarizationOf 0 = .ok (.iconst 0, 1) := by decide +kernel
theorem dX5_polarizationOf_1 : decode cX5_polarizationOf 1 = .ok (.istore_n 2, 1) := by decide +kernel
theorem dX5_polarizationOf_2 : decode cX5_polarizationOf 2 = .ok (.iconst 0, 1) := by decide +kernel
theorem dX5_polarizationOf_3 : decode cX5_polarizationOf 3 = .ok (.istore_n 3, 1) := by decide +kernel
theorem dX5_polarizationOf_4 : decode cX5_polarizationOf 4 = .ok (.iconst 0, 1) := by decide +kernel
theorem dX5_polarizationOf_5 : decode cX5_polarizationOf 5 = .ok (.istore 4, 2) := by decide +kernel
theorem dX5_polarizationOf_7 : decode cX5_polarizationOf 7 = .ok (.iload 4, 2) := by decide +kernel
theorem dX5_polarizationOf_9 : decode cX5_polarizationOf 9 = .ok (.bipush 7, 2) := by decide +kernel
theorem dX5_polarizationOf_11 : decode cX5_polarizationOf 11 = .ok (.if_icmp .ge 45, 3) := by decide +kernel
theorem dX5_polarizationOf_14 : decode cX5_polarizationOf 14 = .ok (.iconst 1, 1) := by decide +kernel
theorem dX5_polarizationOf_15 : decode cX5_polarizationOf 15 = .ok (.aload_n 0, 1) := by decide +kernel
theorem dX5_polarizationOf_16 : decode cX5_polarizationOf 16 = .ok (.getfield 14, 3) := by decide +kernel
theorem dX5_polarizationOf_19 : decode cX5_polarizationOf 19 = .ok (.getfield 34, 3) := by decide +kernel
theorem dX5_polarizationOf_22 : decode cX5_polarizationOf 22 = .ok (.iload_n 1, 1) := by decide +kernel
theorem dX5_polarizationOf_23 : decode cX5_polarizationOf 23 = .ok (.iaload, 1) := by decide +kernel
theorem dX5_polarizationOf_24 : decode cX5_polarizationOf 24 = .ok (.iload 4, 2) := by decide +kernel
theorem dX5_polarizationOf_26 : decode cX5_polarizationOf 26 = .ok (.invokestatic 51, 3) := by decide +kernel
theorem dX5_polarizationOf_29 : decode cX5_polarizationOf 29 = .ok (.ishl, 1) := by decide +kernel
theorem dX5_polarizationOf_30 : decode cX5_polarizationOf 30 = .ok (.iconst 1, 1) := by decide +kernel
theorem dX5_polarizationOf_31 : decode cX5_polarizationOf 31 = .ok (.isub, 1) := by decide +kernel
theorem dX5_polarizationOf_32 : decode cX5_polarizationOf 32 = .ok (.istore 5, 2) := by decide +kernel
theorem dX5_polarizationOf_34 : decode cX5_polarizationOf 34 = .ok (.iload_n 2, 1) := by decide +kernel
theorem dX5_polarizationOf_35 : decode cX5_polarizationOf 35 = .ok (.iload 5, 2) := by decide +kernel
theorem dX5_polarizationOf_37 : decode cX5_polarizationOf 37 = .ok (.iload_n 3, 1) := by decide +kernel
theorem dX5_polarizationOf_38 : decode cX5_polarizationOf 38 = .ok (.ishl, 1) := by decide +kernel
theorem dX5_polarizationOf_39 : decode cX5_polarizationOf 39 = .ok (.ior, 1) := by decide +kernel
theorem dX5_polarizationOf_40 : decode cX5_polarizationOf 40 = .ok (.istore_n 2, 1) := by decide +kernel
theorem dX5_polarizationOf_41 : decode cX5_polarizationOf 41 = .ok (.iload_n 3, 1) := by decide +kernel
theorem dX5_polarizationOf_42 : decode cX5_polarizationOf 42 = .ok (.aload_n 0, 1) := by decide +kernel
theorem dX5_polarizationOf_43 : decode cX5_polarizationOf 43 = .ok (.iload 4, 2) := by decide +kernel
theorem dX5_polarizationOf_45 : decode cX5_polarizationOf 45 = .ok (.invokevirtual 68, 3) := by decide +kernel
theorem dX5_polarizationOf_48 : decode cX5_polarizationOf 48 = .ok (.iadd, 1) := by decide +kernel
theorem dX5_polarizationOf_49 : decode cX5_polarizationOf 49 = .ok (.istore_n 3, 1) := by decide +kernel
theorem dX5_polarizationOf_50 : decode cX5_polarizationOf 50 = .ok (.iinc 4 1, 3) := by decide +kernel
theorem dX5_polarizationOf_53 : decode cX5_polarizationOf 53 = .ok (.goto (-46), 3) := by decide +kernel
theorem dX5_polarizationOf_56 : decode cX5_polarizationOf 56 = .ok (.iload_n 2, 1) := by decide +kernel
theorem dX5_polarizationOf_57 : decode cX5_polarizationOf 57 = .ok (.ireturn, 1) := by decide +kernel
theorem dX5_smallestHittingSize_0 : decode cX5_smallestHittingSize 0 = .ok (.bipush 8, 2) := by decide +kernel
theorem dX5_smallestHittingSize_2 : decode cX5_smallestHittingSize 2 = .ok (.istore_n 1, 1) := by decide +kernel
theorem dX5_smallestHittingSize_3 : decode cX5_smallestHittingSize 3 = .ok (.iconst 0, 1) := by decide +kernel
theorem dX5_smallestHittingSize_4 : decode cX5_smallestHittingSize 4 = .ok (.istore_n 2, 1) := by decide +kernel
theorem dX5_smallestHittingSize_5 : decode cX5_smallestHittingSize 5 = .ok (.iload_n 2, 1) := by decide +kernel
theorem dX5_smallestHittingSize_6 : decode cX5_smallestHittingSize 6 = .ok (.sipush 128, 3) := by decide +kernel
theorem dX5_smallestHittingSize_9 : decode cX5_smallestHittingSize 9 = .ok (.if_icmp .ge 33, 3) := by decide +kernel
theorem dX5_smallestHittingSize_12 : decode cX5_smallestHittingSize 12 = .ok (.iload_n 2, 1) := by decide +kernel
theorem dX5_smallestHittingSize_13 : decode cX5_smallestHittingSize 13 = .ok (.invokestatic 71, 3) := by decide +kernel
theorem dX5_smallestHittingSize_16 : decode cX5_smallestHittingSize 16 = .ok (.iload_n 1, 1) := by decide +kernel
theorem dX5_smallestHittingSize_17 : decode cX5_smallestHittingSize 17 = .ok (.if_icmp .ge 19, 3) := by decide +kernel
theorem dX5_smallestHittingSize_20 : decode cX5_smallestHittingSize 20 = .ok (.aload_n 0, 1) := by decide +kernel
theorem dX5_smallestHittingSize_21 : decode cX5_smallestHittingSize 21 = .ok (.iload_n 2, 1) := by decide +kernel
theorem dX5_smallestHittingSize_22 : decode cX5_smallestHittingSize 22 = .ok (.invokestatic 76, 3) := by decide +kernel
theorem dX5_smallestHittingSize_25 : decode cX5_smallestHittingSize 25 = .ok (.invokevirtual 79, 3) := by decide +kernel
theorem dX5_smallestHittingSize_28 : decode cX5_smallestHittingSize 28 = .ok (.ifCond .eq 8, 3) := by decide +kernel
theorem dX5_smallestHittingSize_31 : decode cX5_smallestHittingSize 31 = .ok (.iload_n 2, 1) := by decide +kernel
theorem dX5_smallestHittingSize_32 : decode cX5_smallestHittingSize 32 = .ok (.invokestatic 71, 3) := by decide +kernel
theorem dX5_smallestHittingSize_35 : decode cX5_smallestHittingSize 35 = .ok (.istore_n 1, 1) := by decide +kernel
theorem dX5_smallestHittingSize_36 : decode cX5_smallestHittingSize 36 = .ok (.iinc 2 1, 3) := by decide +kernel
theorem dX5_smallestHittingSize_39 : decode cX5_smallestHittingSize 39 = .ok (.goto (-34), 3) := by decide +kernel
theorem dX5_smallestHittingSize_42 : decode cX5_smallestHittingSize 42 = .ok (.iload_n 1, 1) := by decide +kernel
theorem dX5_smallestHittingSize_43 : decode cX5_smallestHittingSize 43 = .ok (.bipush 7, 2) := by decide +kernel
theorem dX5_smallestHittingSize_45 : decode cX5_smallestHittingSize 45 = .ok (.if_icmp .le 8, 3) := by decide +kernel
theorem dX5_smallestHittingSize_48 : decode cX5_smallestHittingSize 48 = .ok (.bipush (-2), 2) := by decide +kernel
theorem dX5_smallestHittingSize_50 : decode cX5_smallestHittingSize 50 = .ok (.goto 4, 3) := by decide +kernel
theorem dX5_smallestHittingSize_53 : decode cX5_smallestHittingSize 53 = .ok (.iload_n 1, 1) := by decide +kernel
theorem dX5_smallestHittingSize_54 : decode cX5_smallestHittingSize 54 = .ok (.ireturn, 1) := by decide +kernel
theorem dX5_hitsAll_0 : decode cX5_hitsAll 0 = .ok (.iconst 0, 1) := by decide +kernel
theorem dX5_hitsAll_1 : decode cX5_hitsAll 1 = .ok (.istore_n 2, 1) := by decide +kernel
theorem dX5_hitsAll_2 : decode cX5_hitsAll 2 = .ok (.iload_n 2, 1) := by decide +kernel
theorem dX5_hitsAll_3 : decode cX5_hitsAll 3 = .ok (.aload_n 0, 1) := by decide +kernel
theorem dX5_hitsAll_4 : decode cX5_hitsAll 4 = .ok (.getfield 14, 3) := by decide +kernel
theorem dX5_hitsAll_7 : decode cX5_hitsAll 7 = .ok (.getfield 26, 3) := by decide +kernel
theorem dX5_hitsAll_10 : decode cX5_hitsAll 10 = .ok (.if_icmp .ge 25, 3) := by decide +kernel
theorem dX5_hitsAll_13 : decode cX5_hitsAll 13 = .ok (.aload_n 0, 1) := by decide +kernel
theorem dX5_hitsAll_14 : decode cX5_hitsAll 14 = .ok (.getfield 14, 3) := by decide +kernel
theorem dX5_hitsAll_17 : decode cX5_hitsAll 17 = .ok (.getfield 34, 3) := by decide +kernel
theorem dX5_hitsAll_20 : decode cX5_hitsAll 20 = .ok (.iload_n 2, 1) := by decide +kernel
theorem dX5_hitsAll_21 : decode cX5_hitsAll 21 = .ok (.iaload, 1) := by decide +kernel
theorem dX5_hitsAll_22 : decode cX5_hitsAll 22 = .ok (.iload_n 1, 1) := by decide +kernel
theorem dX5_hitsAll_23 : decode cX5_hitsAll 23 = .ok (.iand, 1) := by decide +kernel
theorem dX5_hitsAll_24 : decode cX5_hitsAll 24 = .ok (.ifCond .ne 5, 3) := by decide +kernel
theorem dX5_hitsAll_27 : decode cX5_hitsAll 27 = .ok (.iconst 0, 1) := by decide +kernel
theorem dX5_hitsAll_28 : decode cX5_hitsAll 28 = .ok (.ireturn, 1) := by decide +kernel
theorem dX5_hitsAll_29 : decode cX5_hitsAll 29 = .ok (.iinc 2 1, 3) := by decide +kernel
theorem dX5_hitsAll_32 : decode cX5_hitsAll 32 = .ok (.goto (-30), 3) := by decide +kernel
theorem dX5_hitsAll_35 : decode cX5_hitsAll 35 = .ok (.iconst 1, 1) := by decide +kernel
theorem dX5_hitsAll_36 : decode cX5_hitsAll 36 = .ok (.ireturn, 1) := by decide +kernel
theorem dX5_formatted_0 : decode cX5_formatted 0 = .ok (.aload_n 0, 1) := by decide +kernel
theorem dX5_formatted_1 : decode cX5_formatted 1 = .ok (.getfield 23, 3) := by decide +kernel
theorem dX5_formatted_4 : decode cX5_formatted 4 = .ok (.iconst 0, 1) := by decide +kernel
theorem dX5_formatted_5 : decode cX5_formatted 5 = .ok (.putfield 26, 3) := by decide +kernel
theorem dX5_formatted_8 : decode cX5_formatted 8 = .ok (.iconst 0, 1) := by decide +kernel
theorem dX5_formatted_9 : decode cX5_formatted 9 = .ok (.istore_n 1, 1) := by decide +kernel
theorem dX5_formatted_10 : decode cX5_formatted 10 = .ok (.iload_n 1, 1) := by decide +kernel
theorem dX5_formatted_11 : decode cX5_formatted 11 = .ok (.aload_n 0, 1) := by decide +kernel
theorem dX5_formatted_12 : decode cX5_formatted 12 = .ok (.getfield 14, 3) := by decide +kernel
theorem dX5_formatted_15 : decode cX5_formatted 15 = .ok (.getfield 26, 3) := by decide +kernel
theorem dX5_formatted_18 : decode cX5_formatted 18 = .ok (.if_icmp .ge 36, 3) := by decide +kernel
theorem dX5_formatted_21 : decode cX5_formatted 21 = .ok (.iload_n 1, 1) := by decide +kernel
theorem dX5_formatted_22 : decode cX5_formatted 22 = .ok (.ifCond .le 13, 3) := by decide +kernel
theorem dX5_formatted_25 : decode cX5_formatted 25 = .ok (.aload_n 0, 1) := by decide +kernel
theorem dX5_formatted_26 : decode cX5_formatted 26 = .ok (.getfield 23, 3) := by decide +kernel
theorem dX5_formatted_29 : decode cX5_formatted 29 = .ok (.bipush 44, 2) := by decide +kernel
theorem dX5_formatted_31 : decode cX5_formatted 31 = .ok (.invokevirtual 38, 3) := by decide +kernel
theorem dX5_formatted_34 : decode cX5_formatted 34 = .ok (.pop, 1) := by decide +kernel
theorem dX5_formatted_35 : decode cX5_formatted 35 = .ok (.aload_n 0, 1) := by decide +kernel
theorem dX5_formatted_36 : decode cX5_formatted 36 = .ok (.aload_n 0, 1) := by decide +kernel
theorem dX5_formatted_37 : decode cX5_formatted 37 = .ok (.getfield 14, 3) := by decide +kernel
theorem dX5_formatted_40 : decode cX5_formatted 40 = .ok (.getfield 34, 3) := by decide +kernel
theorem dX5_formatted_43 : decode cX5_formatted 43 = .ok (.iload_n 1, 1) := by decide +kernel
theorem dX5_formatted_44 : decode cX5_formatted 44 = .ok (.iaload, 1) := by decide +kernel
theorem dX5_formatted_45 : decode cX5_formatted 45 = .ok (.invokevirtual 82, 3) := by decide +kernel
theorem dX5_formatted_48 : decode cX5_formatted 48 = .ok (.iinc 1 1, 3) := by decide +kernel
theorem dX5_formatted_51 : decode cX5_formatted 51 = .ok (.goto (-41), 3) := by decide +kernel
theorem dX5_formatted_54 : decode cX5_formatted 54 = .ok (.aload_n 0, 1) := by decide +kernel
theorem dX5_formatted_55 : decode cX5_formatted 55 = .ok (.getfield 23, 3) := by decide +kernel
theorem dX5_formatted_58 : decode cX5_formatted 58 = .ok (.areturn, 1) := by decide +kernel
theorem dX5_formatMonomial_0 : decode cX5_formatMonomial 0 = .ok (.iload_n 1, 1) := by decide +kernel
theorem dX5_formatMonomial_1 : decode cX5_formatMonomial 1 = .ok (.ifCond .ne 13, 3) := by decide +kernel
theorem dX5_formatMonomial_4 : decode cX5_formatMonomial 4 = .ok (.aload_n 0, 1) := by decide +kernel
theorem dX5_formatMonomial_5 : decode cX5_formatMonomial 5 = .ok (.getfield 23, 3) := by decide +kernel
theorem dX5_formatMonomial_8 : decode cX5_formatMonomial 8 = .ok (.bipush 49, 2) := by decide +kernel
theorem dX5_formatMonomial_10 : decode cX5_formatMonomial 10 = .ok (.invokevirtual 38, 3) := by decide +kernel
theorem dX5_formatMonomial_13 : decode cX5_formatMonomial 13 = .ok (.pop, 1) := by decide +kernel
theorem dX5_formatMonomial_14 : decode cX5_formatMonomial 14 = .ok (.iconst 0, 1) := by decide +kernel
theorem dX5_formatMonomial_15 : decode cX5_formatMonomial 15 = .ok (.istore_n 2, 1) := by decide +kernel
theorem dX5_formatMonomial_16 : decode cX5_formatMonomial 16 = .ok (.iload_n 2, 1) := by decide +kernel
theorem dX5_formatMonomial_17 : decode cX5_formatMonomial 17 = .ok (.bipush 7, 2) := by decide +kernel
theorem dX5_formatMonomial_19 : decode cX5_formatMonomial 19 = .ok (.if_icmp .ge 48, 3) := by decide +kernel
theorem dX5_formatMonomial_22 : decode cX5_formatMonomial 22 = .ok (.iload_n 1, 1) := by decide +kernel
theorem dX5_formatMonomial_23 : decode cX5_formatMonomial 23 = .ok (.iload_n 2, 1) := by decide +kernel
theorem dX5_formatMonomial_24 : decode cX5_formatMonomial 24 = .ok (.invokestatic 51, 3) := by decide +kernel
theorem dX5_formatMonomial_27 : decode cX5_formatMonomial 27 = .ok (.istore_n 3, 1) := by decide +kernel
theorem dX5_formatMonomial_28 : decode cX5_formatMonomial 28 = .ok (.iload_n 3, 1) := by decide +kernel
theorem dX5_formatMonomial_29 : decode cX5_formatMonomial 29 = .ok (.ifCond .le 15, 3) := by decide +kernel
theorem dX5_formatMonomial_32 : decode cX5_formatMonomial 32 = .ok (.aload_n 0, 1) := by decide +kernel
theorem dX5_formatMonomial_33 : decode cX5_formatMonomial 33 = .ok (.getfield 23, 3) := by decide +kernel
theorem dX5_formatMonomial_36 : decode cX5_formatMonomial 36 = .ok (.bipush 97, 2) := by decide +kernel
theorem dX5_formatMonomial_38 : decode cX5_formatMonomial 38 = .ok (.iload_n 2, 1) := by decide +kernel
theorem dX5_formatMonomial_39 : decode cX5_formatMonomial 39 = .ok (.iadd, 1) := by decide +kernel
theorem dX5_formatMonomial_40 : decode cX5_formatMonomial 40 = .ok (.invokevirtual 38, 3) := by decide +kernel
theorem dX5_formatMonomial_43 : decode cX5_formatMonomial 43 = .ok (.pop, 1) := by decide +kernel
theorem dX5_formatMonomial_44 : decode cX5_formatMonomial 44 = .ok (.iload_n 3, 1) := by decide +kernel
theorem dX5_formatMonomial_45 : decode cX5_formatMonomial 45 = .ok (.iconst 1, 1) := by decide +kernel
theorem dX5_formatMonomial_46 : decode cX5_formatMonomial 46 = .ok (.if_icmp .le 15, 3) := by decide +kernel
theorem dX5_formatMonomial_49 : decode cX5_formatMonomial 49 = .ok (.aload_n 0, 1) := by decide +kernel
theorem dX5_formatMonomial_50 : decode cX5_formatMonomial 50 = .ok (.getfield 23, 3) := by decide +kernel
theorem dX5_formatMonomial_53 : decode cX5_formatMonomial 53 = .ok (.bipush 48, 2) := by decide +kernel
theorem dX5_formatMonomial_55 : decode cX5_formatMonomial 55 = .ok (.iload_n 3, 1) := by decide +kernel
theorem dX5_formatMonomial_56 : decode cX5_formatMonomial 56 = .ok (.iadd, 1) := by decide +kernel
theorem dX5_formatMonomial_57 : decode cX5_formatMonomial 57 = .ok (.invokevirtual 38, 3) := by decide +kernel
theorem dX5_formatMonomial_60 : decode cX5_formatMonomial 60 = .ok (.pop, 1) := by decide +kernel
theorem dX5_formatMonomial_61 : decode cX5_formatMonomial 61 = .ok (.iinc 2 1, 3) := by decide +kernel
theorem dX5_formatMonomial_64 : decode cX5_formatMonomial 64 = .ok (.goto (-48), 3) := by decide +kernel
theorem dX5_formatMonomial_67 : decode cX5_formatMonomial 67 = .ok (.return_, 1) := by decide +kernel
theorem dX6_unit_0 : decode cX6_unit 0 = .ok (.iconst 1, 1) := by decide +kernel
theorem dX6_unit_1 : decode cX6_unit 1 = .ok (.iconst 2, 1) := by decide +kernel
theorem dX6_unit_2 : decode cX6_unit 2 = .ok (.iload_n 0, 1) := by decide +kernel
theorem dX6_unit_3 : decode cX6_unit 3 = .ok (.imul, 1) := by decide +kernel
theorem dX6_unit_4 : decode cX6_unit 4 = .ok (.ishl, 1) := by decide +kernel
theorem dX6_unit_5 : decode cX6_unit 5 = .ok (.ireturn, 1) := by decide +kernel
theorem dX6_exponentOf_0 : decode cX6_exponentOf 0 = .ok (.iload_n 0, 1) := by decide +kernel
theorem dX6_exponentOf_1 : decode cX6_exponentOf 1 = .ok (.iconst 2, 1) := by decide +kernel
theorem dX6_exponentOf_2 : decode cX6_exponentOf 2 = .ok (.iload_n 1, 1) := by decide +kernel
theorem dX6_exponentOf_3 : decode cX6_exponentOf 3 = .ok (.imul, 1) := by decide +kernel
theorem dX6_exponentOf_4 : decode cX6_exponentOf 4 = .ok (.ishr, 1) := by decide +kernel
theorem dX6_exponentOf_5 : decode cX6_exponentOf 5 = .ok (.iconst 3, 1) := by decide +kernel
theorem dX6_exponentOf_6 : decode cX6_exponentOf 6 = .ok (.iand, 1) := by decide +kernel
theorem dX6_exponentOf_7 : decode cX6_exponentOf 7 = .ok (.ireturn, 1) := by decide +kernel
theorem dX6_degreeOf_0 : decode cX6_degreeOf 0 = .ok (.iload_n 0, 1) := by decide +kernel
theorem dX6_degreeOf_1 : decode cX6_degreeOf 1 = .ok (.invokestatic 11, 3) := by decide +kernel
theorem dX6_degreeOf_4 : decode cX6_degreeOf 4 = .ok (.iload_n 0, 1) := by decide +kernel
theorem dX6_degreeOf_5 : decode cX6_degreeOf 5 = .ok (.iconst 1, 1) := by decide +kernel
theorem dX6_degreeOf_6 : decode cX6_degreeOf 6 = .ok (.ishr, 1) := by decide +kernel
theorem dX6_degreeOf_7 : decode cX6_degreeOf 7 = .ok (.sipush 5461, 3) := by decide +kernel
theorem dX6_degreeOf_10 : decode cX6_degreeOf 10 = .ok (.iand, 1) := by decide +kernel
theorem dX6_degreeOf_11 : decode cX6_degreeOf 11 = .ok (.invokestatic 11, 3) := by decide +kernel
theorem dX6_degreeOf_14 : decode cX6_degreeOf 14 = .ok (.iadd, 1) := by decide +kernel
theorem dX6_degreeOf_15 : decode cX6_degreeOf 15 = .ok (.ireturn, 1) := by decide +kernel
theorem dX6_exceeding_0 : decode cX6_exceeding 0 = .ok (.iload_n 0, 1) := by decide +kernel
theorem dX6_exceeding_1 : decode cX6_exceeding 1 = .ok (.iconst 1, 1) := by decide +kernel
theorem dX6_exceeding_2 : decode cX6_exceeding 2 = .ok (.ishr, 1) := by decide +kernel
theorem dX6_exceeding_3 : decode cX6_exceeding 3 = .ok (.sipush 5461, 3) := by decide +kernel
theorem dX6_exceeding_6 : decode cX6_exceeding 6 = .ok (.iand, 1) := by decide +kernel
theorem dX6_exceeding_7 : decode cX6_exceeding 7 = .ok (.istore_n 2, 1) := by decide +kernel
theorem dX6_exceeding_8 : decode cX6_exceeding 8 = .ok (.iload_n 1, 1) := by decide +kernel
theorem dX6_exceeding_9 : decode cX6_exceeding 9 = .ok (.iconst 1, 1) := by decide +kernel
theorem dX6_exceeding_10 : decode cX6_exceeding 10 = .ok (.ishr, 1) := by decide +kernel
theorem dX6_exceeding_11 : decode cX6_exceeding 11 = .ok (.sipush 5461, 3) := by decide +kernel
theorem dX6_exceeding_14 : decode cX6_exceeding 14 = .ok (.iand, 1) := by decide +kernel
theorem dX6_exceeding_15 : decode cX6_exceeding 15 = .ok (.istore_n 3, 1) := by decide +kernel
theorem dX6_exceeding_16 : decode cX6_exceeding 16 = .ok (.iload_n 2, 1) := by decide +kernel
theorem dX6_exceeding_17 : decode cX6_exceeding 17 = .ok (.iload_n 3, 1) := by decide +kernel
theorem dX6_exceeding_18 : decode cX6_exceeding 18 = .ok (.iconst (-1), 1) := by decide +kernel
theorem dX6_exceeding_19 : decode cX6_exceeding 19 = .ok (.ixor, 1) := by decide +kernel
theorem dX6_exceeding_20 : decode cX6_exceeding 20 = .ok (.iand, 1) := by decide +kernel
theorem dX6_exceeding_21 : decode cX6_exceeding 21 = .ok (.istore 4, 2) := by decide +kernel
theorem dX6_exceeding_23 : decode cX6_exceeding 23 = .ok (.iload_n 0, 1) := by decide +kernel
theorem dX6_exceeding_24 : decode cX6_exceeding 24 = .ok (.iload_n 1, 1) := by decide +kernel
theorem dX6_exceeding_25 : decode cX6_exceeding 25 = .ok (.iconst (-1), 1) := by decide +kernel
theorem dX6_exceeding_26 : decode cX6_exceeding 26 = .ok (.ixor, 1) := by decide +kernel
theorem dX6_exceeding_27 : decode cX6_exceeding 27 = .ok (.iand, 1) := by decide +kernel
theorem dX6_exceeding_28 : decode cX6_exceeding 28 = .ok (.iload_n 2, 1) := by decide +kernel
theorem dX6_exceeding_29 : decode cX6_exceeding 29 = .ok (.iload_n 3, 1) := by decide +kernel
theorem dX6_exceeding_30 : decode cX6_exceeding 30 = .ok (.ixor, 1) := by decide +kernel
theorem dX6_exceeding_31 : decode cX6_exceeding 31 = .ok (.iconst (-1), 1) := by decide +kernel
theorem dX6_exceeding_32 : decode cX6_exceeding 32 = .ok (.ixor, 1) := by decide +kernel
theorem dX6_exceeding_33 : decode cX6_exceeding 33 = .ok (.iand, 1) := by decide +kernel
theorem dX6_exceeding_34 : decode cX6_exceeding 34 = .ok (.sipush 5461, 3) := by decide +kernel
theorem dX6_exceeding_37 : decode cX6_exceeding 37 = .ok (.iand, 1) := by decide +kernel
theorem dX6_exceeding_38 : decode cX6_exceeding 38 = .ok (.istore 5, 2) := by decide +kernel
theorem dX6_exceeding_40 : decode cX6_exceeding 40 = .ok (.iload 4, 2) := by decide +kernel
theorem dX6_exceeding_42 : decode cX6_exceeding 42 = .ok (.iload 5, 2) := by decide +kernel
theorem dX6_exceeding_44 : decode cX6_exceeding 44 = .ok (.ior, 1) := by decide +kernel
theorem dX6_exceeding_45 : decode cX6_exceeding 45 = .ok (.ireturn, 1) := by decide +kernel
theorem dX6_divides_0 : decode cX6_divides 0 = .ok (.iload_n 0, 1) := by decide +kernel
theorem dX6_divides_1 : decode cX6_divides 1 = .ok (.iload_n 1, 1) := by decide +kernel
theorem dX6_divides_2 : decode cX6_divides 2 = .ok (.invokestatic 17, 3) := by decide +kernel
theorem dX6_divides_5 : decode cX6_divides 5 = .ok (.ifCond .ne 7, 3) := by decide +kernel
theorem dX6_divides_8 : decode cX6_divides 8 = .ok (.iconst 1, 1) := by decide +kernel
theorem dX6_divides_9 : decode cX6_divides 9 = .ok (.goto 4, 3) := by decide +kernel
theorem dX6_divides_12 : decode cX6_divides 12 = .ok (.iconst 0, 1) := by decide +kernel
theorem dX6_divides_13 : decode cX6_divides 13 = .ok (.ireturn, 1) := by decide +kernel
theorem dX6_commonDivisor_0 : decode cX6_commonDivisor 0 = .ok (.iconst 3, 1) := by decide +kernel
theorem dX6_commonDivisor_1 : decode cX6_commonDivisor 1 = .ok (.iload_n 0, 1) := by decide +kernel
theorem dX6_commonDivisor_2 : decode cX6_commonDivisor 2 = .ok (.iload_n 1, 1) := by decide +kernel
theorem dX6_commonDivisor_3 : decode cX6_commonDivisor 3 = .ok (.invokestatic 17, 3) := by decide +kernel
theorem dX6_commonDivisor_6 : decode cX6_commonDivisor 6 = .ok (.imul, 1) := by decide +kernel
theorem dX6_commonDivisor_7 : decode cX6_commonDivisor 7 = .ok (.istore_n 2, 1) := by decide +kernel
theorem dX6_commonDivisor_8 : decode cX6_commonDivisor 8 = .ok (.iload_n 0, 1) := by decide +kernel
theorem dX6_commonDivisor_9 : decode cX6_commonDivisor 9 = .ok (.iload_n 2, 1) := by decide +kernel
theorem dX6_commonDivisor_10 : decode cX6_commonDivisor 10 = .ok (.iconst (-1), 1) := by decide +kernel
theorem dX6_commonDivisor_11 : decode cX6_commonDivisor 11 = .ok (.ixor, 1) := by decide +kernel
theorem dX6_commonDivisor_12 : decode cX6_commonDivisor 12 = .ok (.iand, 1) := by decide +kernel
theorem dX6_commonDivisor_13 : decode cX6_commonDivisor 13 = .ok (.iload_n 1, 1) := by decide +kernel
theorem dX6_commonDivisor_14 : decode cX6_commonDivisor 14 = .ok (.iload_n 2, 1) := by decide +kernel
theorem dX6_commonDivisor_15 : decode cX6_commonDivisor 15 = .ok (.iand, 1) := by decide +kernel
theorem dX6_commonDivisor_16 : decode cX6_commonDivisor 16 = .ok (.ior, 1) := by decide +kernel
theorem dX6_commonDivisor_17 : decode cX6_commonDivisor 17 = .ok (.ireturn, 1) := by decide +kernel
theorem dX6_supportOf_0 : decode cX6_supportOf 0 = .ok (.iconst 0, 1) := by decide +kernel
theorem dX6_supportOf_1 : decode cX6_supportOf 1 = .ok (.istore_n 1, 1) := by decide +kernel
theorem dX6_supportOf_2 : decode cX6_supportOf 2 = .ok (.iconst 0, 1) := by decide +kernel
theorem dX6_supportOf_3 : decode cX6_supportOf 3 = .ok (.istore_n 2, 1) := by decide +kernel
theorem dX6_supportOf_4 : decode cX6_supportOf 4 = .ok (.iload_n 2, 1) := by decide +kernel
theorem dX6_supportOf_5 : decode cX6_supportOf 5 = .ok (.bipush 7, 2) := by decide +kernel
theorem dX6_supportOf_7 : decode cX6_supportOf 7 = .ok (.if_icmp .ge 23, 3) := by decide +kernel
theorem dX6_supportOf_10 : decode cX6_supportOf 10 = .ok (.iload_n 0, 1) := by decide +kernel
theorem dX6_supportOf_11 : decode cX6_supportOf 11 = .ok (.iload_n 2, 1) := by decide +kernel
theorem dX6_supportOf_12 : decode cX6_supportOf 12 = .ok (.invokestatic 21, 3) := by decide +kernel
theorem dX6_supportOf_15 : decode cX6_supportOf 15 = .ok (.ifCond .le 9, 3) := by decide +kernel
theorem dX6_supportOf_18 : decode cX6_supportOf 18 = .ok (.iload_n 1, 1) := by decide +kernel
theorem dX6_supportOf_19 : decode cX6_supportOf 19 = .ok (.iconst 1, 1) := by decide +kernel
theorem dX6_supportOf_20 : decode cX6_supportOf 20 = .ok (.iload_n 2, 1) := by decide +kernel
theorem dX6_supportOf_21 : decode cX6_supportOf 21 = .ok (.ishl, 1) := by decide +kernel
theorem dX6_supportOf_22 : decode cX6_supportOf 22 = .ok (.ior, 1) := by decide +kernel
theorem dX6_supportOf_23 : decode cX6_supportOf 23 = .ok (.istore_n 1, 1) := by decide +kernel
theorem dX6_supportOf_24 : decode cX6_supportOf 24 = .ok (.iinc 2 1, 3) := by decide +kernel
theorem dX6_supportOf_27 : decode cX6_supportOf 27 = .ok (.goto (-23), 3) := by decide +kernel
theorem dX6_supportOf_30 : decode cX6_supportOf 30 = .ok (.iload_n 1, 1) := by decide +kernel
theorem dX6_supportOf_31 : decode cX6_supportOf 31 = .ok (.ireturn, 1) := by decide +kernel
theorem dX6_maskOf_0 : decode cX6_maskOf 0 = .ok (.iconst 0, 1) := by decide +kernel
theorem dX6_maskOf_1 : decode cX6_maskOf 1 = .ok (.istore_n 1, 1) := by decide +kernel
theorem dX6_maskOf_2 : decode cX6_maskOf 2 = .ok (.iconst 0, 1) := by decide +kernel
theorem dX6_maskOf_3 : decode cX6_maskOf 3 = .ok (.istore_n 2, 1) := by decide +kernel
theorem dX6_maskOf_4 : decode cX6_maskOf 4 = .ok (.iload_n 2, 1) := by decide +kernel
theorem dX6_maskOf_5 : decode cX6_maskOf 5 = .ok (.bipush 7, 2) := by decide +kernel
theorem dX6_maskOf_7 : decode cX6_maskOf 7 = .ok (.if_icmp .ge 24, 3) := by decide +kernel
theorem dX6_maskOf_10 : decode cX6_maskOf 10 = .ok (.iload_n 1, 1) := by decide +kernel
theorem dX6_maskOf_11 : decode cX6_maskOf 11 = .ok (.iload_n 0, 1) := by decide +kernel
theorem dX6_maskOf_12 : decode cX6_maskOf 12 = .ok (.iload_n 2, 1) := by decide +kernel
theorem dX6_maskOf_13 : decode cX6_maskOf 13 = .ok (.ishr, 1) := by decide +kernel
theorem dX6_maskOf_14 : decode cX6_maskOf 14 = .ok (.iconst 1, 1) := by decide +kernel
theorem dX6_maskOf_15 : decode cX6_maskOf 15 = .ok (.iand, 1) := by decide +kernel
theorem dX6_maskOf_16 : decode cX6_maskOf 16 = .ok (.iconst 3, 1) := by decide +kernel
theorem dX6_maskOf_17 : decode cX6_maskOf 17 = .ok (.imul, 1) := by decide +kernel
theorem dX6_maskOf_18 : decode cX6_maskOf 18 = .ok (.iload_n 2, 1) := by decide +kernel
theorem dX6_maskOf_19 : decode cX6_maskOf 19 = .ok (.invokestatic 24, 3) := by decide +kernel
theorem dX6_maskOf_22 : decode cX6_maskOf 22 = .ok (.imul, 1) := by decide +kernel
theorem dX6_maskOf_23 : decode cX6_maskOf 23 = .ok (.ior, 1) := by decide +kernel
theorem dX6_maskOf_24 : decode cX6_maskOf 24 = .ok (.istore_n 1, 1) := by decide +kernel
theorem dX6_maskOf_25 : decode cX6_maskOf 25 = .ok (.iinc 2 1, 3) := by decide +kernel
theorem dX6_maskOf_28 : decode cX6_maskOf 28 = .ok (.goto (-24), 3) := by decide +kernel
theorem dX6_maskOf_31 : decode cX6_maskOf 31 = .ok (.iload_n 1, 1) := by decide +kernel
theorem dX6_maskOf_32 : decode cX6_maskOf 32 = .ok (.ireturn, 1) := by decide +kernel
theorem dX7_init_0 : decode cX7_init 0 = .ok (.aload_n 0, 1) := by decide +kernel
theorem dX7_init_1 : decode cX7_init 1 = .ok (.invokespecial 3, 3) := by decide +kernel
theorem dX7_init_4 : decode cX7_init 4 = .ok (.aload_n 0, 1) := by decide +kernel
theorem dX7_init_5 : decode cX7_init 5 = .ok (.iload_n 1, 1) := by decide +kernel
theorem dX7_init_6 : decode cX7_init 6 = .ok (.iconst 0, 1) := by decide +kernel
theorem dX7_init_7 : decode cX7_init 7 = .ok (.invokestatic 9, 3) := by decide +kernel
theorem dX7_init_10 : decode cX7_init 10 = .ok (.newarray .int, 2) := by decide +kernel
theorem dX7_init_12 : decode cX7_init 12 = .ok (.putfield 15, 3) := by decide +kernel
theorem dX7_init_15 : decode cX7_init 15 = .ok (.aload_n 0, 1) := by decide +kernel
theorem dX7_init_16 : decode cX7_init 16 = .ok (.iconst 0, 1) := by decide +kernel
theorem dX7_init_17 : decode cX7_init 17 = .ok (.putfield 21, 3) := by decide +kernel
theorem dX7_init_20 : decode cX7_init 20 = .ok (.return_, 1) := by decide +kernel
theorem dX7_add_0 : decode cX7_add 0 = .ok (.aload_n 0, 1) := by decide +kernel
theorem dX7_add_1 : decode cX7_add 1 = .ok (.getfield 21, 3) := by decide +kernel
theorem dX7_add_4 : decode cX7_add 4 = .ok (.aload_n 0, 1) := by decide +kernel
theorem dX7_add_5 : decode cX7_add 5 = .ok (.getfield 15, 3) := by decide +kernel
theorem dX7_add_8 : decode cX7_add 8 = .ok (.arraylength, 1) := by decide +kernel
theorem dX7_add_9 : decode cX7_add 9 = .ok (.if_icmp .lt 5, 3) := by decide +kernel
theorem dX7_add_12 : decode cX7_add 12 = .ok (.iconst 0, 1) := by decide +kernel
theorem dX7_add_13 : decode cX7_add 13 = .ok (.ireturn, 1) := by decide +kernel
theorem dX7_add_14 : decode cX7_add 14 = .ok (.aload_n 0, 1) := by decide +kernel
theorem dX7_add_15 : decode cX7_add 15 = .ok (.getfield 15, 3) := by decide +kernel
theorem dX7_add_18 : decode cX7_add 18 = .ok (.aload_n 0, 1) := by decide +kernel
theorem dX7_add_19 : decode cX7_add 19 = .ok (.getfield 21, 3) := by decide +kernel
theorem dX7_add_22 : decode cX7_add 22 = .ok (.iload_n 1, 1) := by decide +kernel
theorem dX7_add_23 : decode cX7_add 23 = .ok (.iastore, 1) := by decide +kernel
theorem dX7_add_24 : decode cX7_add 24 = .ok (.aload_n 0, 1) := by decide +kernel
theorem dX7_add_25 : decode cX7_add 25 = .ok (.dup, 1) := by decide +kernel
theorem dX7_add_26 : decode cX7_add 26 = .ok (.getfield 21, 3) := by decide +kernel
theorem dX7_add_29 : decode cX7_add 29 = .ok (.iconst 1, 1) := by decide +kernel
theorem dX7_add_30 : decode cX7_add 30 = .ok (.iadd, 1) := by decide +kernel
theorem dX7_add_31 : decode cX7_add 31 = .ok (.putfield 21, 3) := by decide +kernel
theorem dX7_add_34 : decode cX7_add 34 = .ok (.iconst 1, 1) := by decide +kernel
theorem dX7_add_35 : decode cX7_add 35 = .ok (.ireturn, 1) := by decide +kernel
theorem dX7_has_0 : decode cX7_has 0 = .ok (.iload_n 1, 1) := by decide +kernel
theorem dX7_has_1 : decode cX7_has 1 = .ok (.ifCond .lt 15, 3) := by decide +kernel
theorem dX7_has_4 : decode cX7_has 4 = .ok (.iload_n 1, 1) := by decide +kernel
theorem dX7_has_5 : decode cX7_has 5 = .ok (.aload_n 0, 1) := by decide +kernel
theorem dX7_has_6 : decode cX7_has 6 = .ok (.getfield 21, 3) := by decide +kernel
theorem dX7_has_9 : decode cX7_has 9 = .ok (.if_icmp .ge 7, 3) := by decide +kernel
theorem dX7_has_12 : decode cX7_has 12 = .ok (.iconst 1, 1) := by decide +kernel
theorem dX7_has_13 : decode cX7_has 13 = .ok (.goto 4, 3) := by decide +kernel
theorem dX7_has_16 : decode cX7_has 16 = .ok (.iconst 0, 1) := by decide +kernel
theorem dX7_has_17 : decode cX7_has 17 = .ok (.ireturn, 1) := by decide +kernel
theorem dX7_copyFrom_0 : decode cX7_copyFrom 0 = .ok (.aload_n 0, 1) := by decide +kernel
theorem dX7_copyFrom_1 : decode cX7_copyFrom 1 = .ok (.aload_n 1, 1) := by decide +kernel
theorem dX7_copyFrom_2 : decode cX7_copyFrom 2 = .ok (.getfield 21, 3) := by decide +kernel
theorem dX7_copyFrom_5 : decode cX7_copyFrom 5 = .ok (.aload_n 0, 1) := by decide +kernel
theorem dX7_copyFrom_6 : decode cX7_copyFrom 6 = .ok (.getfield 15, 3) := by decide +kernel
theorem dX7_copyFrom_9 : decode cX7_copyFrom 9 = .ok (.arraylength, 1) := by decide +kernel
theorem dX7_copyFrom_10 : decode cX7_copyFrom 10 = .ok (.invokestatic 25, 3) := by decide +kernel
theorem dX7_copyFrom_13 : decode cX7_copyFrom 13 = .ok (.putfield 21, 3) := by decide +kernel
theorem dX7_copyFrom_16 : decode cX7_copyFrom 16 = .ok (.aload_n 1, 1) := by decide +kernel
theorem dX7_copyFrom_17 : decode cX7_copyFrom 17 = .ok (.getfield 15, 3) := by decide +kernel
theorem dX7_copyFrom_20 : decode cX7_copyFrom 20 = .ok (.iconst 0, 1) := by decide +kernel
theorem dX7_copyFrom_21 : decode cX7_copyFrom 21 = .ok (.aload_n 0, 1) := by decide +kernel
theorem dX7_copyFrom_22 : decode cX7_copyFrom 22 = .ok (.getfield 15, 3) := by decide +kernel
theorem dX7_copyFrom_25 : decode cX7_copyFrom 25 = .ok (.iconst 0, 1) := by decide +kernel
theorem dX7_copyFrom_26 : decode cX7_copyFrom 26 = .ok (.aload_n 0, 1) := by decide +kernel
theorem dX7_copyFrom_27 : decode cX7_copyFrom 27 = .ok (.getfield 21, 3) := by decide +kernel
theorem dX7_copyFrom_30 : decode cX7_copyFrom 30 = .ok (.invokestatic 28, 3) := by decide +kernel
theorem dX7_copyFrom_33 : decode cX7_copyFrom 33 = .ok (.return_, 1) := by decide +kernel
theorem dX7_fillWithZeros_0 : decode cX7_fillWithZeros 0 = .ok (.aload_n 0, 1) := by decide +kernel
theorem dX7_fillWithZeros_1 : decode cX7_fillWithZeros 1 = .ok (.iconst 0, 1) := by decide +kernel
theorem dX7_fillWithZeros_2 : decode cX7_fillWithZeros 2 = .ok (.iload_n 1, 1) := by decide +kernel
theorem dX7_fillWithZeros_3 : decode cX7_fillWithZeros 3 = .ok (.aload_n 0, 1) := by decide +kernel
theorem dX7_fillWithZeros_4 : decode cX7_fillWithZeros 4 = .ok (.getfield 15, 3) := by decide +kernel
theorem dX7_fillWithZeros_7 : decode cX7_fillWithZeros 7 = .ok (.arraylength, 1) := by decide +kernel
theorem dX7_fillWithZeros_8 : decode cX7_fillWithZeros 8 = .ok (.invokestatic 25, 3) := by decide +kernel
theorem dX7_fillWithZeros_11 : decode cX7_fillWithZeros 11 = .ok (.invokestatic 9, 3) := by decide +kernel
theorem dX7_fillWithZeros_14 : decode cX7_fillWithZeros 14 = .ok (.putfield 21, 3) := by decide +kernel
theorem dX7_fillWithZeros_17 : decode cX7_fillWithZeros 17 = .ok (.iconst 0, 1) := by decide +kernel
theorem dX7_fillWithZeros_18 : decode cX7_fillWithZeros 18 = .ok (.istore_n 2, 1) := by decide +kernel
theorem dX7_fillWithZeros_19 : decode cX7_fillWithZeros 19 = .ok (.iload_n 2, 1) := by decide +kernel
theorem dX7_fillWithZeros_20 : decode cX7_fillWithZeros 20 = .ok (.aload_n 0, 1) := by decide +kernel
theorem dX7_fillWithZeros_21 : decode cX7_fillWithZeros 21 = .ok (.getfield 21, 3) := by decide +kernel
theorem dX7_fillWithZeros_24 : decode cX7_fillWithZeros 24 = .ok (.if_icmp .ge 16, 3) := by decide +kernel
theorem dX7_fillWithZeros_27 : decode cX7_fillWithZeros 27 = .ok (.aload_n 0, 1) := by decide +kernel
theorem dX7_fillWithZeros_28 : decode cX7_fillWithZeros 28 = .ok (.getfield 15, 3) := by decide +kernel
theorem dX7_fillWithZeros_31 : decode cX7_fillWithZeros 31 = .ok (.iload_n 2, 1) := by decide +kernel
theorem dX7_fillWithZeros_32 : decode cX7_fillWithZeros 32 = .ok (.iconst 0, 1) := by decide +kernel
theorem dX7_fillWithZeros_33 : decode cX7_fillWithZeros 33 = .ok (.iastore, 1) := by decide +kernel
theorem dX7_fillWithZeros_34 : decode cX7_fillWithZeros 34 = .ok (.iinc 2 1, 3) := by decide +kernel
theorem dX7_fillWithZeros_37 : decode cX7_fillWithZeros 37 = .ok (.goto (-18), 3) := by decide +kernel
theorem dX7_fillWithZeros_40 : decode cX7_fillWithZeros 40 = .ok (.return_, 1) := by decide +kernel
theorem dX7_mismatch_0 : decode cX7_mismatch 0 = .ok (.aload_n 0, 1) := by decide +kernel
theorem dX7_mismatch_1 : decode cX7_mismatch 1 = .ok (.getfield 21, 3) := by decide +kernel
theorem dX7_mismatch_4 : decode cX7_mismatch 4 = .ok (.aload_n 1, 1) := by decide +kernel
theorem dX7_mismatch_5 : decode cX7_mismatch 5 = .ok (.getfield 21, 3) := by decide +kernel
theorem dX7_mismatch_8 : decode cX7_mismatch 8 = .ok (.invokestatic 25, 3) := by decide +kernel
theorem dX7_mismatch_11 : decode cX7_mismatch 11 = .ok (.istore_n 2, 1) := by decide +kernel
theorem dX7_mismatch_12 : decode cX7_mismatch 12 = .ok (.iconst 0, 1) := by decide +kernel
theorem dX7_mismatch_13 : decode cX7_mismatch 13 = .ok (.istore_n 3, 1) := by decide +kernel
theorem dX7_mismatch_14 : decode cX7_mismatch 14 = .ok (.iload_n 3, 1) := by decide +kernel
theorem dX7_mismatch_15 : decode cX7_mismatch 15 = .ok (.iload_n 2, 1) := by decide +kernel
theorem dX7_mismatch_16 : decode cX7_mismatch 16 = .ok (.if_icmp .ge 26, 3) := by decide +kernel
theorem dX7_mismatch_19 : decode cX7_mismatch 19 = .ok (.aload_n 0, 1) := by decide +kernel
theorem dX7_mismatch_20 : decode cX7_mismatch 20 = .ok (.getfield 15, 3) := by decide +kernel
theorem dX7_mismatch_23 : decode cX7_mismatch 23 = .ok (.iload_n 3, 1) := by decide +kernel
theorem dX7_mismatch_24 : decode cX7_mismatch 24 = .ok (.iaload, 1) := by decide +kernel
theorem dX7_mismatch_25 : decode cX7_mismatch 25 = .ok (.aload_n 1, 1) := by decide +kernel
theorem dX7_mismatch_26 : decode cX7_mismatch 26 = .ok (.getfield 15, 3) := by decide +kernel
theorem dX7_mismatch_29 : decode cX7_mismatch 29 = .ok (.iload_n 3, 1) := by decide +kernel
theorem dX7_mismatch_30 : decode cX7_mismatch 30 = .ok (.iaload, 1) := by decide +kernel
theorem dX7_mismatch_31 : decode cX7_mismatch 31 = .ok (.if_icmp .eq 5, 3) := by decide +kernel
theorem dX7_mismatch_34 : decode cX7_mismatch 34 = .ok (.iload_n 3, 1) := by decide +kernel
theorem dX7_mismatch_35 : decode cX7_mismatch 35 = .ok (.ireturn, 1) := by decide +kernel
theorem dX7_mismatch_36 : decode cX7_mismatch 36 = .ok (.iinc 3 1, 3) := by decide +kernel
theorem dX7_mismatch_39 : decode cX7_mismatch 39 = .ok (.goto (-25), 3) := by decide +kernel
theorem dX7_mismatch_42 : decode cX7_mismatch 42 = .ok (.aload_n 0, 1) := by decide +kernel
theorem dX7_mismatch_43 : decode cX7_mismatch 43 = .ok (.getfield 21, 3) := by decide +kernel
theorem dX7_mismatch_46 : decode cX7_mismatch 46 = .ok (.aload_n 1, 1) := by decide +kernel
theorem dX7_mismatch_47 : decode cX7_mismatch 47 = .ok (.getfield 21, 3) := by decide +kernel
theorem dX7_mismatch_50 : decode cX7_mismatch 50 = .ok (.if_icmp .ne 8, 3) := by decide +kernel
theorem dX7_mismatch_53 : decode cX7_mismatch 53 = .ok (.bipush (-2), 2) := by decide +kernel
theorem dX7_mismatch_55 : decode cX7_mismatch 55 = .ok (.goto 4, 3) := by decide +kernel
theorem dX7_mismatch_58 : decode cX7_mismatch 58 = .ok (.iload_n 2, 1) := by decide +kernel
theorem dX7_mismatch_59 : decode cX7_mismatch 59 = .ok (.ireturn, 1) := by decide +kernel
theorem dX8_init_0 : decode cX8_init 0 = .ok (.aload_n 0, 1) := by decide +kernel
theorem dX8_init_1 : decode cX8_init 1 = .ok (.invokespecial 3, 3) := by decide +kernel
theorem dX8_init_4 : decode cX8_init 4 = .ok (.aload_n 0, 1) := by decide +kernel
theorem dX8_init_5 : decode cX8_init 5 = .ok (.iconst 0, 1) := by decide +kernel
theorem dX8_init_6 : decode cX8_init 6 = .ok (.putfield 11, 3) := by decide +kernel
theorem dX8_init_9 : decode cX8_init 9 = .ok (.aload_n 0, 1) := by decide +kernel
theorem dX8_init_10 : decode cX8_init 10 = .ok (.new 15, 3) := by decide +kernel
theorem dX8_init_13 : decode cX8_init 13 = .ok (.dup, 1) := by decide +kernel
theorem dX8_init_14 : decode cX8_init 14 = .ok (.bipush 30, 2) := by decide +kernel
theorem dX8_init_16 : decode cX8_init 16 = .ok (.invokespecial 17, 3) := by decide +kernel
theorem dX8_init_19 : decode cX8_init 19 = .ok (.putfield 20, 3) := by decide +kernel
theorem dX8_init_22 : decode cX8_init 22 = .ok (.return_, 1) := by decide +kernel
theorem dX9_init_0 : decode cX9_init 0 = .ok (.aload_n 0, 1) := by decide +kernel
theorem dX9_init_1 : decode cX9_init 1 = .ok (.invokespecial 3, 3) := by decide +kernel
theorem dX9_init_4 : decode cX9_init 4 = .ok (.aload_n 0, 1) := by decide +kernel
theorem dX9_init_5 : decode cX9_init 5 = .ok (.iconst 0, 1) := by decide +kernel
theorem dX9_init_6 : decode cX9_init 6 = .ok (.putfield 9, 3) := by decide +kernel
theorem dX9_init_9 : decode cX9_init 9 = .ok (.aload_n 0, 1) := by decide +kernel
theorem dX9_init_10 : decode cX9_init 10 = .ok (.new 15, 3) := by decide +kernel
theorem dX9_init_13 : decode cX9_init 13 = .ok (.dup, 1) := by decide +kernel
theorem dX9_init_14 : decode cX9_init 14 = .ok (.bipush 24, 2) := by decide +kernel
theorem dX9_init_16 : decode cX9_init 16 = .ok (.invokespecial 17, 3) := by decide +kernel
theorem dX9_init_19 : decode cX9_init 19 = .ok (.putfield 20, 3) := by decide +kernel
theorem dX9_init_22 : decode cX9_init 22 = .ok (.return_, 1) := by decide +kernel
theorem dX10_init_0 : decode cX10_init 0 = .ok (.aload_n 0, 1) := by decide +kernel
theorem dX10_init_1 : decode cX10_init 1 = .ok (.invokespecial 3, 3) := by decide +kernel
theorem dX10_init_4 : decode cX10_init 4 = .ok (.aload_n 0, 1) := by decide +kernel
theorem dX10_init_5 : decode cX10_init 5 = .ok (.bipush 8, 2) := by decide +kernel
theorem dX10_init_7 : decode cX10_init 7 = .ok (.newarray .int, 2) := by decide +kernel
theorem dX10_init_9 : decode cX10_init 9 = .ok (.putfield 11, 3) := by decide +kernel
theorem dX10_init_12 : decode cX10_init 12 = .ok (.aload_n 0, 1) := by decide +kernel
theorem dX10_init_13 : decode cX10_init 13 = .ok (.bipush 8, 2) := by decide +kernel
theorem dX10_init_15 : decode cX10_init 15 = .ok (.newarray .int, 2) := by decide +kernel
theorem dX10_init_17 : decode cX10_init 17 = .ok (.putfield 15, 3) := by decide +kernel
theorem dX10_init_20 : decode cX10_init 20 = .ok (.aload_n 0, 1) := by decide +kernel
theorem dX10_init_21 : decode cX10_init 21 = .ok (.bipush 8, 2) := by decide +kernel
theorem dX10_init_23 : decode cX10_init 23 = .ok (.newarray .int, 2) := by decide +kernel
theorem dX10_init_25 : decode cX10_init 25 = .ok (.putfield 18, 3) := by decide +kernel
theorem dX10_init_28 : decode cX10_init 28 = .ok (.aload_n 0, 1) := by decide +kernel
theorem dX10_init_29 : decode cX10_init 29 = .ok (.bipush 8, 2) := by decide +kernel
theorem dX10_init_31 : decode cX10_init 31 = .ok (.newarray .int, 2) := by decide +kernel
theorem dX10_init_33 : decode cX10_init 33 = .ok (.putfield 21, 3) := by decide +kernel
theorem dX10_init_36 : decode cX10_init 36 = .ok (.aload_n 0, 1) := by decide +kernel
theorem dX10_init_37 : decode cX10_init 37 = .ok (.iconst 0, 1) := by decide +kernel
theorem dX10_init_38 : decode cX10_init 38 = .ok (.putfield 24, 3) := by decide +kernel
theorem dX10_init_41 : decode cX10_init 41 = .ok (.return_, 1) := by decide +kernel
theorem dX10_add_0 : decode cX10_add 0 = .ok (.aload_n 0, 1) := by decide +kernel
theorem dX10_add_1 : decode cX10_add 1 = .ok (.getfield 24, 3) := by decide +kernel
theorem dX10_add_4 : decode cX10_add 4 = .ok (.bipush 8, 2) := by decide +kernel
theorem dX10_add_6 : decode cX10_add 6 = .ok (.if_icmp .ne 6, 3) := by decide +kernel
theorem dX10_add_9 : decode cX10_add 9 = .ok (.bipush (-3), 2) := by decide +kernel
theorem dX10_add_11 : decode cX10_add 11 = .ok (.ireturn, 1) := by decide +kernel
theorem dX10_add_12 : decode cX10_add 12 = .ok (.aload_n 0, 1) := by decide +kernel
theorem dX10_add_13 : decode cX10_add 13 = .ok (.getfield 24, 3) := by decide +kernel
theorem dX10_add_16 : decode cX10_add 16 = .ok (.istore 4, 2) := by decide +kernel
theorem dX10_add_18 : decode cX10_add 18 = .ok (.aload_n 0, 1) := by decide +kernel
theorem dX10_add_19 : decode cX10_add 19 = .ok (.getfield 11, 3) := by decide +kernel
theorem dX10_add_22 : decode cX10_add 22 = .ok (.iload 4, 2) := by decide +kernel
theorem dX10_add_24 : decode cX10_add 24 = .ok (.iload_n 1, 1) := by decide +kernel
theorem dX10_add_25 : decode cX10_add 25 = .ok (.iastore, 1) := by decide +kernel
theorem dX10_add_26 : decode cX10_add 26 = .ok (.aload_n 0, 1) := by decide +kernel
theorem dX10_add_27 : decode cX10_add 27 = .ok (.getfield 15, 3) := by decide +kernel
theorem dX10_add_30 : decode cX10_add 30 = .ok (.iload 4, 2) := by decide +kernel
theorem dX10_add_32 : decode cX10_add 32 = .ok (.iload_n 2, 1) := by decide +kernel
theorem dX10_add_33 : decode cX10_add 33 = .ok (.iastore, 1) := by decide +kernel
theorem dX10_add_34 : decode cX10_add 34 = .ok (.aload_n 0, 1) := by decide +kernel
theorem dX10_add_35 : decode cX10_add 35 = .ok (.getfield 18, 3) := by decide +kernel
theorem dX10_add_38 : decode cX10_add 38 = .ok (.iload 4, 2) := by decide +kernel
theorem dX10_add_40 : decode cX10_add 40 = .ok (.iload_n 3, 1) := by decide +kernel
theorem dX10_add_41 : decode cX10_add 41 = .ok (.iastore, 1) := by decide +kernel
theorem dX10_add_42 : decode cX10_add 42 = .ok (.aload_n 0, 1) := by decide +kernel
theorem dX10_add_43 : decode cX10_add 43 = .ok (.getfield 21, 3) := by decide +kernel
theorem dX10_add_46 : decode cX10_add 46 = .ok (.iload 4, 2) := by decide +kernel
theorem dX10_add_48 : decode cX10_add 48 = .ok (.iconst 1, 1) := by decide +kernel
theorem dX10_add_49 : decode cX10_add 49 = .ok (.iload 4, 2) := by decide +kernel
theorem dX10_add_51 : decode cX10_add 51 = .ok (.ishl, 1) := by decide +kernel
theorem dX10_add_52 : decode cX10_add 52 = .ok (.iastore, 1) := by decide +kernel
theorem dX10_add_53 : decode cX10_add 53 = .ok (.iload_n 1, 1) := by decide +kernel
theorem dX10_add_54 : decode cX10_add 54 = .ok (.iconst 5, 1) := by decide +kernel
theorem dX10_add_55 : decode cX10_add 55 = .ok (.if_icmp .eq 15, 3) := by decide +kernel
theorem dX10_add_58 : decode cX10_add 58 = .ok (.iload_n 1, 1) := by decide +kernel
theorem dX10_add_59 : decode cX10_add 59 = .ok (.bipush 6, 2) := by decide +kernel
theorem dX10_add_61 : decode cX10_add 61 = .ok (.if_icmp .eq 9, 3) := by decide +kernel
theorem dX10_add_64 : decode cX10_add 64 = .ok (.iload_n 1, 1) := by decide +kernel
theorem dX10_add_65 : decode cX10_add 65 = .ok (.bipush 7, 2) := by decide +kernel
theorem dX10_add_67 : decode cX10_add 67 = .ok (.if_icmp .ne 26, 3) := by decide +kernel
theorem dX10_add_70 : decode cX10_add 70 = .ok (.aload_n 0, 1) := by decide +kernel
theorem dX10_add_71 : decode cX10_add 71 = .ok (.getfield 21, 3) := by decide +kernel
theorem dX10_add_74 : decode cX10_add 74 = .ok (.iload 4, 2) := by decide +kernel
theorem dX10_add_76 : decode cX10_add 76 = .ok (.dup2, 1) := by decide +kernel
theorem dX10_add_77 : decode cX10_add 77 = .ok (.iaload, 1) := by decide +kernel
theorem dX10_add_78 : decode cX10_add 78 = .ok (.aload_n 0, 1) := by decide +kernel
theorem dX10_add_79 : decode cX10_add 79 = .ok (.getfield 21, 3) := by decide +kernel
theorem dX10_add_82 : decode cX10_add 82 = .ok (.iload_n 2, 1) := by decide +kernel
theorem dX10_add_83 : decode cX10_add 83 = .ok (.iaload, 1) := by decide +kernel
theorem dX10_add_84 : decode cX10_add 84 = .ok (.aload_n 0, 1) := by decide +kernel
theorem dX10_add_85 : decode cX10_add 85 = .ok (.getfield 21, 3) := by decide +kernel
theorem dX10_add_88 : decode cX10_add 88 = .ok (.iload_n 3, 1) := by decide +kernel
theorem dX10_add_89 : decode cX10_add 89 = .ok (.iaload, 1) := by decide +kernel
theorem dX10_add_90 : decode cX10_add 90 = .ok (.ior, 1) := by decide +kernel
theorem dX10_add_91 : decode cX10_add 91 = .ok (.ior, 1) := by decide +kernel
theorem dX10_add_92 : decode cX10_add 92 = .ok (.iastore, 1) := by decide +kernel
theorem dX10_add_93 : decode cX10_add 93 = .ok (.aload_n 0, 1) := by decide +kernel
theorem dX10_add_94 : decode cX10_add 94 = .ok (.dup, 1) := by decide +kernel
theorem dX10_add_95 : decode cX10_add 95 = .ok (.getfield 24, 3) := by decide +kernel
theorem dX10_add_98 : decode cX10_add 98 = .ok (.iconst 1, 1) := by decide +kernel
theorem dX10_add_99 : decode cX10_add 99 = .ok (.iadd, 1) := by decide +kernel
theorem dX10_add_100 : decode cX10_add 100 = .ok (.putfield 24, 3) := by decide +kernel
theorem dX10_add_103 : decode cX10_add 103 = .ok (.iload 4, 2) := by decide +kernel
theorem dX10_add_105 : decode cX10_add 105 = .ok (.ireturn, 1) := by decide +kernel
theorem dX10_accepts_0 : decode cX10_accepts 0 = .ok (.iconst 0, 1) := by decide +kernel
theorem dX10_accepts_1 : decode cX10_accepts 1 = .ok (.istore 4, 2) := by decide +kernel
theorem dX10_accepts_3 : decode cX10_accepts 3 = .ok (.iconst 0, 1) := by decide +kernel
theorem dX10_accepts_4 : decode cX10_accepts 4 = .ok (.istore 5, 2) := by decide +kernel
theorem dX10_accepts_6 : decode cX10_accepts 6 = .ok (.iload 5, 2) := by decide +kernel
theorem dX10_accepts_8 : decode cX10_accepts 8 = .ok (.iload_n 1, 1) := by decide +kernel
theorem dX10_accepts_9 : decode cX10_accepts 9 = .ok (.if_icmp .gt 45, 3) := by decide +kernel
theorem dX10_accepts_12 : decode cX10_accepts 12 = .ok (.aload_n 0, 1) := by decide +kernel
theorem dX10_accepts_13 : decode cX10_accepts 13 = .ok (.getfield 21, 3) := by decide +kernel
theorem dX10_accepts_16 : decode cX10_accepts 16 = .ok (.iload_n 1, 1) := by decide +kernel
theorem dX10_accepts_17 : decode cX10_accepts 17 = .ok (.iaload, 1) := by decide +kernel
theorem dX10_accepts_18 : decode cX10_accepts 18 = .ok (.iload 5, 2) := by decide +kernel
theorem dX10_accepts_20 : decode cX10_accepts 20 = .ok (.ishr, 1) := by decide +kernel
theorem dX10_accepts_21 : decode cX10_accepts 21 = .ok (.iconst 1, 1) := by decide +kernel
theorem dX10_accepts_22 : decode cX10_accepts 22 = .ok (.iand, 1) := by decide +kernel
theorem dX10_accepts_23 : decode cX10_accepts 23 = .ok (.ifCond .eq 25, 3) := by decide +kernel
theorem dX10_accepts_26 : decode cX10_accepts 26 = .ok (.aload_n 0, 1) := by decide +kernel
theorem dX10_accepts_27 : decode cX10_accepts 27 = .ok (.iload 5, 2) := by decide +kernel
theorem dX10_accepts_29 : decode cX10_accepts 29 = .ok (.iload_n 2, 1) := by decide +kernel
theorem dX10_accepts_30 : decode cX10_accepts 30 = .ok (.iload 4, 2) := by decide +kernel
theorem dX10_accepts_32 : decode cX10_accepts 32 = .ok (.aload_n 3, 1) := by decide +kernel
theorem dX10_accepts_33 : decode cX10_accepts 33 = .ok (.invokevirtual 28, 3) := by decide +kernel
theorem dX10_accepts_36 : decode cX10_accepts 36 = .ok (.ifCond .eq 12, 3) := by decide +kernel
theorem dX10_accepts_39 : decode cX10_accepts 39 = .ok (.iload 4, 2) := by decide +kernel
theorem dX10_accepts_41 : decode cX10_accepts 41 = .ok (.iconst 1, 1) := by decide +kernel
theorem dX10_accepts_42 : decode cX10_accepts 42 = .ok (.iload 5, 2) := by decide +kernel
theorem dX10_accepts_44 : decode cX10_accepts 44 = .ok (.ishl, 1) := by decide +kernel
theorem dX10_accepts_45 : decode cX10_accepts 45 = .ok (.ior, 1) := by decide +kernel
theorem dX10_accepts_46 : decode cX10_accepts 46 = .ok (.istore 4, 2) := by decide +kernel
theorem dX10_accepts_48 : decode cX10_accepts 48 = .ok (.iinc 5 1, 3) := by decide +kernel
theorem dX10_accepts_51 : decode cX10_accepts 51 = .ok (.goto (-45), 3) := by decide +kernel
theorem dX10_accepts_54 : decode cX10_accepts 54 = .ok (.iload 4, 2) := by decide +kernel
theorem dX10_accepts_56 : decode cX10_accepts 56 = .ok (.iload_n 1, 1) := by decide +kernel
theorem dX10_accepts_57 : decode cX10_accepts 57 = .ok (.ishr, 1) := by decide +kernel
theorem dX10_accepts_58 : decode cX10_accepts 58 = .ok (.iconst 1, 1) := by decide +kernel
theorem dX10_accepts_59 : decode cX10_accepts 59 = .ok (.iand, 1) := by decide +kernel
theorem dX10_accepts_60 : decode cX10_accepts 60 = .ok (.ifCond .eq 7, 3) := by decide +kernel
theorem dX10_accepts_63 : decode cX10_accepts 63 = .ok (.iconst 1, 1) := by decide +kernel
theorem dX10_accepts_64 : decode cX10_accepts 64 = .ok (.goto 4, 3) := by decide +kernel
theorem dX10_accepts_67 : decode cX10_accepts 67 = .ok (.iconst 0, 1) := by decide +kernel
theorem dX10_accepts_68 : decode cX10_accepts 68 = .ok (.ireturn, 1) := by decide +kernel
theorem dX10_holds_0 : decode cX10_holds 0 = .ok (.aload_n 0, 1) := by decide +kernel
theorem dX10_holds_1 : decode cX10_holds 1 = .ok (.getfield 15, 3) := by decide +kernel
theorem dX10_holds_4 : decode cX10_holds 4 = .ok (.iload_n 1, 1) := by decide +kernel
theorem dX10_holds_5 : decode cX10_holds 5 = .ok (.iaload, 1) := by decide +kernel
theorem dX10_holds_6 : decode cX10_holds 6 = .ok (.istore 5, 2) := by decide +kernel
theorem dX10_holds_8 : decode cX10_holds 8 = .ok (.aload_n 0, 1) := by decide +kernel
theorem dX10_holds_9 : decode cX10_holds 9 = .ok (.getfield 18, 3) := by decide +kernel
theorem dX10_holds_12 : decode cX10_holds 12 = .ok (.iload_n 1, 1) := by decide +kernel
theorem dX10_holds_13 : decode cX10_holds 13 = .ok (.iaload, 1) := by decide +kernel
theorem dX10_holds_14 : decode cX10_holds 14 = .ok (.istore 6, 2) := by decide +kernel
theorem dX10_holds_16 : decode cX10_holds 16 = .ok (.aload_n 0, 1) := by decide +kernel
theorem dX10_holds_17 : decode cX10_holds 17 = .ok (.getfield 11, 3) := by decide +kernel
theorem dX10_holds_20 : decode cX10_holds 20 = .ok (.iload_n 1, 1) := by decide +kernel
theorem dX10_holds_21 : decode cX10_holds 21 = .ok (.iaload, 1) := by decide +kernel
theorem dX10_holds_22 : decode cX10_holds 22 = .ok (.tableswitch 162 0 6 #[42, 57, 74, 88, 105, 122, 142], 42) := by decide +kernel
theorem dX10_holds_64 : decode cX10_holds 64 = .ok (.iload_n 2, 1) := by decide +kernel
theorem dX10_holds_65 : decode cX10_holds 65 = .ok (.invokestatic 32, 3) := by decide +kernel
theorem dX10_holds_68 : decode cX10_holds 68 = .ok (.iload 5, 2) := by decide +kernel
theorem dX10_holds_70 : decode cX10_holds 70 = .ok (.if_icmp .ne 7, 3) := by decide +kernel
theorem dX10_holds_73 : decode cX10_holds 73 = .ok (.iconst 1, 1) := by decide +kernel
theorem dX10_holds_74 : decode cX10_holds 74 = .ok (.goto 4, 3) := by decide +kernel
theorem dX10_holds_77 : decode cX10_holds 77 = .ok (.iconst 0, 1) := by decide +kernel
theorem dX10_holds_78 : decode cX10_holds 78 = .ok (.ireturn, 1) := by decide +kernel
theorem dX10_holds_79 : decode cX10_holds 79 = .ok (.iload_n 2, 1) := by decide +kernel
theorem dX10_holds_80 : decode cX10_holds 80 = .ok (.iload 5, 2) := by decide +kernel
theorem dX10_holds_82 : decode cX10_holds 82 = .ok (.invokestatic 38, 3) := by decide +kernel
theorem dX10_holds_85 : decode cX10_holds 85 = .ok (.iload 6, 2) := by decide +kernel
theorem dX10_holds_87 : decode cX10_holds 87 = .ok (.if_icmp .lt 7, 3) := by decide +kernel
theorem dX10_holds_90 : decode cX10_holds 90 = .ok (.iconst 1, 1) := by decide +kernel
theorem dX10_holds_91 : decode cX10_holds 91 = .ok (.goto 4, 3) := by decide +kernel
theorem dX10_holds_94 : decode cX10_holds 94 = .ok (.iconst 0, 1) := by decide +kernel
theorem dX10_holds_95 : decode cX10_holds 95 = .ok (.ireturn, 1) := by decide +kernel
theorem dX10_holds_96 : decode cX10_holds 96 = .ok (.iload_n 2, 1) := by decide +kernel
theorem dX10_holds_97 : decode cX10_holds 97 = .ok (.sipush (-5462), 3) := by decide +kernel
theorem dX10_holds_100 : decode cX10_holds 100 = .ok (.iand, 1) := by decide +kernel
theorem dX10_holds_101 : decode cX10_holds 101 = .ok (.ifCond .ne 7, 3) := by decide +kernel
theorem dX10_holds_104 : decode cX10_holds 104 = .ok (.iconst 1, 1) := by decide +kernel
theorem dX10_holds_105 : decode cX10_holds 105 = .ok (.goto 4, 3) := by decide +kernel
theorem dX10_holds_108 : decode cX10_holds 108 = .ok (.iconst 0, 1) := by decide +kernel
theorem dX10_holds_109 : decode cX10_holds 109 = .ok (.ireturn, 1) := by decide +kernel
theorem dX10_holds_110 : decode cX10_holds 110 = .ok (.aload 4, 2) := by decide +kernel
theorem dX10_holds_112 : decode cX10_holds 112 = .ok (.iload_n 2, 1) := by decide +kernel
theorem dX10_holds_113 : decode cX10_holds 113 = .ok (.invokevirtual 42, 3) := by decide +kernel
theorem dX10_holds_116 : decode cX10_holds 116 = .ok (.iload 5, 2) := by decide +kernel
theorem dX10_holds_118 : decode cX10_holds 118 = .ok (.if_icmp .lt 7, 3) := by decide +kernel
theorem dX10_holds_121 : decode cX10_holds 121 = .ok (.iconst 1, 1) := by decide +kernel
theorem dX10_holds_122 : decode cX10_holds 122 = .ok (.goto 4, 3) := by decide +kernel
theorem dX10_holds_125 : decode cX10_holds 125 = .ok (.iconst 0, 1) := by decide +kernel
theorem dX10_holds_126 : decode cX10_holds 126 = .ok (.ireturn, 1) := by decide +kernel
theorem dX10_holds_127 : decode cX10_holds 127 = .ok (.aload 4, 2) := by decide +kernel
theorem dX10_holds_129 : decode cX10_holds 129 = .ok (.iload_n 2, 1) := by decide +kernel
theorem dX10_holds_130 : decode cX10_holds 130 = .ok (.invokevirtual 47, 3) := by decide +kernel
theorem dX10_holds_133 : decode cX10_holds 133 = .ok (.iload 5, 2) := by decide +kernel
theorem dX10_holds_135 : decode cX10_holds 135 = .ok (.if_icmp .lt 7, 3) := by decide +kernel
theorem dX10_holds_138 : decode cX10_holds 138 = .ok (.iconst 1, 1) := by decide +kernel
theorem dX10_holds_139 : decode cX10_holds 139 = .ok (.goto 4, 3) := by decide +kernel
theorem dX10_holds_142 : decode cX10_holds 142 = .ok (.iconst 0, 1) := by decide +kernel
theorem dX10_holds_143 : decode cX10_holds 143 = .ok (.ireturn, 1) := by decide +kernel
theorem dX10_holds_144 : decode cX10_holds 144 = .ok (.iload_n 3, 1) := by decide +kernel
theorem dX10_holds_145 : decode cX10_holds 145 = .ok (.iload 5, 2) := by decide +kernel
theorem dX10_holds_147 : decode cX10_holds 147 = .ok (.ishr, 1) := by decide +kernel
theorem dX10_holds_148 : decode cX10_holds 148 = .ok (.iload_n 3, 1) := by decide +kernel
theorem dX10_holds_149 : decode cX10_holds 149 = .ok (.iload 6, 2) := by decide +kernel
theorem dX10_holds_151 : decode cX10_holds 151 = .ok (.ishr, 1) := by decide +kernel
theorem dX10_holds_152 : decode cX10_holds 152 = .ok (.iand, 1) := by decide +kernel
theorem dX10_holds_153 : decode cX10_holds 153 = .ok (.iconst 1, 1) := by decide +kernel
theorem dX10_holds_154 : decode cX10_holds 154 = .ok (.iand, 1) := by decide +kernel
theorem dX10_holds_155 : decode cX10_holds 155 = .ok (.ifCond .eq 7, 3) := by decide +kernel
theorem dX10_holds_158 : decode cX10_holds 158 = .ok (.iconst 1, 1) := by decide +kernel
theorem dX10_holds_159 : decode cX10_holds 159 = .ok (.goto 4, 3) := by decide +kernel
theorem dX10_holds_162 : decode cX10_holds 162 = .ok (.iconst 0, 1) := by decide +kernel
theorem dX10_holds_163 : decode cX10_holds 163 = .ok (.ireturn, 1) := by decide +kernel
theorem dX10_holds_164 : decode cX10_holds 164 = .ok (.iload_n 3, 1) := by decide +kernel
theorem dX10_holds_165 : decode cX10_holds 165 = .ok (.iload 5, 2) := by decide +kernel
theorem dX10_holds_167 : decode cX10_holds 167 = .ok (.ishr, 1) := by decide +kernel
theorem dX10_holds_168 : decode cX10_holds 168 = .ok (.iload_n 3, 1) := by decide +kernel
theorem dX10_holds_169 : decode cX10_holds 169 = .ok (.iload 6, 2) := by decide +kernel
theorem dX10_holds_171 : decode cX10_holds 171 = .ok (.ishr, 1) := by decide +kernel
theorem dX10_holds_172 : decode cX10_holds 172 = .ok (.ior, 1) := by decide +kernel
theorem dX10_holds_173 : decode cX10_holds 173 = .ok (.iconst 1, 1) := by decide +kernel
theorem dX10_holds_174 : decode cX10_holds 174 = .ok (.iand, 1) := by decide +kernel
theorem dX10_holds_175 : decode cX10_holds 175 = .ok (.ifCond .eq 7, 3) := by decide +kernel
theorem dX10_holds_178 : decode cX10_holds 178 = .ok (.iconst 1, 1) := by decide +kernel
theorem dX10_holds_179 : decode cX10_holds 179 = .ok (.goto 4, 3) := by decide +kernel
theorem dX10_holds_182 : decode cX10_holds 182 = .ok (.iconst 0, 1) := by decide +kernel
theorem dX10_holds_183 : decode cX10_holds 183 = .ok (.ireturn, 1) := by decide +kernel
theorem dX10_holds_184 : decode cX10_holds 184 = .ok (.iload_n 3, 1) := by decide +kernel
theorem dX10_holds_185 : decode cX10_holds 185 = .ok (.iload 5, 2) := by decide +kernel
theorem dX10_holds_187 : decode cX10_holds 187 = .ok (.ishr, 1) := by decide +kernel
theorem dX10_holds_188 : decode cX10_holds 188 = .ok (.iconst 1, 1) := by decide +kernel
theorem dX10_holds_189 : decode cX10_holds 189 = .ok (.iand, 1) := by decide +kernel
theorem dX10_holds_190 : decode cX10_holds 190 = .ok (.ifCond .ne 7, 3) := by decide +kernel
theorem dX10_holds_193 : decode cX10_holds 193 = .ok (.iconst 1, 1) := by decide +kernel
theorem dX10_holds_194 : decode cX10_holds 194 = .ok (.goto 4, 3) := by decide +kernel
theorem dX10_holds_197 : decode cX10_holds 197 = .ok (.iconst 0, 1) := by decide +kernel
theorem dX10_holds_198 : decode cX10_holds 198 = .ok (.ireturn, 1) := by decide +kernel
theorem dX11_init_0 : decode cX11_init 0 = .ok (.aload_n 0, 1) := by decide +kernel
theorem dX11_init_1 : decode cX11_init 1 = .ok (.invokespecial 5, 3) := by decide +kernel
theorem dX11_init_4 : decode cX11_init 4 = .ok (.aload_n 0, 1) := by decide +kernel
theorem dX11_init_5 : decode cX11_init 5 = .ok (.new 11, 3) := by decide +kernel
theorem dX11_init_8 : decode cX11_init 8 = .ok (.dup, 1) := by decide +kernel
theorem dX11_init_9 : decode cX11_init 9 = .ok (.invokespecial 13, 3) := by decide +kernel
theorem dX11_init_12 : decode cX11_init 12 = .ok (.putfield 14, 3) := by decide +kernel
theorem dX11_init_15 : decode cX11_init 15 = .ok (.aload_n 0, 1) := by decide +kernel
theorem dX11_init_16 : decode cX11_init 16 = .ok (.new 18, 3) := by decide +kernel
theorem dX11_init_19 : decode cX11_init 19 = .ok (.dup, 1) := by decide +kernel
theorem dX11_init_20 : decode cX11_init 20 = .ok (.aload_n 0, 1) := by decide +kernel
theorem dX11_init_21 : decode cX11_init 21 = .ok (.getfield 14, 3) := by decide +kernel
theorem dX11_init_24 : decode cX11_init 24 = .ok (.invokespecial 20, 3) := by decide +kernel
theorem dX11_init_27 : decode cX11_init 27 = .ok (.putfield 23, 3) := by decide +kernel
theorem dX11_init_30 : decode cX11_init 30 = .ok (.aload_n 0, 1) := by decide +kernel
theorem dX11_init_31 : decode cX11_init 31 = .ok (.new 27, 3) := by decide +kernel
theorem dX11_init_34 : decode cX11_init 34 = .ok (.dup, 1) := by decide +kernel
theorem dX11_init_35 : decode cX11_init 35 = .ok (.aload_n 0, 1) := by decide +kernel
theorem dX11_init_36 : decode cX11_init 36 = .ok (.getfield 14, 3) := by decide +kernel
theorem dX11_init_39 : decode cX11_init 39 = .ok (.aload_n 0, 1) := by decide +kernel
theorem dX11_init_40 : decode cX11_init 40 = .ok (.getfield 23, 3) := by decide +kernel
theorem dX11_init_43 : decode cX11_init 43 = .ok (.invokespecial 29, 3) := by decide +kernel
theorem dX11_init_46 : decode cX11_init 46 = .ok (.putfield 32, 3) := by decide +kernel
theorem dX11_init_49 : decode cX11_init 49 = .ok (.aload_n 0, 1) := by decide +kernel
theorem dX11_init_50 : decode cX11_init 50 = .ok (.new 36, 3) := by decide +kernel
theorem dX11_init_53 : decode cX11_init 53 = .ok (.dup, 1) := by decide +kernel
theorem dX11_init_54 : decode cX11_init 54 = .ok (.invokespecial 38, 3) := by decide +kernel
theorem dX11_init_57 : decode cX11_init 57 = .ok (.putfield 39, 3) := by decide +kernel
theorem dX11_init_60 : decode cX11_init 60 = .ok (.aload_n 0, 1) := by decide +kernel
theorem dX11_init_61 : decode cX11_init 61 = .ok (.new 43, 3) := by decide +kernel
theorem dX11_init_64 : decode cX11_init 64 = .ok (.dup, 1) := by decide +kernel
theorem dX11_init_65 : decode cX11_init 65 = .ok (.invokespecial 45, 3) := by decide +kernel
theorem dX11_init_68 : decode cX11_init 68 = .ok (.putfield 46, 3) := by decide +kernel
theorem dX11_init_71 : decode cX11_init 71 = .ok (.aload_n 0, 1) := by decide +kernel
theorem dX11_init_72 : decode cX11_init 72 = .ok (.new 50, 3) := by decide +kernel
theorem dX11_init_75 : decode cX11_init 75 = .ok (.dup, 1) := by decide +kernel
theorem dX11_init_76 : decode cX11_init 76 = .ok (.invokespecial 52, 3) := by decide +kernel
theorem dX11_init_79 : decode cX11_init 79 = .ok (.putfield 53, 3) := by decide +kernel
theorem dX11_init_82 : decode cX11_init 82 = .ok (.aload_n 0, 1) := by decide +kernel
theorem dX11_init_83 : decode cX11_init 83 = .ok (.new 57, 3) := by decide +kernel
theorem dX11_init_86 : decode cX11_init 86 = .ok (.dup, 1) := by decide +kernel
theorem dX11_init_87 : decode cX11_init 87 = .ok (.invokespecial 59, 3) := by decide +kernel
theorem dX11_init_90 : decode cX11_init 90 = .ok (.putfield 60, 3) := by decide +kernel
theorem dX11_init_93 : decode cX11_init 93 = .ok (.aload_n 0, 1) := by decide +kernel
theorem dX11_init_94 : decode cX11_init 94 = .ok (.iconst 4, 1) := by decide +kernel
theorem dX11_init_95 : decode cX11_init 95 = .ok (.anewarray 64, 3) := by decide +kernel
theorem dX11_init_98 : decode cX11_init 98 = .ok (.putfield 66, 3) := by decide +kernel
theorem dX11_init_101 : decode cX11_init 101 = .ok (.iconst 0, 1) := by decide +kernel
theorem dX11_init_102 : decode cX11_init 102 = .ok (.istore_n 1, 1) := by decide +kernel
theorem dX11_init_103 : decode cX11_init 103 = .ok (.iload_n 1, 1) := by decide +kernel
theorem dX11_init_104 : decode cX11_init 104 = .ok (.iconst 4, 1) := by decide +kernel
theorem dX11_init_105 : decode cX11_init 105 = .ok (.if_icmp .ge 22, 3) := by decide +kernel
theorem dX11_init_108 : decode cX11_init 108 = .ok (.aload_n 0, 1) := by decide +kernel
theorem dX11_init_109 : decode cX11_init 109 = .ok (.getfield 66, 3) := by decide +kernel
theorem dX11_init_112 : decode cX11_init 112 = .ok (.iload_n 1, 1) := by decide +kernel
theorem dX11_init_113 : decode cX11_init 113 = .ok (.new 64, 3) := by decide +kernel
theorem dX11_init_116 : decode cX11_init 116 = .ok (.dup, 1) := by decide +kernel
theorem dX11_init_117 : decode cX11_init 117 = .ok (.invokespecial 70, 3) := by decide +kernel
theorem dX11_init_120 : decode cX11_init 120 = .ok (.aastore, 1) := by decide +kernel
theorem dX11_init_121 : decode cX11_init 121 = .ok (.iinc 1 1, 3) := by decide +kernel
theorem dX11_init_124 : decode cX11_init 124 = .ok (.goto (-21), 3) := by decide +kernel
theorem dX11_init_127 : decode cX11_init 127 = .ok (.aload_n 0, 1) := by decide +kernel
theorem dX11_init_128 : decode cX11_init 128 = .ok (.new 71, 3) := by decide +kernel
theorem dX11_init_131 : decode cX11_init 131 = .ok (.dup, 1) := by decide +kernel
theorem dX11_init_132 : decode cX11_init 132 = .ok (.invokespecial 73, 3) := by decide +kernel
theorem dX11_init_135 : decode cX11_init 135 = .ok (.putfield 74, 3) := by decide +kernel
theorem dX11_init_138 : decode cX11_init 138 = .ok (.return_, 1) := by decide +kernel
theorem dX11_setVertexCount_0 : decode cX11_setVertexCount 0 = .ok (.iload_n 1, 1) := by decide +kernel
theorem dX11_setVertexCount_1 : decode cX11_setVertexCount 1 = .ok (.iconst 1, 1) := by decide +kernel
theorem dX11_setVertexCount_2 : decode cX11_setVertexCount 2 = .ok (.if_icmp .lt 9, 3) := by decide +kernel
theorem dX11_setVertexCount_5 : decode cX11_setVertexCount 5 = .ok (.iload_n 1, 1) := by decide +kernel
theorem dX11_setVertexCount_6 : decode cX11_setVertexCount 6 = .ok (.bipush 7, 2) := by decide +kernel
theorem dX11_setVertexCount_8 : decode cX11_setVertexCount 8 = .ok (.if_icmp .le 5, 3) := by decide +kernel
theorem dX11_setVertexCount_11 : decode cX11_setVertexCount 11 = .ok (.iconst (-1), 1) := by decide +kernel
theorem dX11_setVertexCount_12 : decode cX11_setVertexCount 12 = .ok (.ireturn, 1) := by decide +kernel
theorem dX11_setVertexCount_13 : decode cX11_setVertexCount 13 = .ok (.aload_n 0, 1) := by decide +kernel
theorem dX11_setVertexCount_14 : decode cX11_setVertexCount 14 = .ok (.getfield 14, 3) := by decide +kernel
theorem dX11_setVertexCount_17 : decode cX11_setVertexCount 17 = .ok (.getfield 78, 3) := by decide +kernel
theorem dX11_setVertexCount_20 : decode cX11_setVertexCount 20 = .ok (.istore_n 2, 1) := by decide +kernel
theorem dX11_setVertexCount_21 : decode cX11_setVertexCount 21 = .ok (.aload_n 0, 1) := by decide +kernel
theorem dX11_setVertexCount_22 : decode cX11_setVertexCount 22 = .ok (.iload_n 1, 1) := by decide +kernel
theorem dX11_setVertexCount_23 : decode cX11_setVertexCount 23 = .ok (.lconst 0, 1) := by decide +kernel
theorem dX11_setVertexCount_24 : decode cX11_setVertexCount 24 = .ok (.invokevirtual 82, 3) := by decide +kernel
theorem dX11_setVertexCount_27 : decode cX11_setVertexCount 27 = .ok (.aload_n 0, 1) := by decide +kernel
theorem dX11_setVertexCount_28 : decode cX11_setVertexCount 28 = .ok (.getfield 39, 3) := by decide +kernel
theorem dX11_setVertexCount_31 : decode cX11_setVertexCount 31 = .ok (.iconst 0, 1) := by decide +kernel
theorem dX11_setVertexCount_32 : decode cX11_setVertexCount 32 = .ok (.putfield 86, 3) := by decide +kernel
theorem dX11_setVertexCount_35 : decode cX11_setVertexCount 35 = .ok (.iload_n 2, 1) := by decide +kernel
theorem dX11_setVertexCount_36 : decode cX11_setVertexCount 36 = .ok (.ireturn, 1) := by decide +kernel
theorem dX11_toggleEdge_0 : decode cX11_toggleEdge 0 = .ok (.aload_n 0, 1) := by decide +kernel
theorem dX11_toggleEdge_1 : decode cX11_toggleEdge 1 = .ok (.iload_n 1, 1) := by decide +kernel
theorem dX11_toggleEdge_2 : decode cX11_toggleEdge 2 = .ok (.invokevirtual 89, 3) := by decide +kernel
theorem dX11_toggleEdge_5 : decode cX11_toggleEdge 5 = .ok (.ifCond .eq 16, 3) := by decide +kernel
theorem dX11_toggleEdge_8 : decode cX11_toggleEdge 8 = .ok (.aload_n 0, 1) := by decide +kernel
theorem dX11_toggleEdge_9 : decode cX11_toggleEdge 9 = .ok (.iload_n 2, 1) := by decide +kernel
theorem dX11_toggleEdge_10 : decode cX11_toggleEdge 10 = .ok (.invokevirtual 89, 3) := by decide +kernel
theorem dX11_toggleEdge_13 : decode cX11_toggleEdge 13 = .ok (.ifCond .eq 8, 3) := by decide +kernel
theorem dX11_toggleEdge_16 : decode cX11_toggleEdge 16 = .ok (.iload_n 1, 1) := by decide +kernel
theorem dX11_toggleEdge_17 : decode cX11_toggleEdge 17 = .ok (.iload_n 2, 1) := by decide +kernel
theorem dX11_toggleEdge_18 : decode cX11_toggleEdge 18 = .ok (.if_icmp .ne 5, 3) := by decide +kernel
theorem dX11_toggleEdge_21 : decode cX11_toggleEdge 21 = .ok (.iconst (-1), 1) := by decide +kernel
theorem dX11_toggleEdge_22 : decode cX11_toggleEdge 22 = .ok (.ireturn, 1) := by decide +kernel
theorem dX11_toggleEdge_23 : decode cX11_toggleEdge 23 = .ok (.aload_n 0, 1) := by decide +kernel
theorem dX11_toggleEdge_24 : decode cX11_toggleEdge 24 = .ok (.aload_n 0, 1) := by decide +kernel
theorem dX11_toggleEdge_25 : decode cX11_toggleEdge 25 = .ok (.getfield 14, 3) := by decide +kernel
theorem dX11_toggleEdge_28 : decode cX11_toggleEdge 28 = .ok (.getfield 93, 3) := by decide +kernel
theorem dX11_toggleEdge_31 : decode cX11_toggleEdge 31 = .ok (.iload_n 1, 1) := by decide +kernel
theorem dX11_toggleEdge_32 : decode cX11_toggleEdge 32 = .ok (.iload_n 2, 1) := by decide +kernel
theorem dX11_toggleEdge_33 : decode cX11_toggleEdge 33 = .ok (.invokestatic 97, 3) := by decide +kernel
theorem dX11_toggleEdge_36 : decode cX11_toggleEdge 36 = .ok (.lxor, 1) := by decide +kernel
theorem dX11_toggleEdge_37 : decode cX11_toggleEdge 37 = .ok (.invokevirtual 101, 3) := by decide +kernel
theorem dX11_toggleEdge_40 : decode cX11_toggleEdge 40 = .ok (.aload_n 0, 1) := by decide +kernel
theorem dX11_toggleEdge_41 : decode cX11_toggleEdge 41 = .ok (.getfield 14, 3) := by decide +kernel
theorem dX11_toggleEdge_44 : decode cX11_toggleEdge 44 = .ok (.getfield 93, 3) := by decide +kernel
theorem dX11_toggleEdge_47 : decode cX11_toggleEdge 47 = .ok (.iload_n 1, 1) := by decide +kernel
theorem dX11_toggleEdge_48 : decode cX11_toggleEdge 48 = .ok (.invokestatic 105, 3) := by decide +kernel
theorem dX11_toggleEdge_51 : decode cX11_toggleEdge 51 = .ok (.iload_n 2, 1) := by decide +kernel
theorem dX11_toggleEdge_52 : decode cX11_toggleEdge 52 = .ok (.ishr, 1) := by decide +kernel
theorem dX11_toggleEdge_53 : decode cX11_toggleEdge 53 = .ok (.iconst 1, 1) := by decide +kernel
theorem dX11_toggleEdge_54 : decode cX11_toggleEdge 54 = .ok (.iand, 1) := by decide +kernel
theorem dX11_toggleEdge_55 : decode cX11_toggleEdge 55 = .ok (.ireturn, 1) := by decide +kernel
theorem dX11_build_0 : decode cX11_build 0 = .ok (.iload_n 1, 1) := by decide +kernel
theorem dX11_build_1 : decode cX11_build 1 = .ok (.ifCond .lt 8, 3) := by decide +kernel
theorem dX11_build_4 : decode cX11_build 4 = .ok (.iload_n 1, 1) := by decide +kernel
theorem dX11_build_5 : decode cX11_build 5 = .ok (.iconst 5, 1) := by decide +kernel
theorem dX11_build_6 : decode cX11_build 6 = .ok (.if_icmp .le 5, 3) := by decide +kernel
theorem dX11_build_9 : decode cX11_build 9 = .ok (.iconst (-1), 1) := by decide +kernel
theorem dX11_build_10 : decode cX11_build 10 = .ok (.ireturn, 1) := by decide +kernel
theorem dX11_build_11 : decode cX11_build 11 = .ok (.iload_n 1, 1) := by decide +kernel
theorem dX11_build_12 : decode cX11_build 12 = .ok (.iconst 1, 1) := by decide +kernel
theorem dX11_build_13 : decode cX11_build 13 = .ok (.if_icmp .ne 17, 3) := by decide +kernel
theorem dX11_build_16 : decode cX11_build 16 = .ok (.aload_n 0, 1) := by decide +kernel
theorem dX11_build_17 : decode cX11_build 17 = .ok (.getfield 14, 3) := by decide +kernel
theorem dX11_build_20 : decode cX11_build 20 = .ok (.getfield 78, 3) := by decide +kernel
theorem dX11_build_23 : decode cX11_build 23 = .ok (.iconst 3, 1) := by decide +kernel
theorem dX11_build_24 : decode cX11_build 24 = .ok (.if_icmp .ge 6, 3) := by decide +kernel
theorem dX11_build_27 : decode cX11_build 27 = .ok (.bipush (-5), 2) := by decide +kernel
theorem dX11_build_29 : decode cX11_build 29 = .ok (.ireturn, 1) := by decide +kernel
theorem dX11_build_30 : decode cX11_build 30 = .ok (.aload_n 0, 1) := by decide +kernel
theorem dX11_build_31 : decode cX11_build 31 = .ok (.aload_n 0, 1) := by decide +kernel
theorem dX11_build_32 : decode cX11_build 32 = .ok (.getfield 14, 3) := by decide +kernel
theorem dX11_build_35 : decode cX11_build 35 = .ok (.iload_n 1, 1) := by decide +kernel
theorem dX11_build_36 : decode cX11_build 36 = .ok (.invokevirtual 109, 3) := by decide +kernel
theorem dX11_build_39 : decode cX11_build 39 = .ok (.invokevirtual 101, 3) := by decide +kernel
theorem dX11_build_42 : decode cX11_build 42 = .ok (.aload_n 0, 1) := by decide +kernel
theorem dX11_build_43 : decode cX11_build 43 = .ok (.getfield 14, 3) := by decide +kernel
theorem dX11_build_46 : decode cX11_build 46 = .ok (.invokevirtual 113, 3) := by decide +kernel
theorem dX11_build_49 : decode cX11_build 49 = .ok (.ireturn, 1) := by decide +kernel
theorem dX11_revertChange_0 : decode cX11_revertChange 0 = .ok (.aload_n 0, 1) := by decide +kernel
theorem dX11_revertChange_1 : decode cX11_revertChange 1 = .ok (.getfield 39, 3) := by decide +kernel
theorem dX11_revertChange_4 : decode cX11_revertChange 4 = .ok (.getfield 86, 3) := by decide +kernel
theorem dX11_revertChange_7 : decode cX11_revertChange 7 = .ok (.ifCond .ne 6, 3) := by decide +kernel
theorem dX11_revertChange_10 : decode cX11_revertChange 10 = .ok (.bipush (-5), 2) := by decide +kernel
theorem dX11_revertChange_12 : decode cX11_revertChange 12 = .ok (.ireturn, 1) := by decide +kernel
theorem dX11_revertChange_13 : decode cX11_revertChange 13 = .ok (.aload_n 0, 1) := by decide +kernel
theorem dX11_revertChange_14 : decode cX11_revertChange 14 = .ok (.aload_n 0, 1) := by decide +kernel
theorem dX11_revertChange_15 : decode cX11_revertChange 15 = .ok (.getfield 14, 3) := by decide +kernel
theorem dX11_revertChange_18 : decode cX11_revertChange 18 = .ok (.getfield 78, 3) := by decide +kernel
theorem dX11_revertChange_21 : decode cX11_revertChange 21 = .ok (.aload_n 0, 1) := by decide +kernel
theorem dX11_revertChange_22 : decode cX11_revertChange 22 = .ok (.getfield 39, 3) := by decide +kernel
theorem dX11_revertChange_25 : decode cX11_revertChange 25 = .ok (.invokevirtual 117, 3) := by decide +kernel
theorem dX11_revertChange_28 : decode cX11_revertChange 28 = .ok (.invokevirtual 82, 3) := by decide +kernel
theorem dX11_revertChange_31 : decode cX11_revertChange 31 = .ok (.aload_n 0, 1) := by decide +kernel
theorem dX11_revertChange_32 : decode cX11_revertChange 32 = .ok (.getfield 39, 3) := by decide +kernel
theorem dX11_revertChange_35 : decode cX11_revertChange 35 = .ok (.getfield 86, 3) := by decide +kernel
theorem dX11_revertChange_38 : decode cX11_revertChange 38 = .ok (.ireturn, 1) := by decide +kernel
theorem dX11_changeCount_0 : decode cX11_changeCount 0 = .ok (.aload_n 0, 1) := by decide +kernel
theorem dX11_changeCount_1 : decode cX11_changeCount 1 = .ok (.getfield 39, 3) := by decide +kernel
theorem dX11_changeCount_4 : decode cX11_changeCount 4 = .ok (.getfield 86, 3) := by decide +kernel
theorem dX11_changeCount_7 : decode cX11_changeCount 7 = .ok (.ireturn, 1) := by decide +kernel
theorem dX11_recordChange_0 : decode cX11_recordChange 0 = .ok (.aload_n 0, 1) := by decide +kernel
