theorem dX12_degree_1 : decode cX12_degree 1 = .ok (.iload_n 1, 1) := by decide +kernel
theorem dX12_degree_2 : decode cX12_degree 2 = .ok (.invokevirtual 160, 3) := by decide +kernel
theorem dX12_degree_5 : decode cX12_degree 5 = .ok (.ifCond .eq 10, 3) := by decide +kernel
theorem dX12_degree_8 : decode cX12_degree 8 = .ok (.iload_n 1, 1) := by decide +kernel
theorem dX12_degree_9 : decode cX12_degree 9 = .ok (.invokestatic 163, 3) := by decide +kernel
theorem dX12_degree_12 : decode cX12_degree 12 = .ok (.goto 4, 3) := by decide +kernel
theorem dX12_degree_15 : decode cX12_degree 15 = .ok (.iconst (-1), 1) := by decide +kernel
theorem dX12_degree_16 : decode cX12_degree 16 = .ok (.ireturn, 1) := by decide +kernel
theorem dX12_exponent_0 : decode cX12_exponent 0 = .ok (.aload_n 0, 1) := by decide +kernel
theorem dX12_exponent_1 : decode cX12_exponent 1 = .ok (.iload_n 1, 1) := by decide +kernel
theorem dX12_exponent_2 : decode cX12_exponent 2 = .ok (.invokevirtual 160, 3) := by decide +kernel
theorem dX12_exponent_5 : decode cX12_exponent 5 = .ok (.ifCond .eq 19, 3) := by decide +kernel
theorem dX12_exponent_8 : decode cX12_exponent 8 = .ok (.aload_n 0, 1) := by decide +kernel
theorem dX12_exponent_9 : decode cX12_exponent 9 = .ok (.iload_n 2, 1) := by decide +kernel
theorem dX12_exponent_10 : decode cX12_exponent 10 = .ok (.invokevirtual 88, 3) := by decide +kernel
theorem dX12_exponent_13 : decode cX12_exponent 13 = .ok (.ifCond .eq 11, 3) := by decide +kernel
theorem dX12_exponent_16 : decode cX12_exponent 16 = .ok (.iload_n 1, 1) := by decide +kernel
theorem dX12_exponent_17 : decode cX12_exponent 17 = .ok (.iload_n 2, 1) := by decide +kernel
theorem dX12_exponent_18 : decode cX12_exponent 18 = .ok (.invokestatic 128, 3) := by decide +kernel
theorem dX12_exponent_21 : decode cX12_exponent 21 = .ok (.goto 4, 3) := by decide +kernel
theorem dX12_exponent_24 : decode cX12_exponent 24 = .ok (.iconst (-1), 1) := by decide +kernel
theorem dX12_exponent_25 : decode cX12_exponent 25 = .ok (.ireturn, 1) := by decide +kernel
theorem dX12_powerOrder_0 : decode cX12_powerOrder 0 = .ok (.aload_n 0, 1) := by decide +kernel
theorem dX12_powerOrder_1 : decode cX12_powerOrder 1 = .ok (.invokevirtual 144, 3) := by decide +kernel
theorem dX12_powerOrder_4 : decode cX12_powerOrder 4 = .ok (.aload_n 0, 1) := by decide +kernel
theorem dX12_powerOrder_5 : decode cX12_powerOrder 5 = .ok (.iload_n 1, 1) := by decide +kernel
theorem dX12_powerOrder_6 : decode cX12_powerOrder 6 = .ok (.invokevirtual 160, 3) := by decide +kernel
theorem dX12_powerOrder_9 : decode cX12_powerOrder 9 = .ok (.ifCond .eq 12, 3) := by decide +kernel
theorem dX12_powerOrder_12 : decode cX12_powerOrder 12 = .ok (.aload_n 0, 1) := by decide +kernel
theorem dX12_powerOrder_13 : decode cX12_powerOrder 13 = .ok (.getfield 32, 3) := by decide +kernel
theorem dX12_powerOrder_16 : decode cX12_powerOrder 16 = .ok (.iload_n 1, 1) := by decide +kernel
theorem dX12_powerOrder_17 : decode cX12_powerOrder 17 = .ok (.iaload, 1) := by decide +kernel
theorem dX12_powerOrder_18 : decode cX12_powerOrder 18 = .ok (.goto 4, 3) := by decide +kernel
theorem dX12_powerOrder_21 : decode cX12_powerOrder 21 = .ok (.iconst (-1), 1) := by decide +kernel
theorem dX12_powerOrder_22 : decode cX12_powerOrder 22 = .ok (.ireturn, 1) := by decide +kernel
theorem dX12_symbolicOrder_0 : decode cX12_symbolicOrder 0 = .ok (.aload_n 0, 1) := by decide +kernel
theorem dX12_symbolicOrder_1 : decode cX12_symbolicOrder 1 = .ok (.invokevirtual 144, 3) := by decide +kernel
theorem dX12_symbolicOrder_4 : decode cX12_symbolicOrder 4 = .ok (.aload_n 0, 1) := by decide +kernel
theorem dX12_symbolicOrder_5 : decode cX12_symbolicOrder 5 = .ok (.iload_n 1, 1) := by decide +kernel
theorem dX12_symbolicOrder_6 : decode cX12_symbolicOrder 6 = .ok (.invokevirtual 160, 3) := by decide +kernel
theorem dX12_symbolicOrder_9 : decode cX12_symbolicOrder 9 = .ok (.ifCond .eq 12, 3) := by decide +kernel
theorem dX12_symbolicOrder_12 : decode cX12_symbolicOrder 12 = .ok (.aload_n 0, 1) := by decide +kernel
theorem dX12_symbolicOrder_13 : decode cX12_symbolicOrder 13 = .ok (.getfield 35, 3) := by decide +kernel
theorem dX12_symbolicOrder_16 : decode cX12_symbolicOrder 16 = .ok (.iload_n 1, 1) := by decide +kernel
theorem dX12_symbolicOrder_17 : decode cX12_symbolicOrder 17 = .ok (.iaload, 1) := by decide +kernel
theorem dX12_symbolicOrder_18 : decode cX12_symbolicOrder 18 = .ok (.goto 4, 3) := by decide +kernel
theorem dX12_symbolicOrder_21 : decode cX12_symbolicOrder 21 = .ok (.iconst (-1), 1) := by decide +kernel
theorem dX12_symbolicOrder_22 : decode cX12_symbolicOrder 22 = .ok (.ireturn, 1) := by decide +kernel
theorem dX12_multiply_0 : decode cX12_multiply 0 = .ok (.aload_n 0, 1) := by decide +kernel
theorem dX12_multiply_1 : decode cX12_multiply 1 = .ok (.iload_n 1, 1) := by decide +kernel
theorem dX12_multiply_2 : decode cX12_multiply 2 = .ok (.invokevirtual 160, 3) := by decide +kernel
theorem dX12_multiply_5 : decode cX12_multiply 5 = .ok (.ifCond .eq 11, 3) := by decide +kernel
theorem dX12_multiply_8 : decode cX12_multiply 8 = .ok (.aload_n 0, 1) := by decide +kernel
theorem dX12_multiply_9 : decode cX12_multiply 9 = .ok (.iload_n 2, 1) := by decide +kernel
theorem dX12_multiply_10 : decode cX12_multiply 10 = .ok (.invokevirtual 160, 3) := by decide +kernel
theorem dX12_multiply_13 : decode cX12_multiply 13 = .ok (.ifCond .ne 5, 3) := by decide +kernel
theorem dX12_multiply_16 : decode cX12_multiply 16 = .ok (.iconst (-1), 1) := by decide +kernel
theorem dX12_multiply_17 : decode cX12_multiply 17 = .ok (.ireturn, 1) := by decide +kernel
theorem dX12_multiply_18 : decode cX12_multiply 18 = .ok (.iconst 0, 1) := by decide +kernel
theorem dX12_multiply_19 : decode cX12_multiply 19 = .ok (.istore_n 3, 1) := by decide +kernel
theorem dX12_multiply_20 : decode cX12_multiply 20 = .ok (.iload_n 3, 1) := by decide +kernel
theorem dX12_multiply_21 : decode cX12_multiply 21 = .ok (.aload_n 0, 1) := by decide +kernel
theorem dX12_multiply_22 : decode cX12_multiply 22 = .ok (.getfield 9, 3) := by decide +kernel
theorem dX12_multiply_25 : decode cX12_multiply 25 = .ok (.if_icmp .ge 27, 3) := by decide +kernel
theorem dX12_multiply_28 : decode cX12_multiply 28 = .ok (.iload_n 1, 1) := by decide +kernel
theorem dX12_multiply_29 : decode cX12_multiply 29 = .ok (.iload_n 3, 1) := by decide +kernel
theorem dX12_multiply_30 : decode cX12_multiply 30 = .ok (.invokestatic 128, 3) := by decide +kernel
theorem dX12_multiply_33 : decode cX12_multiply 33 = .ok (.iload_n 2, 1) := by decide +kernel
theorem dX12_multiply_34 : decode cX12_multiply 34 = .ok (.iload_n 3, 1) := by decide +kernel
theorem dX12_multiply_35 : decode cX12_multiply 35 = .ok (.invokestatic 128, 3) := by decide +kernel
theorem dX12_multiply_38 : decode cX12_multiply 38 = .ok (.iadd, 1) := by decide +kernel
theorem dX12_multiply_39 : decode cX12_multiply 39 = .ok (.iconst 3, 1) := by decide +kernel
theorem dX12_multiply_40 : decode cX12_multiply 40 = .ok (.if_icmp .le 6, 3) := by decide +kernel
theorem dX12_multiply_43 : decode cX12_multiply 43 = .ok (.bipush (-3), 2) := by decide +kernel
theorem dX12_multiply_45 : decode cX12_multiply 45 = .ok (.ireturn, 1) := by decide +kernel
theorem dX12_multiply_46 : decode cX12_multiply 46 = .ok (.iinc 3 1, 3) := by decide +kernel
theorem dX12_multiply_49 : decode cX12_multiply 49 = .ok (.goto (-29), 3) := by decide +kernel
theorem dX12_multiply_52 : decode cX12_multiply 52 = .ok (.iload_n 1, 1) := by decide +kernel
theorem dX12_multiply_53 : decode cX12_multiply 53 = .ok (.iload_n 2, 1) := by decide +kernel
theorem dX12_multiply_54 : decode cX12_multiply 54 = .ok (.iadd, 1) := by decide +kernel
theorem dX12_multiply_55 : decode cX12_multiply 55 = .ok (.ireturn, 1) := by decide +kernel
theorem dX12_divide_0 : decode cX12_divide 0 = .ok (.aload_n 0, 1) := by decide +kernel
theorem dX12_divide_1 : decode cX12_divide 1 = .ok (.iload_n 1, 1) := by decide +kernel
theorem dX12_divide_2 : decode cX12_divide 2 = .ok (.invokevirtual 160, 3) := by decide +kernel
theorem dX12_divide_5 : decode cX12_divide 5 = .ok (.ifCond .eq 11, 3) := by decide +kernel
theorem dX12_divide_8 : decode cX12_divide 8 = .ok (.aload_n 0, 1) := by decide +kernel
theorem dX12_divide_9 : decode cX12_divide 9 = .ok (.iload_n 2, 1) := by decide +kernel
theorem dX12_divide_10 : decode cX12_divide 10 = .ok (.invokevirtual 160, 3) := by decide +kernel
theorem dX12_divide_13 : decode cX12_divide 13 = .ok (.ifCond .ne 5, 3) := by decide +kernel
theorem dX12_divide_16 : decode cX12_divide 16 = .ok (.iconst (-1), 1) := by decide +kernel
theorem dX12_divide_17 : decode cX12_divide 17 = .ok (.ireturn, 1) := by decide +kernel
theorem dX12_divide_18 : decode cX12_divide 18 = .ok (.iload_n 2, 1) := by decide +kernel
theorem dX12_divide_19 : decode cX12_divide 19 = .ok (.iload_n 1, 1) := by decide +kernel
theorem dX12_divide_20 : decode cX12_divide 20 = .ok (.invokestatic 166, 3) := by decide +kernel
theorem dX12_divide_23 : decode cX12_divide 23 = .ok (.ifCond .eq 9, 3) := by decide +kernel
theorem dX12_divide_26 : decode cX12_divide 26 = .ok (.iload_n 1, 1) := by decide +kernel
theorem dX12_divide_27 : decode cX12_divide 27 = .ok (.iload_n 2, 1) := by decide +kernel
theorem dX12_divide_28 : decode cX12_divide 28 = .ok (.isub, 1) := by decide +kernel
theorem dX12_divide_29 : decode cX12_divide 29 = .ok (.goto 5, 3) := by decide +kernel
theorem dX12_divide_32 : decode cX12_divide 32 = .ok (.bipush (-5), 2) := by decide +kernel
theorem dX12_divide_34 : decode cX12_divide 34 = .ok (.ireturn, 1) := by decide +kernel
theorem dX12_combined_0 : decode cX12_combined 0 = .ok (.aload_n 0, 1) := by decide +kernel
theorem dX12_combined_1 : decode cX12_combined 1 = .ok (.iload_n 1, 1) := by decide +kernel
theorem dX12_combined_2 : decode cX12_combined 2 = .ok (.invokevirtual 160, 3) := by decide +kernel
theorem dX12_combined_5 : decode cX12_combined 5 = .ok (.ifCond .eq 11, 3) := by decide +kernel
theorem dX12_combined_8 : decode cX12_combined 8 = .ok (.aload_n 0, 1) := by decide +kernel
theorem dX12_combined_9 : decode cX12_combined 9 = .ok (.iload_n 2, 1) := by decide +kernel
theorem dX12_combined_10 : decode cX12_combined 10 = .ok (.invokevirtual 160, 3) := by decide +kernel
theorem dX12_combined_13 : decode cX12_combined 13 = .ok (.ifCond .ne 5, 3) := by decide +kernel
theorem dX12_combined_16 : decode cX12_combined 16 = .ok (.iconst (-1), 1) := by decide +kernel
theorem dX12_combined_17 : decode cX12_combined 17 = .ok (.ireturn, 1) := by decide +kernel
theorem dX12_combined_18 : decode cX12_combined 18 = .ok (.iconst 0, 1) := by decide +kernel
theorem dX12_combined_19 : decode cX12_combined 19 = .ok (.istore 4, 2) := by decide +kernel
theorem dX12_combined_21 : decode cX12_combined 21 = .ok (.iconst 0, 1) := by decide +kernel
theorem dX12_combined_22 : decode cX12_combined 22 = .ok (.istore 5, 2) := by decide +kernel
theorem dX12_combined_24 : decode cX12_combined 24 = .ok (.iload 5, 2) := by decide +kernel
theorem dX12_combined_26 : decode cX12_combined 26 = .ok (.aload_n 0, 1) := by decide +kernel
theorem dX12_combined_27 : decode cX12_combined 27 = .ok (.getfield 9, 3) := by decide +kernel
theorem dX12_combined_30 : decode cX12_combined 30 = .ok (.if_icmp .ge 58, 3) := by decide +kernel
theorem dX12_combined_33 : decode cX12_combined 33 = .ok (.iload_n 1, 1) := by decide +kernel
theorem dX12_combined_34 : decode cX12_combined 34 = .ok (.iload 5, 2) := by decide +kernel
theorem dX12_combined_36 : decode cX12_combined 36 = .ok (.invokestatic 128, 3) := by decide +kernel
theorem dX12_combined_39 : decode cX12_combined 39 = .ok (.istore 6, 2) := by decide +kernel
theorem dX12_combined_41 : decode cX12_combined 41 = .ok (.iload_n 2, 1) := by decide +kernel
theorem dX12_combined_42 : decode cX12_combined 42 = .ok (.iload 5, 2) := by decide +kernel
theorem dX12_combined_44 : decode cX12_combined 44 = .ok (.invokestatic 128, 3) := by decide +kernel
theorem dX12_combined_47 : decode cX12_combined 47 = .ok (.istore 7, 2) := by decide +kernel
theorem dX12_combined_49 : decode cX12_combined 49 = .ok (.iload 4, 2) := by decide +kernel
theorem dX12_combined_51 : decode cX12_combined 51 = .ok (.iload 6, 2) := by decide +kernel
theorem dX12_combined_53 : decode cX12_combined 53 = .ok (.iload 7, 2) := by decide +kernel
theorem dX12_combined_55 : decode cX12_combined 55 = .ok (.if_icmp .le 7, 3) := by decide +kernel
theorem dX12_combined_58 : decode cX12_combined 58 = .ok (.iconst 1, 1) := by decide +kernel
theorem dX12_combined_59 : decode cX12_combined 59 = .ok (.goto 4, 3) := by decide +kernel
theorem dX12_combined_62 : decode cX12_combined 62 = .ok (.iconst 0, 1) := by decide +kernel
theorem dX12_combined_63 : decode cX12_combined 63 = .ok (.iload_n 3, 1) := by decide +kernel
theorem dX12_combined_64 : decode cX12_combined 64 = .ok (.if_icmp .ne 8, 3) := by decide +kernel
theorem dX12_combined_67 : decode cX12_combined 67 = .ok (.iload 6, 2) := by decide +kernel
theorem dX12_combined_69 : decode cX12_combined 69 = .ok (.goto 5, 3) := by decide +kernel
theorem dX12_combined_72 : decode cX12_combined 72 = .ok (.iload 7, 2) := by decide +kernel
theorem dX12_combined_74 : decode cX12_combined 74 = .ok (.iconst 2, 1) := by decide +kernel
theorem dX12_combined_75 : decode cX12_combined 75 = .ok (.iload 5, 2) := by decide +kernel
theorem dX12_combined_77 : decode cX12_combined 77 = .ok (.imul, 1) := by decide +kernel
theorem dX12_combined_78 : decode cX12_combined 78 = .ok (.ishl, 1) := by decide +kernel
theorem dX12_combined_79 : decode cX12_combined 79 = .ok (.ior, 1) := by decide +kernel
theorem dX12_combined_80 : decode cX12_combined 80 = .ok (.istore 4, 2) := by decide +kernel
theorem dX12_combined_82 : decode cX12_combined 82 = .ok (.iinc 5 1, 3) := by decide +kernel
theorem dX12_combined_85 : decode cX12_combined 85 = .ok (.goto (-61), 3) := by decide +kernel
theorem dX12_combined_88 : decode cX12_combined 88 = .ok (.iload 4, 2) := by decide +kernel
theorem dX12_combined_90 : decode cX12_combined 90 = .ok (.ireturn, 1) := by decide +kernel
theorem dX12_lcm_0 : decode cX12_lcm 0 = .ok (.aload_n 0, 1) := by decide +kernel
theorem dX12_lcm_1 : decode cX12_lcm 1 = .ok (.iload_n 1, 1) := by decide +kernel
theorem dX12_lcm_2 : decode cX12_lcm 2 = .ok (.iload_n 2, 1) := by decide +kernel
theorem dX12_lcm_3 : decode cX12_lcm 3 = .ok (.iconst 1, 1) := by decide +kernel
theorem dX12_lcm_4 : decode cX12_lcm 4 = .ok (.invokevirtual 169, 3) := by decide +kernel
theorem dX12_lcm_7 : decode cX12_lcm 7 = .ok (.ireturn, 1) := by decide +kernel
theorem dX12_gcd_0 : decode cX12_gcd 0 = .ok (.aload_n 0, 1) := by decide +kernel
theorem dX12_gcd_1 : decode cX12_gcd 1 = .ok (.iload_n 1, 1) := by decide +kernel
theorem dX12_gcd_2 : decode cX12_gcd 2 = .ok (.iload_n 2, 1) := by decide +kernel
theorem dX12_gcd_3 : decode cX12_gcd 3 = .ok (.iconst 0, 1) := by decide +kernel
theorem dX12_gcd_4 : decode cX12_gcd 4 = .ok (.invokevirtual 169, 3) := by decide +kernel
theorem dX12_gcd_7 : decode cX12_gcd 7 = .ok (.ireturn, 1) := by decide +kernel
theorem dX12_isIn_0 : decode cX12_isIn 0 = .ok (.iload_n 3, 1) := by decide +kernel
theorem dX12_isIn_1 : decode cX12_isIn 1 = .ok (.ifCond .eq 12, 3) := by decide +kernel
theorem dX12_isIn_4 : decode cX12_isIn 4 = .ok (.aload_n 0, 1) := by decide +kernel
theorem dX12_isIn_5 : decode cX12_isIn 5 = .ok (.getfield 35, 3) := by decide +kernel
theorem dX12_isIn_8 : decode cX12_isIn 8 = .ok (.iload_n 1, 1) := by decide +kernel
theorem dX12_isIn_9 : decode cX12_isIn 9 = .ok (.iaload, 1) := by decide +kernel
theorem dX12_isIn_10 : decode cX12_isIn 10 = .ok (.goto 9, 3) := by decide +kernel
theorem dX12_isIn_13 : decode cX12_isIn 13 = .ok (.aload_n 0, 1) := by decide +kernel
theorem dX12_isIn_14 : decode cX12_isIn 14 = .ok (.getfield 32, 3) := by decide +kernel
theorem dX12_isIn_17 : decode cX12_isIn 17 = .ok (.iload_n 1, 1) := by decide +kernel
theorem dX12_isIn_18 : decode cX12_isIn 18 = .ok (.iaload, 1) := by decide +kernel
theorem dX12_isIn_19 : decode cX12_isIn 19 = .ok (.iload_n 2, 1) := by decide +kernel
theorem dX12_isIn_20 : decode cX12_isIn 20 = .ok (.if_icmp .lt 7, 3) := by decide +kernel
theorem dX12_isIn_23 : decode cX12_isIn 23 = .ok (.iconst 1, 1) := by decide +kernel
theorem dX12_isIn_24 : decode cX12_isIn 24 = .ok (.goto 4, 3) := by decide +kernel
theorem dX12_isIn_27 : decode cX12_isIn 27 = .ok (.iconst 0, 1) := by decide +kernel
theorem dX12_isIn_28 : decode cX12_isIn 28 = .ok (.ireturn, 1) := by decide +kernel
theorem dX12_isGenerator_0 : decode cX12_isGenerator 0 = .ok (.aload_n 0, 1) := by decide +kernel
theorem dX12_isGenerator_1 : decode cX12_isGenerator 1 = .ok (.iload_n 1, 1) := by decide +kernel
theorem dX12_isGenerator_2 : decode cX12_isGenerator 2 = .ok (.iload_n 2, 1) := by decide +kernel
theorem dX12_isGenerator_3 : decode cX12_isGenerator 3 = .ok (.iload_n 3, 1) := by decide +kernel
theorem dX12_isGenerator_4 : decode cX12_isGenerator 4 = .ok (.invokevirtual 173, 3) := by decide +kernel
theorem dX12_isGenerator_7 : decode cX12_isGenerator 7 = .ok (.ifCond .ne 5, 3) := by decide +kernel
theorem dX12_isGenerator_10 : decode cX12_isGenerator 10 = .ok (.iconst 0, 1) := by decide +kernel
theorem dX12_isGenerator_11 : decode cX12_isGenerator 11 = .ok (.ireturn, 1) := by decide +kernel
theorem dX12_isGenerator_12 : decode cX12_isGenerator 12 = .ok (.iconst 0, 1) := by decide +kernel
theorem dX12_isGenerator_13 : decode cX12_isGenerator 13 = .ok (.istore 4, 2) := by decide +kernel
theorem dX12_isGenerator_15 : decode cX12_isGenerator 15 = .ok (.iload 4, 2) := by decide +kernel
theorem dX12_isGenerator_17 : decode cX12_isGenerator 17 = .ok (.aload_n 0, 1) := by decide +kernel
theorem dX12_isGenerator_18 : decode cX12_isGenerator 18 = .ok (.getfield 9, 3) := by decide +kernel
theorem dX12_isGenerator_21 : decode cX12_isGenerator 21 = .ok (.if_icmp .ge 37, 3) := by decide +kernel
theorem dX12_isGenerator_24 : decode cX12_isGenerator 24 = .ok (.iload_n 1, 1) := by decide +kernel
theorem dX12_isGenerator_25 : decode cX12_isGenerator 25 = .ok (.iload 4, 2) := by decide +kernel
theorem dX12_isGenerator_27 : decode cX12_isGenerator 27 = .ok (.invokestatic 128, 3) := by decide +kernel
theorem dX12_isGenerator_30 : decode cX12_isGenerator 30 = .ok (.ifCond .le 22, 3) := by decide +kernel
theorem dX12_isGenerator_33 : decode cX12_isGenerator 33 = .ok (.aload_n 0, 1) := by decide +kernel
theorem dX12_isGenerator_34 : decode cX12_isGenerator 34 = .ok (.iload_n 1, 1) := by decide +kernel
theorem dX12_isGenerator_35 : decode cX12_isGenerator 35 = .ok (.iconst 1, 1) := by decide +kernel
theorem dX12_isGenerator_36 : decode cX12_isGenerator 36 = .ok (.iconst 2, 1) := by decide +kernel
theorem dX12_isGenerator_37 : decode cX12_isGenerator 37 = .ok (.iload 4, 2) := by decide +kernel
theorem dX12_isGenerator_39 : decode cX12_isGenerator 39 = .ok (.imul, 1) := by decide +kernel
theorem dX12_isGenerator_40 : decode cX12_isGenerator 40 = .ok (.ishl, 1) := by decide +kernel
theorem dX12_isGenerator_41 : decode cX12_isGenerator 41 = .ok (.isub, 1) := by decide +kernel
theorem dX12_isGenerator_42 : decode cX12_isGenerator 42 = .ok (.iload_n 2, 1) := by decide +kernel
theorem dX12_isGenerator_43 : decode cX12_isGenerator 43 = .ok (.iload_n 3, 1) := by decide +kernel
theorem dX12_isGenerator_44 : decode cX12_isGenerator 44 = .ok (.invokevirtual 173, 3) := by decide +kernel
theorem dX12_isGenerator_47 : decode cX12_isGenerator 47 = .ok (.ifCond .eq 5, 3) := by decide +kernel
theorem dX12_isGenerator_50 : decode cX12_isGenerator 50 = .ok (.iconst 0, 1) := by decide +kernel
theorem dX12_isGenerator_51 : decode cX12_isGenerator 51 = .ok (.ireturn, 1) := by decide +kernel
theorem dX12_isGenerator_52 : decode cX12_isGenerator 52 = .ok (.iinc 4 1, 3) := by decide +kernel
theorem dX12_isGenerator_55 : decode cX12_isGenerator 55 = .ok (.goto (-40), 3) := by decide +kernel
theorem dX12_isGenerator_58 : decode cX12_isGenerator 58 = .ok (.iconst 1, 1) := by decide +kernel
theorem dX12_isGenerator_59 : decode cX12_isGenerator 59 = .ok (.ireturn, 1) := by decide +kernel
theorem dX12_findGenerators_0 : decode cX12_findGenerators 0 = .ok (.aload_n 0, 1) := by decide +kernel
theorem dX12_findGenerators_1 : decode cX12_findGenerators 1 = .ok (.invokevirtual 144, 3) := by decide +kernel
theorem dX12_findGenerators_4 : decode cX12_findGenerators 4 = .ok (.aload_n 0, 1) := by decide +kernel
theorem dX12_findGenerators_5 : decode cX12_findGenerators 5 = .ok (.iconst 0, 1) := by decide +kernel
theorem dX12_findGenerators_6 : decode cX12_findGenerators 6 = .ok (.putfield 177, 3) := by decide +kernel
theorem dX12_findGenerators_9 : decode cX12_findGenerators 9 = .ok (.aload_n 0, 1) := by decide +kernel
theorem dX12_findGenerators_10 : decode cX12_findGenerators 10 = .ok (.invokevirtual 125, 3) := by decide +kernel
theorem dX12_findGenerators_13 : decode cX12_findGenerators 13 = .ok (.iconst 1, 1) := by decide +kernel
theorem dX12_findGenerators_14 : decode cX12_findGenerators 14 = .ok (.isub, 1) := by decide +kernel
theorem dX12_findGenerators_15 : decode cX12_findGenerators 15 = .ok (.istore_n 3, 1) := by decide +kernel
theorem dX12_findGenerators_16 : decode cX12_findGenerators 16 = .ok (.iload_n 3, 1) := by decide +kernel
theorem dX12_findGenerators_17 : decode cX12_findGenerators 17 = .ok (.ifCond .lt 39, 3) := by decide +kernel
theorem dX12_findGenerators_20 : decode cX12_findGenerators 20 = .ok (.aload_n 0, 1) := by decide +kernel
theorem dX12_findGenerators_21 : decode cX12_findGenerators 21 = .ok (.iload_n 3, 1) := by decide +kernel
theorem dX12_findGenerators_22 : decode cX12_findGenerators 22 = .ok (.iload_n 1, 1) := by decide +kernel
theorem dX12_findGenerators_23 : decode cX12_findGenerators 23 = .ok (.iload_n 2, 1) := by decide +kernel
theorem dX12_findGenerators_24 : decode cX12_findGenerators 24 = .ok (.invokevirtual 180, 3) := by decide +kernel
theorem dX12_findGenerators_27 : decode cX12_findGenerators 27 = .ok (.ifCond .eq 23, 3) := by decide +kernel
theorem dX12_findGenerators_30 : decode cX12_findGenerators 30 = .ok (.aload_n 0, 1) := by decide +kernel
theorem dX12_findGenerators_31 : decode cX12_findGenerators 31 = .ok (.getfield 41, 3) := by decide +kernel
theorem dX12_findGenerators_34 : decode cX12_findGenerators 34 = .ok (.aload_n 0, 1) := by decide +kernel
theorem dX12_findGenerators_35 : decode cX12_findGenerators 35 = .ok (.getfield 177, 3) := by decide +kernel
theorem dX12_findGenerators_38 : decode cX12_findGenerators 38 = .ok (.iload_n 3, 1) := by decide +kernel
theorem dX12_findGenerators_39 : decode cX12_findGenerators 39 = .ok (.iastore, 1) := by decide +kernel
theorem dX12_findGenerators_40 : decode cX12_findGenerators 40 = .ok (.aload_n 0, 1) := by decide +kernel
theorem dX12_findGenerators_41 : decode cX12_findGenerators 41 = .ok (.dup, 1) := by decide +kernel
theorem dX12_findGenerators_42 : decode cX12_findGenerators 42 = .ok (.getfield 177, 3) := by decide +kernel
theorem dX12_findGenerators_45 : decode cX12_findGenerators 45 = .ok (.iconst 1, 1) := by decide +kernel
theorem dX12_findGenerators_46 : decode cX12_findGenerators 46 = .ok (.iadd, 1) := by decide +kernel
theorem dX12_findGenerators_47 : decode cX12_findGenerators 47 = .ok (.putfield 177, 3) := by decide +kernel
theorem dX12_findGenerators_50 : decode cX12_findGenerators 50 = .ok (.iinc 3 (-1), 3) := by decide +kernel
theorem dX12_findGenerators_53 : decode cX12_findGenerators 53 = .ok (.goto (-37), 3) := by decide +kernel
theorem dX12_findGenerators_56 : decode cX12_findGenerators 56 = .ok (.return_, 1) := by decide +kernel
theorem dX12_isPower_0 : decode cX12_isPower 0 = .ok (.iload_n 0, 1) := by decide +kernel
theorem dX12_isPower_1 : decode cX12_isPower 1 = .ok (.i2l, 1) := by decide +kernel
theorem dX12_isPower_2 : decode cX12_isPower 2 = .ok (.lconst 1, 1) := by decide +kernel
theorem dX12_isPower_3 : decode cX12_isPower 3 = .ok (.ldc2_w 183, 3) := by decide +kernel
theorem dX12_isPower_6 : decode cX12_isPower 6 = .ok (.invokestatic 79, 3) := by decide +kernel
theorem dX12_isPower_9 : decode cX12_isPower 9 = .ok (.ireturn, 1) := by decide +kernel
theorem dX12_countGenerators_0 : decode cX12_countGenerators 0 = .ok (.iload_n 1, 1) := by decide +kernel
theorem dX12_countGenerators_1 : decode cX12_countGenerators 1 = .ok (.invokestatic 185, 3) := by decide +kernel
theorem dX12_countGenerators_4 : decode cX12_countGenerators 4 = .ok (.ifCond .ne 5, 3) := by decide +kernel
theorem dX12_countGenerators_7 : decode cX12_countGenerators 7 = .ok (.iconst (-1), 1) := by decide +kernel
theorem dX12_countGenerators_8 : decode cX12_countGenerators 8 = .ok (.ireturn, 1) := by decide +kernel
theorem dX12_countGenerators_9 : decode cX12_countGenerators 9 = .ok (.aload_n 0, 1) := by decide +kernel
theorem dX12_countGenerators_10 : decode cX12_countGenerators 10 = .ok (.iload_n 1, 1) := by decide +kernel
theorem dX12_countGenerators_11 : decode cX12_countGenerators 11 = .ok (.iload_n 2, 1) := by decide +kernel
theorem dX12_countGenerators_12 : decode cX12_countGenerators 12 = .ok (.invokevirtual 188, 3) := by decide +kernel
theorem dX12_countGenerators_15 : decode cX12_countGenerators 15 = .ok (.aload_n 0, 1) := by decide +kernel
theorem dX12_countGenerators_16 : decode cX12_countGenerators 16 = .ok (.getfield 177, 3) := by decide +kernel
theorem dX12_countGenerators_19 : decode cX12_countGenerators 19 = .ok (.ireturn, 1) := by decide +kernel
theorem dX12_generatorAt_0 : decode cX12_generatorAt 0 = .ok (.iload_n 1, 1) := by decide +kernel
theorem dX12_generatorAt_1 : decode cX12_generatorAt 1 = .ok (.invokestatic 185, 3) := by decide +kernel
theorem dX12_generatorAt_4 : decode cX12_generatorAt 4 = .ok (.ifCond .eq 7, 3) := by decide +kernel
theorem dX12_generatorAt_7 : decode cX12_generatorAt 7 = .ok (.iload_n 3, 1) := by decide +kernel
theorem dX12_generatorAt_8 : decode cX12_generatorAt 8 = .ok (.ifCond .ge 5, 3) := by decide +kernel
theorem dX12_generatorAt_11 : decode cX12_generatorAt 11 = .ok (.iconst (-1), 1) := by decide +kernel
theorem dX12_generatorAt_12 : decode cX12_generatorAt 12 = .ok (.ireturn, 1) := by decide +kernel
theorem dX12_generatorAt_13 : decode cX12_generatorAt 13 = .ok (.aload_n 0, 1) := by decide +kernel
theorem dX12_generatorAt_14 : decode cX12_generatorAt 14 = .ok (.iload_n 1, 1) := by decide +kernel
theorem dX12_generatorAt_15 : decode cX12_generatorAt 15 = .ok (.iload_n 2, 1) := by decide +kernel
theorem dX12_generatorAt_16 : decode cX12_generatorAt 16 = .ok (.invokevirtual 188, 3) := by decide +kernel
theorem dX12_generatorAt_19 : decode cX12_generatorAt 19 = .ok (.iload_n 3, 1) := by decide +kernel
theorem dX12_generatorAt_20 : decode cX12_generatorAt 20 = .ok (.aload_n 0, 1) := by decide +kernel
theorem dX12_generatorAt_21 : decode cX12_generatorAt 21 = .ok (.getfield 177, 3) := by decide +kernel
theorem dX12_generatorAt_24 : decode cX12_generatorAt 24 = .ok (.if_icmp .ge 12, 3) := by decide +kernel
theorem dX12_generatorAt_27 : decode cX12_generatorAt 27 = .ok (.aload_n 0, 1) := by decide +kernel
theorem dX12_generatorAt_28 : decode cX12_generatorAt 28 = .ok (.getfield 41, 3) := by decide +kernel
theorem dX12_generatorAt_31 : decode cX12_generatorAt 31 = .ok (.iload_n 3, 1) := by decide +kernel
theorem dX12_generatorAt_32 : decode cX12_generatorAt 32 = .ok (.iaload, 1) := by decide +kernel
theorem dX12_generatorAt_33 : decode cX12_generatorAt 33 = .ok (.goto 5, 3) := by decide +kernel
theorem dX12_generatorAt_36 : decode cX12_generatorAt 36 = .ok (.bipush (-2), 2) := by decide +kernel
theorem dX12_generatorAt_38 : decode cX12_generatorAt 38 = .ok (.ireturn, 1) := by decide +kernel
theorem dX12_generatorCount_0 : decode cX12_generatorCount 0 = .ok (.aload_n 0, 1) := by decide +kernel
theorem dX12_generatorCount_1 : decode cX12_generatorCount 1 = .ok (.iload_n 1, 1) := by decide +kernel
theorem dX12_generatorCount_2 : decode cX12_generatorCount 2 = .ok (.iconst 0, 1) := by decide +kernel
theorem dX12_generatorCount_3 : decode cX12_generatorCount 3 = .ok (.invokevirtual 192, 3) := by decide +kernel
theorem dX12_generatorCount_6 : decode cX12_generatorCount 6 = .ok (.ireturn, 1) := by decide +kernel
theorem dX12_generator_0 : decode cX12_generator 0 = .ok (.aload_n 0, 1) := by decide +kernel
theorem dX12_generator_1 : decode cX12_generator 1 = .ok (.iload_n 1, 1) := by decide +kernel
theorem dX12_generator_2 : decode cX12_generator 2 = .ok (.iconst 0, 1) := by decide +kernel
theorem dX12_generator_3 : decode cX12_generator 3 = .ok (.iload_n 2, 1) := by decide +kernel
theorem dX12_generator_4 : decode cX12_generator 4 = .ok (.invokevirtual 196, 3) := by decide +kernel
theorem dX12_generator_7 : decode cX12_generator 7 = .ok (.ireturn, 1) := by decide +kernel
theorem dX12_symbolicGeneratorCount_0 : decode cX12_symbolicGeneratorCount 0 = .ok (.aload_n 0, 1) := by decide +kernel
theorem dX12_symbolicGeneratorCount_1 : decode cX12_symbolicGeneratorCount 1 = .ok (.iload_n 1, 1) := by decide +kernel
theorem dX12_symbolicGeneratorCount_2 : decode cX12_symbolicGeneratorCount 2 = .ok (.iconst 1, 1) := by decide +kernel
theorem dX12_symbolicGeneratorCount_3 : decode cX12_symbolicGeneratorCount 3 = .ok (.invokevirtual 192, 3) := by decide +kernel
theorem dX12_symbolicGeneratorCount_6 : decode cX12_symbolicGeneratorCount 6 = .ok (.ireturn, 1) := by decide +kernel
theorem dX12_symbolicGenerator_0 : decode cX12_symbolicGenerator 0 = .ok (.aload_n 0, 1) := by decide +kernel
theorem dX12_symbolicGenerator_1 : decode cX12_symbolicGenerator 1 = .ok (.iload_n 1, 1) := by decide +kernel
theorem dX12_symbolicGenerator_2 : decode cX12_symbolicGenerator 2 = .ok (.iconst 1, 1) := by decide +kernel
theorem dX12_symbolicGenerator_3 : decode cX12_symbolicGenerator 3 = .ok (.iload_n 2, 1) := by decide +kernel
theorem dX12_symbolicGenerator_4 : decode cX12_symbolicGenerator 4 = .ok (.invokevirtual 196, 3) := by decide +kernel
theorem dX12_symbolicGenerator_7 : decode cX12_symbolicGenerator 7 = .ok (.ireturn, 1) := by decide +kernel
theorem dX12_powersAgree_0 : decode cX12_powersAgree 0 = .ok (.iload_n 1, 1) := by decide +kernel
theorem dX12_powersAgree_1 : decode cX12_powersAgree 1 = .ok (.invokestatic 185, 3) := by decide +kernel
theorem dX12_powersAgree_4 : decode cX12_powersAgree 4 = .ok (.ifCond .ne 5, 3) := by decide +kernel
theorem dX12_powersAgree_7 : decode cX12_powersAgree 7 = .ok (.iconst (-1), 1) := by decide +kernel
theorem dX12_powersAgree_8 : decode cX12_powersAgree 8 = .ok (.ireturn, 1) := by decide +kernel
theorem dX12_powersAgree_9 : decode cX12_powersAgree 9 = .ok (.aload_n 0, 1) := by decide +kernel
theorem dX12_powersAgree_10 : decode cX12_powersAgree 10 = .ok (.invokevirtual 144, 3) := by decide +kernel
theorem dX12_powersAgree_13 : decode cX12_powersAgree 13 = .ok (.iconst 0, 1) := by decide +kernel
theorem dX12_powersAgree_14 : decode cX12_powersAgree 14 = .ok (.istore_n 2, 1) := by decide +kernel
theorem dX12_powersAgree_15 : decode cX12_powersAgree 15 = .ok (.iload_n 2, 1) := by decide +kernel
theorem dX12_powersAgree_16 : decode cX12_powersAgree 16 = .ok (.aload_n 0, 1) := by decide +kernel
theorem dX12_powersAgree_17 : decode cX12_powersAgree 17 = .ok (.invokevirtual 125, 3) := by decide +kernel
theorem dX12_powersAgree_20 : decode cX12_powersAgree 20 = .ok (.if_icmp .ge 28, 3) := by decide +kernel
theorem dX12_powersAgree_23 : decode cX12_powersAgree 23 = .ok (.aload_n 0, 1) := by decide +kernel
theorem dX12_powersAgree_24 : decode cX12_powersAgree 24 = .ok (.iload_n 2, 1) := by decide +kernel
theorem dX12_powersAgree_25 : decode cX12_powersAgree 25 = .ok (.iload_n 1, 1) := by decide +kernel
theorem dX12_powersAgree_26 : decode cX12_powersAgree 26 = .ok (.iconst 0, 1) := by decide +kernel
theorem dX12_powersAgree_27 : decode cX12_powersAgree 27 = .ok (.invokevirtual 180, 3) := by decide +kernel
theorem dX12_powersAgree_30 : decode cX12_powersAgree 30 = .ok (.aload_n 0, 1) := by decide +kernel
theorem dX12_powersAgree_31 : decode cX12_powersAgree 31 = .ok (.iload_n 2, 1) := by decide +kernel
theorem dX12_powersAgree_32 : decode cX12_powersAgree 32 = .ok (.iload_n 1, 1) := by decide +kernel
theorem dX12_powersAgree_33 : decode cX12_powersAgree 33 = .ok (.iconst 1, 1) := by decide +kernel
theorem dX12_powersAgree_34 : decode cX12_powersAgree 34 = .ok (.invokevirtual 180, 3) := by decide +kernel
theorem dX12_powersAgree_37 : decode cX12_powersAgree 37 = .ok (.if_icmp .eq 5, 3) := by decide +kernel
theorem dX12_powersAgree_40 : decode cX12_powersAgree 40 = .ok (.iconst 0, 1) := by decide +kernel
theorem dX12_powersAgree_41 : decode cX12_powersAgree 41 = .ok (.ireturn, 1) := by decide +kernel
theorem dX12_powersAgree_42 : decode cX12_powersAgree 42 = .ok (.iinc 2 1, 3) := by decide +kernel
theorem dX12_powersAgree_45 : decode cX12_powersAgree 45 = .ok (.goto (-30), 3) := by decide +kernel
theorem dX12_powersAgree_48 : decode cX12_powersAgree 48 = .ok (.iconst 1, 1) := by decide +kernel
theorem dX12_powersAgree_49 : decode cX12_powersAgree 49 = .ok (.ireturn, 1) := by decide +kernel
theorem dX12_firstDifference_0 : decode cX12_firstDifference 0 = .ok (.iload_n 1, 1) := by decide +kernel
theorem dX12_firstDifference_1 : decode cX12_firstDifference 1 = .ok (.invokestatic 185, 3) := by decide +kernel
theorem dX12_firstDifference_4 : decode cX12_firstDifference 4 = .ok (.ifCond .ne 5, 3) := by decide +kernel
theorem dX12_firstDifference_7 : decode cX12_firstDifference 7 = .ok (.iconst (-1), 1) := by decide +kernel
theorem dX12_firstDifference_8 : decode cX12_firstDifference 8 = .ok (.ireturn, 1) := by decide +kernel
theorem dX12_firstDifference_9 : decode cX12_firstDifference 9 = .ok (.aload_n 0, 1) := by decide +kernel
theorem dX12_firstDifference_10 : decode cX12_firstDifference 10 = .ok (.invokevirtual 144, 3) := by decide +kernel
theorem dX12_firstDifference_13 : decode cX12_firstDifference 13 = .ok (.iconst 0, 1) := by decide +kernel
theorem dX12_firstDifference_14 : decode cX12_firstDifference 14 = .ok (.istore_n 2, 1) := by decide +kernel
theorem dX12_firstDifference_15 : decode cX12_firstDifference 15 = .ok (.iload_n 2, 1) := by decide +kernel
theorem dX12_firstDifference_16 : decode cX12_firstDifference 16 = .ok (.aload_n 0, 1) := by decide +kernel
theorem dX12_firstDifference_17 : decode cX12_firstDifference 17 = .ok (.invokevirtual 125, 3) := by decide +kernel
theorem dX12_firstDifference_20 : decode cX12_firstDifference 20 = .ok (.if_icmp .ge 31, 3) := by decide +kernel
theorem dX12_firstDifference_23 : decode cX12_firstDifference 23 = .ok (.aload_n 0, 1) := by decide +kernel
theorem dX12_firstDifference_24 : decode cX12_firstDifference 24 = .ok (.iload_n 2, 1) := by decide +kernel
theorem dX12_firstDifference_25 : decode cX12_firstDifference 25 = .ok (.iload_n 1, 1) := by decide +kernel
theorem dX12_firstDifference_26 : decode cX12_firstDifference 26 = .ok (.iconst 1, 1) := by decide +kernel
theorem dX12_firstDifference_27 : decode cX12_firstDifference 27 = .ok (.invokevirtual 180, 3) := by decide +kernel
theorem dX12_firstDifference_30 : decode cX12_firstDifference 30 = .ok (.ifCond .eq 15, 3) := by decide +kernel
theorem dX12_firstDifference_33 : decode cX12_firstDifference 33 = .ok (.aload_n 0, 1) := by decide +kernel
theorem dX12_firstDifference_34 : decode cX12_firstDifference 34 = .ok (.iload_n 2, 1) := by decide +kernel
theorem dX12_firstDifference_35 : decode cX12_firstDifference 35 = .ok (.iload_n 1, 1) := by decide +kernel
theorem dX12_firstDifference_36 : decode cX12_firstDifference 36 = .ok (.iconst 0, 1) := by decide +kernel
theorem dX12_firstDifference_37 : decode cX12_firstDifference 37 = .ok (.invokevirtual 173, 3) := by decide +kernel
theorem dX12_firstDifference_40 : decode cX12_firstDifference 40 = .ok (.ifCond .ne 5, 3) := by decide +kernel
theorem dX12_firstDifference_43 : decode cX12_firstDifference 43 = .ok (.iload_n 2, 1) := by decide +kernel
theorem dX12_firstDifference_44 : decode cX12_firstDifference 44 = .ok (.ireturn, 1) := by decide +kernel
theorem dX12_firstDifference_45 : decode cX12_firstDifference 45 = .ok (.iinc 2 1, 3) := by decide +kernel
theorem dX12_firstDifference_48 : decode cX12_firstDifference 48 = .ok (.goto (-33), 3) := by decide +kernel
theorem dX12_firstDifference_51 : decode cX12_firstDifference 51 = .ok (.bipush (-2), 2) := by decide +kernel
theorem dX12_firstDifference_53 : decode cX12_firstDifference 53 = .ok (.ireturn, 1) := by decide +kernel
theorem dX12_countIn_0 : decode cX12_countIn 0 = .ok (.iload_n 1, 1) := by decide +kernel
theorem dX12_countIn_1 : decode cX12_countIn 1 = .ok (.invokestatic 185, 3) := by decide +kernel
theorem dX12_countIn_4 : decode cX12_countIn 4 = .ok (.ifCond .eq 15, 3) := by decide +kernel
theorem dX12_countIn_7 : decode cX12_countIn 7 = .ok (.iload_n 2, 1) := by decide +kernel
theorem dX12_countIn_8 : decode cX12_countIn 8 = .ok (.i2l, 1) := by decide +kernel
theorem dX12_countIn_9 : decode cX12_countIn 9 = .ok (.lconst 0, 1) := by decide +kernel
theorem dX12_countIn_10 : decode cX12_countIn 10 = .ok (.ldc2_w 200, 3) := by decide +kernel
theorem dX12_countIn_13 : decode cX12_countIn 13 = .ok (.invokestatic 79, 3) := by decide +kernel
theorem dX12_countIn_16 : decode cX12_countIn 16 = .ok (.ifCond .ne 5, 3) := by decide +kernel
theorem dX12_countIn_19 : decode cX12_countIn 19 = .ok (.iconst (-1), 1) := by decide +kernel
theorem dX12_countIn_20 : decode cX12_countIn 20 = .ok (.ireturn, 1) := by decide +kernel
theorem dX12_countIn_21 : decode cX12_countIn 21 = .ok (.aload_n 0, 1) := by decide +kernel
theorem dX12_countIn_22 : decode cX12_countIn 22 = .ok (.invokevirtual 144, 3) := by decide +kernel
theorem dX12_countIn_25 : decode cX12_countIn 25 = .ok (.iconst 0, 1) := by decide +kernel
theorem dX12_countIn_26 : decode cX12_countIn 26 = .ok (.istore 4, 2) := by decide +kernel
theorem dX12_countIn_28 : decode cX12_countIn 28 = .ok (.iconst 0, 1) := by decide +kernel
theorem dX12_countIn_29 : decode cX12_countIn 29 = .ok (.istore 5, 2) := by decide +kernel
theorem dX12_countIn_31 : decode cX12_countIn 31 = .ok (.iload 5, 2) := by decide +kernel
theorem dX12_countIn_33 : decode cX12_countIn 33 = .ok (.aload_n 0, 1) := by decide +kernel
theorem dX12_countIn_34 : decode cX12_countIn 34 = .ok (.invokevirtual 125, 3) := by decide +kernel
theorem dX12_countIn_37 : decode cX12_countIn 37 = .ok (.if_icmp .ge 39, 3) := by decide +kernel
theorem dX12_countIn_40 : decode cX12_countIn 40 = .ok (.iload 4, 2) := by decide +kernel
theorem dX12_countIn_42 : decode cX12_countIn 42 = .ok (.iload 5, 2) := by decide +kernel
theorem dX12_countIn_44 : decode cX12_countIn 44 = .ok (.invokestatic 163, 3) := by decide +kernel
theorem dX12_countIn_47 : decode cX12_countIn 47 = .ok (.iload_n 2, 1) := by decide +kernel
theorem dX12_countIn_48 : decode cX12_countIn 48 = .ok (.if_icmp .ne 18, 3) := by decide +kernel
theorem dX12_countIn_51 : decode cX12_countIn 51 = .ok (.aload_n 0, 1) := by decide +kernel
theorem dX12_countIn_52 : decode cX12_countIn 52 = .ok (.iload 5, 2) := by decide +kernel
theorem dX12_countIn_54 : decode cX12_countIn 54 = .ok (.iload_n 1, 1) := by decide +kernel
theorem dX12_countIn_55 : decode cX12_countIn 55 = .ok (.iload_n 3, 1) := by decide +kernel
theorem dX12_countIn_56 : decode cX12_countIn 56 = .ok (.invokevirtual 173, 3) := by decide +kernel
theorem dX12_countIn_59 : decode cX12_countIn 59 = .ok (.ifCond .eq 7, 3) := by decide +kernel
theorem dX12_countIn_62 : decode cX12_countIn 62 = .ok (.iconst 1, 1) := by decide +kernel
theorem dX12_countIn_63 : decode cX12_countIn 63 = .ok (.goto 4, 3) := by decide +kernel
theorem dX12_countIn_66 : decode cX12_countIn 66 = .ok (.iconst 0, 1) := by decide +kernel
theorem dX12_countIn_67 : decode cX12_countIn 67 = .ok (.iadd, 1) := by decide +kernel
theorem dX12_countIn_68 : decode cX12_countIn 68 = .ok (.istore 4, 2) := by decide +kernel
theorem dX12_countIn_70 : decode cX12_countIn 70 = .ok (.iinc 5 1, 3) := by decide +kernel
theorem dX12_countIn_73 : decode cX12_countIn 73 = .ok (.goto (-42), 3) := by decide +kernel
theorem dX12_countIn_76 : decode cX12_countIn 76 = .ok (.iload 4, 2) := by decide +kernel
theorem dX12_countIn_78 : decode cX12_countIn 78 = .ok (.ireturn, 1) := by decide +kernel
theorem dX12_countInPower_0 : decode cX12_countInPower 0 = .ok (.aload_n 0, 1) := by decide +kernel
theorem dX12_countInPower_1 : decode cX12_countInPower 1 = .ok (.iload_n 1, 1) := by decide +kernel
theorem dX12_countInPower_2 : decode cX12_countInPower 2 = .ok (.iload_n 2, 1) := by decide +kernel
theorem dX12_countInPower_3 : decode cX12_countInPower 3 = .ok (.iconst 0, 1) := by decide +kernel
theorem dX12_countInPower_4 : decode cX12_countInPower 4 = .ok (.invokevirtual 202, 3) := by decide +kernel
theorem dX12_countInPower_7 : decode cX12_countInPower 7 = .ok (.ireturn, 1) := by decide +kernel
theorem dX12_countInSymbolicPower_0 : decode cX12_countInSymbolicPower 0 = .ok (.aload_n 0, 1) := by decide +kernel
theorem dX12_countInSymbolicPower_1 : decode cX12_countInSymbolicPower 1 = .ok (.iload_n 1, 1) := by decide +kernel
theorem dX12_countInSymbolicPower_2 : decode cX12_countInSymbolicPower 2 = .ok (.iload_n 2, 1) := by decide +kernel
theorem dX12_countInSymbolicPower_3 : decode cX12_countInSymbolicPower 3 = .ok (.iconst 1, 1) := by decide +kernel
theorem dX12_countInSymbolicPower_4 : decode cX12_countInSymbolicPower 4 = .ok (.invokevirtual 202, 3) := by decide +kernel
theorem dX12_countInSymbolicPower_7 : decode cX12_countInSymbolicPower 7 = .ok (.ireturn, 1) := by decide +kernel
theorem dX12_readOrder_0 : decode cX12_readOrder 0 = .ok (.iconst 0, 1) := by decide +kernel
theorem dX12_readOrder_1 : decode cX12_readOrder 1 = .ok (.istore_n 2, 1) := by decide +kernel
theorem dX12_readOrder_2 : decode cX12_readOrder 2 = .ok (.iload_n 1, 1) := by decide +kernel
theorem dX12_readOrder_3 : decode cX12_readOrder 3 = .ok (.istore_n 3, 1) := by decide +kernel
theorem dX12_readOrder_4 : decode cX12_readOrder 4 = .ok (.aload_n 0, 1) := by decide +kernel
theorem dX12_readOrder_5 : decode cX12_readOrder 5 = .ok (.getfield 9, 3) := by decide +kernel
theorem dX12_readOrder_8 : decode cX12_readOrder 8 = .ok (.iconst 1, 1) := by decide +kernel
theorem dX12_readOrder_9 : decode cX12_readOrder 9 = .ok (.isub, 1) := by decide +kernel
theorem dX12_readOrder_10 : decode cX12_readOrder 10 = .ok (.istore 4, 2) := by decide +kernel
theorem dX12_readOrder_12 : decode cX12_readOrder 12 = .ok (.iload 4, 2) := by decide +kernel
theorem dX12_readOrder_14 : decode cX12_readOrder 14 = .ok (.ifCond .lt 59, 3) := by decide +kernel
theorem dX12_readOrder_17 : decode cX12_readOrder 17 = .ok (.iload_n 3, 1) := by decide +kernel
theorem dX12_readOrder_18 : decode cX12_readOrder 18 = .ok (.bipush 10, 2) := by decide +kernel
theorem dX12_readOrder_20 : decode cX12_readOrder 20 = .ok (.irem, 1) := by decide +kernel
theorem dX12_readOrder_21 : decode cX12_readOrder 21 = .ok (.iconst 1, 1) := by decide +kernel
theorem dX12_readOrder_22 : decode cX12_readOrder 22 = .ok (.isub, 1) := by decide +kernel
theorem dX12_readOrder_23 : decode cX12_readOrder 23 = .ok (.istore 5, 2) := by decide +kernel
theorem dX12_readOrder_25 : decode cX12_readOrder 25 = .ok (.aload_n 0, 1) := by decide +kernel
theorem dX12_readOrder_26 : decode cX12_readOrder 26 = .ok (.iload 5, 2) := by decide +kernel
theorem dX12_readOrder_28 : decode cX12_readOrder 28 = .ok (.invokevirtual 88, 3) := by decide +kernel
theorem dX12_readOrder_31 : decode cX12_readOrder 31 = .ok (.ifCond .eq 13, 3) := by decide +kernel
theorem dX12_readOrder_34 : decode cX12_readOrder 34 = .ok (.iload_n 2, 1) := by decide +kernel
theorem dX12_readOrder_35 : decode cX12_readOrder 35 = .ok (.iload 5, 2) := by decide +kernel
theorem dX12_readOrder_37 : decode cX12_readOrder 37 = .ok (.ishr, 1) := by decide +kernel
theorem dX12_readOrder_38 : decode cX12_readOrder 38 = .ok (.iconst 1, 1) := by decide +kernel
theorem dX12_readOrder_39 : decode cX12_readOrder 39 = .ok (.iand, 1) := by decide +kernel
theorem dX12_readOrder_40 : decode cX12_readOrder 40 = .ok (.iconst 1, 1) := by decide +kernel
theorem dX12_readOrder_41 : decode cX12_readOrder 41 = .ok (.if_icmp .ne 5, 3) := by decide +kernel
theorem dX12_readOrder_44 : decode cX12_readOrder 44 = .ok (.iconst 0, 1) := by decide +kernel
theorem dX12_readOrder_45 : decode cX12_readOrder 45 = .ok (.ireturn, 1) := by decide +kernel
theorem dX12_readOrder_46 : decode cX12_readOrder 46 = .ok (.iload_n 2, 1) := by decide +kernel
theorem dX12_readOrder_47 : decode cX12_readOrder 47 = .ok (.iconst 1, 1) := by decide +kernel
theorem dX12_readOrder_48 : decode cX12_readOrder 48 = .ok (.iload 5, 2) := by decide +kernel
theorem dX12_readOrder_50 : decode cX12_readOrder 50 = .ok (.ishl, 1) := by decide +kernel
theorem dX12_readOrder_51 : decode cX12_readOrder 51 = .ok (.ior, 1) := by decide +kernel
theorem dX12_readOrder_52 : decode cX12_readOrder 52 = .ok (.istore_n 2, 1) := by decide +kernel
theorem dX12_readOrder_53 : decode cX12_readOrder 53 = .ok (.aload_n 0, 1) := by decide +kernel
theorem dX12_readOrder_54 : decode cX12_readOrder 54 = .ok (.getfield 44, 3) := by decide +kernel
theorem dX12_readOrder_57 : decode cX12_readOrder 57 = .ok (.iload 4, 2) := by decide +kernel
theorem dX12_readOrder_59 : decode cX12_readOrder 59 = .ok (.iload 5, 2) := by decide +kernel
theorem dX12_readOrder_61 : decode cX12_readOrder 61 = .ok (.iastore, 1) := by decide +kernel
theorem dX12_readOrder_62 : decode cX12_readOrder 62 = .ok (.iload_n 3, 1) := by decide +kernel
theorem dX12_readOrder_63 : decode cX12_readOrder 63 = .ok (.bipush 10, 2) := by decide +kernel
theorem dX12_readOrder_65 : decode cX12_readOrder 65 = .ok (.idiv, 1) := by decide +kernel
theorem dX12_readOrder_66 : decode cX12_readOrder 66 = .ok (.istore_n 3, 1) := by decide +kernel
theorem dX12_readOrder_67 : decode cX12_readOrder 67 = .ok (.iinc 4 (-1), 3) := by decide +kernel
theorem dX12_readOrder_70 : decode cX12_readOrder 70 = .ok (.goto (-58), 3) := by decide +kernel
theorem dX12_readOrder_73 : decode cX12_readOrder 73 = .ok (.iload_n 3, 1) := by decide +kernel
theorem dX12_readOrder_74 : decode cX12_readOrder 74 = .ok (.ifCond .ne 7, 3) := by decide +kernel
theorem dX12_readOrder_77 : decode cX12_readOrder 77 = .ok (.iconst 1, 1) := by decide +kernel
theorem dX12_readOrder_78 : decode cX12_readOrder 78 = .ok (.goto 4, 3) := by decide +kernel
theorem dX12_readOrder_81 : decode cX12_readOrder 81 = .ok (.iconst 0, 1) := by decide +kernel
theorem dX12_readOrder_82 : decode cX12_readOrder 82 = .ok (.ireturn, 1) := by decide +kernel
theorem dX12_isBefore_0 : decode cX12_isBefore 0 = .ok (.iconst 0, 1) := by decide +kernel
theorem dX12_isBefore_1 : decode cX12_isBefore 1 = .ok (.istore_n 3, 1) := by decide +kernel
theorem dX12_isBefore_2 : decode cX12_isBefore 2 = .ok (.iload_n 3, 1) := by decide +kernel
theorem dX12_isBefore_3 : decode cX12_isBefore 3 = .ok (.aload_n 0, 1) := by decide +kernel
theorem dX12_isBefore_4 : decode cX12_isBefore 4 = .ok (.getfield 9, 3) := by decide +kernel
theorem dX12_isBefore_7 : decode cX12_isBefore 7 = .ok (.if_icmp .ge 48, 3) := by decide +kernel
theorem dX12_isBefore_10 : decode cX12_isBefore 10 = .ok (.iload_n 1, 1) := by decide +kernel
theorem dX12_isBefore_11 : decode cX12_isBefore 11 = .ok (.aload_n 0, 1) := by decide +kernel
theorem dX12_isBefore_12 : decode cX12_isBefore 12 = .ok (.getfield 44, 3) := by decide +kernel
theorem dX12_isBefore_15 : decode cX12_isBefore 15 = .ok (.iload_n 3, 1) := by decide +kernel
theorem dX12_isBefore_16 : decode cX12_isBefore 16 = .ok (.iaload, 1) := by decide +kernel
theorem dX12_isBefore_17 : decode cX12_isBefore 17 = .ok (.invokestatic 128, 3) := by decide +kernel
theorem dX12_isBefore_20 : decode cX12_isBefore 20 = .ok (.iload_n 2, 1) := by decide +kernel
theorem dX12_isBefore_21 : decode cX12_isBefore 21 = .ok (.aload_n 0, 1) := by decide +kernel
theorem dX12_isBefore_22 : decode cX12_isBefore 22 = .ok (.getfield 44, 3) := by decide +kernel
theorem dX12_isBefore_25 : decode cX12_isBefore 25 = .ok (.iload_n 3, 1) := by decide +kernel
theorem dX12_isBefore_26 : decode cX12_isBefore 26 = .ok (.iaload, 1) := by decide +kernel
theorem dX12_isBefore_27 : decode cX12_isBefore 27 = .ok (.invokestatic 128, 3) := by decide +kernel
theorem dX12_isBefore_30 : decode cX12_isBefore 30 = .ok (.isub, 1) := by decide +kernel
theorem dX12_isBefore_31 : decode cX12_isBefore 31 = .ok (.istore 4, 2) := by decide +kernel
theorem dX12_isBefore_33 : decode cX12_isBefore 33 = .ok (.iload 4, 2) := by decide +kernel
theorem dX12_isBefore_35 : decode cX12_isBefore 35 = .ok (.ifCond .eq 14, 3) := by decide +kernel
theorem dX12_isBefore_38 : decode cX12_isBefore 38 = .ok (.iload 4, 2) := by decide +kernel
theorem dX12_isBefore_40 : decode cX12_isBefore 40 = .ok (.ifCond .le 7, 3) := by decide +kernel
theorem dX12_isBefore_43 : decode cX12_isBefore 43 = .ok (.iconst 1, 1) := by decide +kernel
theorem dX12_isBefore_44 : decode cX12_isBefore 44 = .ok (.goto 4, 3) := by decide +kernel
theorem dX12_isBefore_47 : decode cX12_isBefore 47 = .ok (.iconst 0, 1) := by decide +kernel
theorem dX12_isBefore_48 : decode cX12_isBefore 48 = .ok (.ireturn, 1) := by decide +kernel
theorem dX12_isBefore_49 : decode cX12_isBefore 49 = .ok (.iinc 3 1, 3) := by decide +kernel
theorem dX12_isBefore_52 : decode cX12_isBefore 52 = .ok (.goto (-50), 3) := by decide +kernel
theorem dX12_isBefore_55 : decode cX12_isBefore 55 = .ok (.iconst 0, 1) := by decide +kernel
theorem dX12_isBefore_56 : decode cX12_isBefore 56 = .ok (.ireturn, 1) := by decide +kernel
theorem dX12_sortGenerators_0 : decode cX12_sortGenerators 0 = .ok (.aload_n 0, 1) := by decide +kernel
theorem dX12_sortGenerators_1 : decode cX12_sortGenerators 1 = .ok (.iload_n 1, 1) := by decide +kernel
theorem dX12_sortGenerators_2 : decode cX12_sortGenerators 2 = .ok (.iconst 0, 1) := by decide +kernel
theorem dX12_sortGenerators_3 : decode cX12_sortGenerators 3 = .ok (.invokevirtual 188, 3) := by decide +kernel
theorem dX12_sortGenerators_6 : decode cX12_sortGenerators 6 = .ok (.iconst 1, 1) := by decide +kernel
theorem dX12_sortGenerators_7 : decode cX12_sortGenerators 7 = .ok (.istore_n 2, 1) := by decide +kernel
theorem dX12_sortGenerators_8 : decode cX12_sortGenerators 8 = .ok (.iload_n 2, 1) := by decide +kernel
theorem dX12_sortGenerators_9 : decode cX12_sortGenerators 9 = .ok (.aload_n 0, 1) := by decide +kernel
theorem dX12_sortGenerators_10 : decode cX12_sortGenerators 10 = .ok (.getfield 177, 3) := by decide +kernel
theorem dX12_sortGenerators_13 : decode cX12_sortGenerators 13 = .ok (.if_icmp .ge 71, 3) := by decide +kernel
theorem dX12_sortGenerators_16 : decode cX12_sortGenerators 16 = .ok (.aload_n 0, 1) := by decide +kernel
theorem dX12_sortGenerators_17 : decode cX12_sortGenerators 17 = .ok (.getfield 41, 3) := by decide +kernel
theorem dX12_sortGenerators_20 : decode cX12_sortGenerators 20 = .ok (.iload_n 2, 1) := by decide +kernel
theorem dX12_sortGenerators_21 : decode cX12_sortGenerators 21 = .ok (.iaload, 1) := by decide +kernel
theorem dX12_sortGenerators_22 : decode cX12_sortGenerators 22 = .ok (.istore_n 3, 1) := by decide +kernel
theorem dX12_sortGenerators_23 : decode cX12_sortGenerators 23 = .ok (.iload_n 2, 1) := by decide +kernel
theorem dX12_sortGenerators_24 : decode cX12_sortGenerators 24 = .ok (.istore 4, 2) := by decide +kernel
theorem dX12_sortGenerators_26 : decode cX12_sortGenerators 26 = .ok (.iload 4, 2) := by decide +kernel
theorem dX12_sortGenerators_28 : decode cX12_sortGenerators 28 = .ok (.ifCond .le 42, 3) := by decide +kernel
theorem dX12_sortGenerators_31 : decode cX12_sortGenerators 31 = .ok (.aload_n 0, 1) := by decide +kernel
theorem dX12_sortGenerators_32 : decode cX12_sortGenerators 32 = .ok (.iload_n 3, 1) := by decide +kernel
theorem dX12_sortGenerators_33 : decode cX12_sortGenerators 33 = .ok (.aload_n 0, 1) := by decide +kernel
theorem dX12_sortGenerators_34 : decode cX12_sortGenerators 34 = .ok (.getfield 41, 3) := by decide +kernel
theorem dX12_sortGenerators_37 : decode cX12_sortGenerators 37 = .ok (.iload 4, 2) := by decide +kernel
theorem dX12_sortGenerators_39 : decode cX12_sortGenerators 39 = .ok (.iconst 1, 1) := by decide +kernel
theorem dX12_sortGenerators_40 : decode cX12_sortGenerators 40 = .ok (.isub, 1) := by decide +kernel
theorem dX12_sortGenerators_41 : decode cX12_sortGenerators 41 = .ok (.iaload, 1) := by decide +kernel
theorem dX12_sortGenerators_42 : decode cX12_sortGenerators 42 = .ok (.invokevirtual 205, 3) := by decide +kernel
theorem dX12_sortGenerators_45 : decode cX12_sortGenerators 45 = .ok (.ifCond .eq 25, 3) := by decide +kernel
theorem dX12_sortGenerators_48 : decode cX12_sortGenerators 48 = .ok (.aload_n 0, 1) := by decide +kernel
theorem dX12_sortGenerators_49 : decode cX12_sortGenerators 49 = .ok (.getfield 41, 3) := by decide +kernel
theorem dX12_sortGenerators_52 : decode cX12_sortGenerators 52 = .ok (.iload 4, 2) := by decide +kernel
theorem dX12_sortGenerators_54 : decode cX12_sortGenerators 54 = .ok (.aload_n 0, 1) := by decide +kernel
theorem dX12_sortGenerators_55 : decode cX12_sortGenerators 55 = .ok (.getfield 41, 3) := by decide +kernel
theorem dX12_sortGenerators_58 : decode cX12_sortGenerators 58 = .ok (.iload 4, 2) := by decide +kernel
theorem dX12_sortGenerators_60 : decode cX12_sortGenerators 60 = .ok (.iconst 1, 1) := by decide +kernel
theorem dX12_sortGenerators_61 : decode cX12_sortGenerators 61 = .ok (.isub, 1) := by decide +kernel
theorem dX12_sortGenerators_62 : decode cX12_sortGenerators 62 = .ok (.iaload, 1) := by decide +kernel
theorem dX12_sortGenerators_63 : decode cX12_sortGenerators 63 = .ok (.iastore, 1) := by decide +kernel
theorem dX12_sortGenerators_64 : decode cX12_sortGenerators 64 = .ok (.iinc 4 (-1), 3) := by decide +kernel
theorem dX12_sortGenerators_67 : decode cX12_sortGenerators 67 = .ok (.goto (-41), 3) := by decide +kernel
theorem dX12_sortGenerators_70 : decode cX12_sortGenerators 70 = .ok (.aload_n 0, 1) := by decide +kernel
theorem dX12_sortGenerators_71 : decode cX12_sortGenerators 71 = .ok (.getfield 41, 3) := by decide +kernel
theorem dX12_sortGenerators_74 : decode cX12_sortGenerators 74 = .ok (.iload 4, 2) := by decide +kernel
theorem dX12_sortGenerators_76 : decode cX12_sortGenerators 76 = .ok (.iload_n 3, 1) := by decide +kernel
theorem dX12_sortGenerators_77 : decode cX12_sortGenerators 77 = .ok (.iastore, 1) := by decide +kernel
theorem dX12_sortGenerators_78 : decode cX12_sortGenerators 78 = .ok (.iinc 2 1, 3) := by decide +kernel
theorem dX12_sortGenerators_81 : decode cX12_sortGenerators 81 = .ok (.goto (-73), 3) := by decide +kernel
theorem dX12_sortGenerators_84 : decode cX12_sortGenerators 84 = .ok (.return_, 1) := by decide +kernel
theorem dX12_singleStep_0 : decode cX12_singleStep 0 = .ok (.bipush (-2), 2) := by decide +kernel
theorem dX12_singleStep_2 : decode cX12_singleStep 2 = .ok (.istore_n 3, 1) := by decide +kernel
theorem dX12_singleStep_3 : decode cX12_singleStep 3 = .ok (.iconst 0, 1) := by decide +kernel
theorem dX12_singleStep_4 : decode cX12_singleStep 4 = .ok (.istore 4, 2) := by decide +kernel
theorem dX12_singleStep_6 : decode cX12_singleStep 6 = .ok (.iload 4, 2) := by decide +kernel
theorem dX12_singleStep_8 : decode cX12_singleStep 8 = .ok (.aload_n 0, 1) := by decide +kernel
theorem dX12_singleStep_9 : decode cX12_singleStep 9 = .ok (.getfield 9, 3) := by decide +kernel
theorem dX12_singleStep_12 : decode cX12_singleStep 12 = .ok (.if_icmp .ge 58, 3) := by decide +kernel
theorem dX12_singleStep_15 : decode cX12_singleStep 15 = .ok (.iload_n 1, 1) := by decide +kernel
theorem dX12_singleStep_16 : decode cX12_singleStep 16 = .ok (.iload 4, 2) := by decide +kernel
theorem dX12_singleStep_18 : decode cX12_singleStep 18 = .ok (.invokestatic 128, 3) := by decide +kernel
theorem dX12_singleStep_21 : decode cX12_singleStep 21 = .ok (.iload_n 2, 1) := by decide +kernel
theorem dX12_singleStep_22 : decode cX12_singleStep 22 = .ok (.iload 4, 2) := by decide +kernel
theorem dX12_singleStep_24 : decode cX12_singleStep 24 = .ok (.invokestatic 128, 3) := by decide +kernel
theorem dX12_singleStep_27 : decode cX12_singleStep 27 = .ok (.isub, 1) := by decide +kernel
theorem dX12_singleStep_28 : decode cX12_singleStep 28 = .ok (.istore 5, 2) := by decide +kernel
theorem dX12_singleStep_30 : decode cX12_singleStep 30 = .ok (.iload 5, 2) := by decide +kernel
theorem dX12_singleStep_32 : decode cX12_singleStep 32 = .ok (.iconst 1, 1) := by decide +kernel
theorem dX12_singleStep_33 : decode cX12_singleStep 33 = .ok (.if_icmp .gt 15, 3) := by decide +kernel
theorem dX12_singleStep_36 : decode cX12_singleStep 36 = .ok (.iload 5, 2) := by decide +kernel
theorem dX12_singleStep_38 : decode cX12_singleStep 38 = .ok (.iconst 1, 1) := by decide +kernel
theorem dX12_singleStep_39 : decode cX12_singleStep 39 = .ok (.if_icmp .ne 12, 3) := by decide +kernel
theorem dX12_singleStep_42 : decode cX12_singleStep 42 = .ok (.iload_n 3, 1) := by decide +kernel
theorem dX12_singleStep_43 : decode cX12_singleStep 43 = .ok (.bipush (-2), 2) := by decide +kernel
theorem dX12_singleStep_45 : decode cX12_singleStep 45 = .ok (.if_icmp .eq 6, 3) := by decide +kernel
theorem dX12_singleStep_48 : decode cX12_singleStep 48 = .ok (.bipush (-2), 2) := by decide +kernel
theorem dX12_singleStep_50 : decode cX12_singleStep 50 = .ok (.ireturn, 1) := by decide +kernel
theorem dX12_singleStep_51 : decode cX12_singleStep 51 = .ok (.iload 5, 2) := by decide +kernel
theorem dX12_singleStep_53 : decode cX12_singleStep 53 = .ok (.iconst 1, 1) := by decide +kernel
theorem dX12_singleStep_54 : decode cX12_singleStep 54 = .ok (.if_icmp .ne 8, 3) := by decide +kernel
theorem dX12_singleStep_57 : decode cX12_singleStep 57 = .ok (.iload 4, 2) := by decide +kernel
theorem dX12_singleStep_59 : decode cX12_singleStep 59 = .ok (.goto 4, 3) := by decide +kernel
theorem dX12_singleStep_62 : decode cX12_singleStep 62 = .ok (.iload_n 3, 1) := by decide +kernel
theorem dX12_singleStep_63 : decode cX12_singleStep 63 = .ok (.istore_n 3, 1) := by decide +kernel
theorem dX12_singleStep_64 : decode cX12_singleStep 64 = .ok (.iinc 4 1, 3) := by decide +kernel
theorem dX12_singleStep_67 : decode cX12_singleStep 67 = .ok (.goto (-61), 3) := by decide +kernel
theorem dX12_singleStep_70 : decode cX12_singleStep 70 = .ok (.iload_n 3, 1) := by decide +kernel
theorem dX12_singleStep_71 : decode cX12_singleStep 71 = .ok (.ireturn, 1) := by decide +kernel
theorem dX12_colonSet_0 : decode cX12_colonSet 0 = .ok (.iconst 0, 1) := by decide +kernel
theorem dX12_colonSet_1 : decode cX12_colonSet 1 = .ok (.istore_n 2, 1) := by decide +kernel
theorem dX12_colonSet_2 : decode cX12_colonSet 2 = .ok (.iconst 0, 1) := by decide +kernel
theorem dX12_colonSet_3 : decode cX12_colonSet 3 = .ok (.istore_n 3, 1) := by decide +kernel
theorem dX12_colonSet_4 : decode cX12_colonSet 4 = .ok (.iload_n 3, 1) := by decide +kernel
theorem dX12_colonSet_5 : decode cX12_colonSet 5 = .ok (.iload_n 1, 1) := by decide +kernel
theorem dX12_colonSet_6 : decode cX12_colonSet 6 = .ok (.if_icmp .ge 45, 3) := by decide +kernel
theorem dX12_colonSet_9 : decode cX12_colonSet 9 = .ok (.aload_n 0, 1) := by decide +kernel
theorem dX12_colonSet_10 : decode cX12_colonSet 10 = .ok (.aload_n 0, 1) := by decide +kernel
theorem dX12_colonSet_11 : decode cX12_colonSet 11 = .ok (.getfield 41, 3) := by decide +kernel
theorem dX12_colonSet_14 : decode cX12_colonSet 14 = .ok (.iload_n 3, 1) := by decide +kernel
theorem dX12_colonSet_15 : decode cX12_colonSet 15 = .ok (.iaload, 1) := by decide +kernel
theorem dX12_colonSet_16 : decode cX12_colonSet 16 = .ok (.aload_n 0, 1) := by decide +kernel
theorem dX12_colonSet_17 : decode cX12_colonSet 17 = .ok (.getfield 41, 3) := by decide +kernel
theorem dX12_colonSet_20 : decode cX12_colonSet 20 = .ok (.iload_n 1, 1) := by decide +kernel
theorem dX12_colonSet_21 : decode cX12_colonSet 21 = .ok (.iaload, 1) := by decide +kernel
theorem dX12_colonSet_22 : decode cX12_colonSet 22 = .ok (.invokevirtual 208, 3) := by decide +kernel
theorem dX12_colonSet_25 : decode cX12_colonSet 25 = .ok (.istore 4, 2) := by decide +kernel
theorem dX12_colonSet_27 : decode cX12_colonSet 27 = .ok (.iload_n 2, 1) := by decide +kernel
theorem dX12_colonSet_28 : decode cX12_colonSet 28 = .ok (.iload 4, 2) := by decide +kernel
theorem dX12_colonSet_30 : decode cX12_colonSet 30 = .ok (.bipush (-2), 2) := by decide +kernel
theorem dX12_colonSet_32 : decode cX12_colonSet 32 = .ok (.if_icmp .ne 7, 3) := by decide +kernel
theorem dX12_colonSet_35 : decode cX12_colonSet 35 = .ok (.iconst 0, 1) := by decide +kernel
theorem dX12_colonSet_36 : decode cX12_colonSet 36 = .ok (.goto 7, 3) := by decide +kernel
theorem dX12_colonSet_39 : decode cX12_colonSet 39 = .ok (.iconst 1, 1) := by decide +kernel
theorem dX12_colonSet_40 : decode cX12_colonSet 40 = .ok (.iload 4, 2) := by decide +kernel
theorem dX12_colonSet_42 : decode cX12_colonSet 42 = .ok (.ishl, 1) := by decide +kernel
theorem dX12_colonSet_43 : decode cX12_colonSet 43 = .ok (.ior, 1) := by decide +kernel
theorem dX12_colonSet_44 : decode cX12_colonSet 44 = .ok (.istore_n 2, 1) := by decide +kernel
theorem dX12_colonSet_45 : decode cX12_colonSet 45 = .ok (.iinc 3 1, 3) := by decide +kernel
theorem dX12_colonSet_48 : decode cX12_colonSet 48 = .ok (.goto (-44), 3) := by decide +kernel
theorem dX12_colonSet_51 : decode cX12_colonSet 51 = .ok (.iload_n 2, 1) := by decide +kernel
theorem dX12_colonSet_52 : decode cX12_colonSet 52 = .ok (.ireturn, 1) := by decide +kernel
theorem dX12_isLinear_0 : decode cX12_isLinear 0 = .ok (.aload_n 0, 1) := by decide +kernel
theorem dX12_isLinear_1 : decode cX12_isLinear 1 = .ok (.iload_n 1, 1) := by decide +kernel
theorem dX12_isLinear_2 : decode cX12_isLinear 2 = .ok (.invokevirtual 211, 3) := by decide +kernel
theorem dX12_isLinear_5 : decode cX12_isLinear 5 = .ok (.istore_n 2, 1) := by decide +kernel
theorem dX12_isLinear_6 : decode cX12_isLinear 6 = .ok (.iconst 0, 1) := by decide +kernel
theorem dX12_isLinear_7 : decode cX12_isLinear 7 = .ok (.istore_n 3, 1) := by decide +kernel
theorem dX12_isLinear_8 : decode cX12_isLinear 8 = .ok (.iload_n 3, 1) := by decide +kernel
theorem dX12_isLinear_9 : decode cX12_isLinear 9 = .ok (.iload_n 1, 1) := by decide +kernel
theorem dX12_isLinear_10 : decode cX12_isLinear 10 = .ok (.if_icmp .ge 82, 3) := by decide +kernel
theorem dX12_isLinear_13 : decode cX12_isLinear 13 = .ok (.iconst 0, 1) := by decide +kernel
theorem dX12_isLinear_14 : decode cX12_isLinear 14 = .ok (.istore 4, 2) := by decide +kernel
theorem dX12_isLinear_16 : decode cX12_isLinear 16 = .ok (.iconst 0, 1) := by decide +kernel
theorem dX12_isLinear_17 : decode cX12_isLinear 17 = .ok (.istore 5, 2) := by decide +kernel
theorem dX12_isLinear_19 : decode cX12_isLinear 19 = .ok (.iload 5, 2) := by decide +kernel
theorem dX12_isLinear_21 : decode cX12_isLinear 21 = .ok (.aload_n 0, 1) := by decide +kernel
theorem dX12_isLinear_22 : decode cX12_isLinear 22 = .ok (.getfield 9, 3) := by decide +kernel
theorem dX12_isLinear_25 : decode cX12_isLinear 25 = .ok (.if_icmp .ge 54, 3) := by decide +kernel
theorem dX12_isLinear_28 : decode cX12_isLinear 28 = .ok (.iload 4, 2) := by decide +kernel
theorem dX12_isLinear_30 : decode cX12_isLinear 30 = .ok (.iload_n 2, 1) := by decide +kernel
theorem dX12_isLinear_31 : decode cX12_isLinear 31 = .ok (.iload 5, 2) := by decide +kernel
theorem dX12_isLinear_33 : decode cX12_isLinear 33 = .ok (.ishr, 1) := by decide +kernel
theorem dX12_isLinear_34 : decode cX12_isLinear 34 = .ok (.iconst 1, 1) := by decide +kernel
theorem dX12_isLinear_35 : decode cX12_isLinear 35 = .ok (.iand, 1) := by decide +kernel
theorem dX12_isLinear_36 : decode cX12_isLinear 36 = .ok (.iconst 1, 1) := by decide +kernel
theorem dX12_isLinear_37 : decode cX12_isLinear 37 = .ok (.if_icmp .ne 32, 3) := by decide +kernel
theorem dX12_isLinear_40 : decode cX12_isLinear 40 = .ok (.aload_n 0, 1) := by decide +kernel
theorem dX12_isLinear_41 : decode cX12_isLinear 41 = .ok (.getfield 41, 3) := by decide +kernel
theorem dX12_isLinear_44 : decode cX12_isLinear 44 = .ok (.iload_n 3, 1) := by decide +kernel
theorem dX12_isLinear_45 : decode cX12_isLinear 45 = .ok (.iaload, 1) := by decide +kernel
theorem dX12_isLinear_46 : decode cX12_isLinear 46 = .ok (.iload 5, 2) := by decide +kernel
theorem dX12_isLinear_48 : decode cX12_isLinear 48 = .ok (.invokestatic 128, 3) := by decide +kernel
theorem dX12_isLinear_51 : decode cX12_isLinear 51 = .ok (.aload_n 0, 1) := by decide +kernel
theorem dX12_isLinear_52 : decode cX12_isLinear 52 = .ok (.getfield 41, 3) := by decide +kernel
theorem dX12_isLinear_55 : decode cX12_isLinear 55 = .ok (.iload_n 1, 1) := by decide +kernel
theorem dX12_isLinear_56 : decode cX12_isLinear 56 = .ok (.iaload, 1) := by decide +kernel
theorem dX12_isLinear_57 : decode cX12_isLinear 57 = .ok (.iload 5, 2) := by decide +kernel
theorem dX12_isLinear_59 : decode cX12_isLinear 59 = .ok (.invokestatic 128, 3) := by decide +kernel
theorem dX12_isLinear_62 : decode cX12_isLinear 62 = .ok (.if_icmp .le 7, 3) := by decide +kernel
theorem dX12_isLinear_65 : decode cX12_isLinear 65 = .ok (.iconst 1, 1) := by decide +kernel
theorem dX12_isLinear_66 : decode cX12_isLinear 66 = .ok (.goto 4, 3) := by decide +kernel
theorem dX12_isLinear_69 : decode cX12_isLinear 69 = .ok (.iconst 0, 1) := by decide +kernel
theorem dX12_isLinear_70 : decode cX12_isLinear 70 = .ok (.ior, 1) := by decide +kernel
theorem dX12_isLinear_71 : decode cX12_isLinear 71 = .ok (.istore 4, 2) := by decide +kernel
theorem dX12_isLinear_73 : decode cX12_isLinear 73 = .ok (.iinc 5 1, 3) := by decide +kernel
theorem dX12_isLinear_76 : decode cX12_isLinear 76 = .ok (.goto (-57), 3) := by decide +kernel
theorem dX12_isLinear_79 : decode cX12_isLinear 79 = .ok (.iload 4, 2) := by decide +kernel
theorem dX12_isLinear_81 : decode cX12_isLinear 81 = .ok (.ifCond .ne 5, 3) := by decide +kernel
theorem dX12_isLinear_84 : decode cX12_isLinear 84 = .ok (.iconst 0, 1) := by decide +kernel
theorem dX12_isLinear_85 : decode cX12_isLinear 85 = .ok (.ireturn, 1) := by decide +kernel
theorem dX12_isLinear_86 : decode cX12_isLinear 86 = .ok (.iinc 3 1, 3) := by decide +kernel
theorem dX12_isLinear_89 : decode cX12_isLinear 89 = .ok (.goto (-81), 3) := by decide +kernel
theorem dX12_isLinear_92 : decode cX12_isLinear 92 = .ok (.iconst 1, 1) := by decide +kernel
theorem dX12_isLinear_93 : decode cX12_isLinear 93 = .ok (.ireturn, 1) := by decide +kernel
theorem dX12_orderError_0 : decode cX12_orderError 0 = .ok (.iload_n 1, 1) := by decide +kernel
theorem dX12_orderError_1 : decode cX12_orderError 1 = .ok (.invokestatic 185, 3) := by decide +kernel
theorem dX12_orderError_4 : decode cX12_orderError 4 = .ok (.ifCond .eq 15, 3) := by decide +kernel
theorem dX12_orderError_7 : decode cX12_orderError 7 = .ok (.aload_n 0, 1) := by decide +kernel
theorem dX12_orderError_8 : decode cX12_orderError 8 = .ok (.iload_n 2, 1) := by decide +kernel
theorem dX12_orderError_9 : decode cX12_orderError 9 = .ok (.invokevirtual 214, 3) := by decide +kernel
theorem dX12_orderError_12 : decode cX12_orderError 12 = .ok (.ifCond .eq 7, 3) := by decide +kernel
theorem dX12_orderError_15 : decode cX12_orderError 15 = .ok (.iload_n 3, 1) := by decide +kernel
theorem dX12_orderError_16 : decode cX12_orderError 16 = .ok (.ifCond .ge 5, 3) := by decide +kernel
theorem dX12_orderError_19 : decode cX12_orderError 19 = .ok (.iconst (-1), 1) := by decide +kernel
theorem dX12_orderError_20 : decode cX12_orderError 20 = .ok (.ireturn, 1) := by decide +kernel
theorem dX12_orderError_21 : decode cX12_orderError 21 = .ok (.aload_n 0, 1) := by decide +kernel
theorem dX12_orderError_22 : decode cX12_orderError 22 = .ok (.iload_n 1, 1) := by decide +kernel
theorem dX12_orderError_23 : decode cX12_orderError 23 = .ok (.invokevirtual 217, 3) := by decide +kernel
theorem dX12_orderError_26 : decode cX12_orderError 26 = .ok (.iload_n 3, 1) := by decide +kernel
theorem dX12_orderError_27 : decode cX12_orderError 27 = .ok (.aload_n 0, 1) := by decide +kernel
theorem dX12_orderError_28 : decode cX12_orderError 28 = .ok (.getfield 177, 3) := by decide +kernel
theorem dX12_orderError_31 : decode cX12_orderError 31 = .ok (.if_icmp .ge 7, 3) := by decide +kernel
theorem dX12_orderError_34 : decode cX12_orderError 34 = .ok (.iconst 0, 1) := by decide +kernel
theorem dX12_orderError_35 : decode cX12_orderError 35 = .ok (.goto 5, 3) := by decide +kernel
theorem dX12_orderError_38 : decode cX12_orderError 38 = .ok (.bipush (-2), 2) := by decide +kernel
theorem dX12_orderError_40 : decode cX12_orderError 40 = .ok (.ireturn, 1) := by decide +kernel
theorem dX12_orderedGenerator_0 : decode cX12_orderedGenerator 0 = .ok (.aload_n 0, 1) := by decide +kernel
theorem dX12_orderedGenerator_1 : decode cX12_orderedGenerator 1 = .ok (.iload_n 1, 1) := by decide +kernel
theorem dX12_orderedGenerator_2 : decode cX12_orderedGenerator 2 = .ok (.iload_n 2, 1) := by decide +kernel
theorem dX12_orderedGenerator_3 : decode cX12_orderedGenerator 3 = .ok (.iload_n 3, 1) := by decide +kernel
theorem dX12_orderedGenerator_4 : decode cX12_orderedGenerator 4 = .ok (.invokevirtual 220, 3) := by decide +kernel
theorem dX12_orderedGenerator_7 : decode cX12_orderedGenerator 7 = .ok (.istore 4, 2) := by decide +kernel
theorem dX12_orderedGenerator_9 : decode cX12_orderedGenerator 9 = .ok (.iload 4, 2) := by decide +kernel
theorem dX12_orderedGenerator_11 : decode cX12_orderedGenerator 11 = .ok (.ifCond .eq 8, 3) := by decide +kernel
theorem dX12_orderedGenerator_14 : decode cX12_orderedGenerator 14 = .ok (.iload 4, 2) := by decide +kernel
theorem dX12_orderedGenerator_16 : decode cX12_orderedGenerator 16 = .ok (.goto 9, 3) := by decide +kernel
theorem dX12_orderedGenerator_19 : decode cX12_orderedGenerator 19 = .ok (.aload_n 0, 1) := by decide +kernel
theorem dX12_orderedGenerator_20 : decode cX12_orderedGenerator 20 = .ok (.getfield 41, 3) := by decide +kernel
theorem dX12_orderedGenerator_23 : decode cX12_orderedGenerator 23 = .ok (.iload_n 3, 1) := by decide +kernel
theorem dX12_orderedGenerator_24 : decode cX12_orderedGenerator 24 = .ok (.iaload, 1) := by decide +kernel
theorem dX12_orderedGenerator_25 : decode cX12_orderedGenerator 25 = .ok (.ireturn, 1) := by decide +kernel
theorem dX12_colonVariables_0 : decode cX12_colonVariables 0 = .ok (.aload_n 0, 1) := by decide +kernel
theorem dX12_colonVariables_1 : decode cX12_colonVariables 1 = .ok (.iload_n 1, 1) := by decide +kernel
theorem dX12_colonVariables_2 : decode cX12_colonVariables 2 = .ok (.iload_n 2, 1) := by decide +kernel
theorem dX12_colonVariables_3 : decode cX12_colonVariables 3 = .ok (.iload_n 3, 1) := by decide +kernel
theorem dX12_colonVariables_4 : decode cX12_colonVariables 4 = .ok (.invokevirtual 220, 3) := by decide +kernel
theorem dX12_colonVariables_7 : decode cX12_colonVariables 7 = .ok (.istore 4, 2) := by decide +kernel
theorem dX12_colonVariables_9 : decode cX12_colonVariables 9 = .ok (.iload 4, 2) := by decide +kernel
theorem dX12_colonVariables_11 : decode cX12_colonVariables 11 = .ok (.ifCond .eq 8, 3) := by decide +kernel
theorem dX12_colonVariables_14 : decode cX12_colonVariables 14 = .ok (.iload 4, 2) := by decide +kernel
theorem dX12_colonVariables_16 : decode cX12_colonVariables 16 = .ok (.goto 8, 3) := by decide +kernel
theorem dX12_colonVariables_19 : decode cX12_colonVariables 19 = .ok (.aload_n 0, 1) := by decide +kernel
theorem dX12_colonVariables_20 : decode cX12_colonVariables 20 = .ok (.iload_n 3, 1) := by decide +kernel
theorem dX12_colonVariables_21 : decode cX12_colonVariables 21 = .ok (.invokevirtual 211, 3) := by decide +kernel
theorem dX12_colonVariables_24 : decode cX12_colonVariables 24 = .ok (.ireturn, 1) := by decide +kernel
theorem dX12_isLinearStep_0 : decode cX12_isLinearStep 0 = .ok (.aload_n 0, 1) := by decide +kernel
theorem dX12_isLinearStep_1 : decode cX12_isLinearStep 1 = .ok (.iload_n 1, 1) := by decide +kernel
theorem dX12_isLinearStep_2 : decode cX12_isLinearStep 2 = .ok (.iload_n 2, 1) := by decide +kernel
theorem dX12_isLinearStep_3 : decode cX12_isLinearStep 3 = .ok (.iload_n 3, 1) := by decide +kernel
theorem dX12_isLinearStep_4 : decode cX12_isLinearStep 4 = .ok (.invokevirtual 220, 3) := by decide +kernel
theorem dX12_isLinearStep_7 : decode cX12_isLinearStep 7 = .ok (.istore 4, 2) := by decide +kernel
theorem dX12_isLinearStep_9 : decode cX12_isLinearStep 9 = .ok (.iload 4, 2) := by decide +kernel
theorem dX12_isLinearStep_11 : decode cX12_isLinearStep 11 = .ok (.ifCond .eq 8, 3) := by decide +kernel
theorem dX12_isLinearStep_14 : decode cX12_isLinearStep 14 = .ok (.iload 4, 2) := by decide +kernel
theorem dX12_isLinearStep_16 : decode cX12_isLinearStep 16 = .ok (.goto 16, 3) := by decide +kernel
theorem dX12_isLinearStep_19 : decode cX12_isLinearStep 19 = .ok (.aload_n 0, 1) := by decide +kernel
theorem dX12_isLinearStep_20 : decode cX12_isLinearStep 20 = .ok (.iload_n 3, 1) := by decide +kernel
theorem dX12_isLinearStep_21 : decode cX12_isLinearStep 21 = .ok (.invokevirtual 224, 3) := by decide +kernel
theorem dX12_isLinearStep_24 : decode cX12_isLinearStep 24 = .ok (.ifCond .eq 7, 3) := by decide +kernel
theorem dX12_isLinearStep_27 : decode cX12_isLinearStep 27 = .ok (.iconst 1, 1) := by decide +kernel
theorem dX12_isLinearStep_28 : decode cX12_isLinearStep 28 = .ok (.goto 4, 3) := by decide +kernel
theorem dX12_isLinearStep_31 : decode cX12_isLinearStep 31 = .ok (.iconst 0, 1) := by decide +kernel
theorem dX12_isLinearStep_32 : decode cX12_isLinearStep 32 = .ok (.ireturn, 1) := by decide +kernel
theorem dX12_firstNonLinear_0 : decode cX12_firstNonLinear 0 = .ok (.iconst 0, 1) := by decide +kernel
theorem dX12_firstNonLinear_1 : decode cX12_firstNonLinear 1 = .ok (.istore_n 1, 1) := by decide +kernel
theorem dX12_firstNonLinear_2 : decode cX12_firstNonLinear 2 = .ok (.iload_n 1, 1) := by decide +kernel
theorem dX12_firstNonLinear_3 : decode cX12_firstNonLinear 3 = .ok (.aload_n 0, 1) := by decide +kernel
theorem dX12_firstNonLinear_4 : decode cX12_firstNonLinear 4 = .ok (.getfield 177, 3) := by decide +kernel
theorem dX12_firstNonLinear_7 : decode cX12_firstNonLinear 7 = .ok (.if_icmp .ge 19, 3) := by decide +kernel
theorem dX12_firstNonLinear_10 : decode cX12_firstNonLinear 10 = .ok (.aload_n 0, 1) := by decide +kernel
theorem dX12_firstNonLinear_11 : decode cX12_firstNonLinear 11 = .ok (.iload_n 1, 1) := by decide +kernel
theorem dX12_firstNonLinear_12 : decode cX12_firstNonLinear 12 = .ok (.invokevirtual 224, 3) := by decide +kernel
theorem dX12_firstNonLinear_15 : decode cX12_firstNonLinear 15 = .ok (.ifCond .ne 5, 3) := by decide +kernel
theorem dX12_firstNonLinear_18 : decode cX12_firstNonLinear 18 = .ok (.iload_n 1, 1) := by decide +kernel
theorem dX12_firstNonLinear_19 : decode cX12_firstNonLinear 19 = .ok (.ireturn, 1) := by decide +kernel
theorem dX12_firstNonLinear_20 : decode cX12_firstNonLinear 20 = .ok (.iinc 1 1, 3) := by decide +kernel
theorem dX12_firstNonLinear_23 : decode cX12_firstNonLinear 23 = .ok (.goto (-21), 3) := by decide +kernel
theorem dX12_firstNonLinear_26 : decode cX12_firstNonLinear 26 = .ok (.bipush (-2), 2) := by decide +kernel
theorem dX12_firstNonLinear_28 : decode cX12_firstNonLinear 28 = .ok (.ireturn, 1) := by decide +kernel
theorem dX12_firstNonLinearStep_0 : decode cX12_firstNonLinearStep 0 = .ok (.aload_n 0, 1) := by decide +kernel
theorem dX12_firstNonLinearStep_1 : decode cX12_firstNonLinearStep 1 = .ok (.iload_n 1, 1) := by decide +kernel
theorem dX12_firstNonLinearStep_2 : decode cX12_firstNonLinearStep 2 = .ok (.iload_n 2, 1) := by decide +kernel
theorem dX12_firstNonLinearStep_3 : decode cX12_firstNonLinearStep 3 = .ok (.iconst 0, 1) := by decide +kernel
theorem dX12_firstNonLinearStep_4 : decode cX12_firstNonLinearStep 4 = .ok (.invokevirtual 220, 3) := by decide +kernel
theorem dX12_firstNonLinearStep_7 : decode cX12_firstNonLinearStep 7 = .ok (.iconst (-1), 1) := by decide +kernel
theorem dX12_firstNonLinearStep_8 : decode cX12_firstNonLinearStep 8 = .ok (.if_icmp .ne 5, 3) := by decide +kernel
theorem dX12_firstNonLinearStep_11 : decode cX12_firstNonLinearStep 11 = .ok (.iconst (-1), 1) := by decide +kernel
theorem dX12_firstNonLinearStep_12 : decode cX12_firstNonLinearStep 12 = .ok (.ireturn, 1) := by decide +kernel
theorem dX12_firstNonLinearStep_13 : decode cX12_firstNonLinearStep 13 = .ok (.aload_n 0, 1) := by decide +kernel
theorem dX12_firstNonLinearStep_14 : decode cX12_firstNonLinearStep 14 = .ok (.invokevirtual 227, 3) := by decide +kernel
theorem dX12_firstNonLinearStep_17 : decode cX12_firstNonLinearStep 17 = .ok (.ireturn, 1) := by decide +kernel
theorem dX12_choose_0 : decode cX12_choose 0 = .ok (.lconst 1, 1) := by decide +kernel
theorem dX12_choose_1 : decode cX12_choose 1 = .ok (.lstore_n 2, 1) := by decide +kernel
theorem dX12_choose_2 : decode cX12_choose 2 = .ok (.iconst 0, 1) := by decide +kernel
theorem dX12_choose_3 : decode cX12_choose 3 = .ok (.istore 4, 2) := by decide +kernel
theorem dX12_choose_5 : decode cX12_choose 5 = .ok (.iload 4, 2) := by decide +kernel
theorem dX12_choose_7 : decode cX12_choose 7 = .ok (.iload_n 1, 1) := by decide +kernel
theorem dX12_choose_8 : decode cX12_choose 8 = .ok (.if_icmp .ge 23, 3) := by decide +kernel
theorem dX12_choose_11 : decode cX12_choose 11 = .ok (.lload_n 2, 1) := by decide +kernel
theorem dX12_choose_12 : decode cX12_choose 12 = .ok (.iload_n 0, 1) := by decide +kernel
theorem dX12_choose_13 : decode cX12_choose 13 = .ok (.iload 4, 2) := by decide +kernel
theorem dX12_choose_15 : decode cX12_choose 15 = .ok (.isub, 1) := by decide +kernel
theorem dX12_choose_16 : decode cX12_choose 16 = .ok (.i2l, 1) := by decide +kernel
theorem dX12_choose_17 : decode cX12_choose 17 = .ok (.lmul, 1) := by decide +kernel
theorem dX12_choose_18 : decode cX12_choose 18 = .ok (.iload 4, 2) := by decide +kernel
theorem dX12_choose_20 : decode cX12_choose 20 = .ok (.iconst 1, 1) := by decide +kernel
theorem dX12_choose_21 : decode cX12_choose 21 = .ok (.iadd, 1) := by decide +kernel
theorem dX12_choose_22 : decode cX12_choose 22 = .ok (.i2l, 1) := by decide +kernel
theorem dX12_choose_23 : decode cX12_choose 23 = .ok (.ldiv, 1) := by decide +kernel
theorem dX12_choose_24 : decode cX12_choose 24 = .ok (.lstore_n 2, 1) := by decide +kernel
theorem dX12_choose_25 : decode cX12_choose 25 = .ok (.iinc 4 1, 3) := by decide +kernel
theorem dX12_choose_28 : decode cX12_choose 28 = .ok (.goto (-23), 3) := by decide +kernel
theorem dX12_choose_31 : decode cX12_choose 31 = .ok (.lload_n 2, 1) := by decide +kernel
theorem dX12_choose_32 : decode cX12_choose 32 = .ok (.lreturn, 1) := by decide +kernel
theorem dX12_bettiNumber_0 : decode cX12_bettiNumber 0 = .ok (.iload_n 3, 1) := by decide +kernel
theorem dX12_bettiNumber_1 : decode cX12_bettiNumber 1 = .ok (.i2l, 1) := by decide +kernel
theorem dX12_bettiNumber_2 : decode cX12_bettiNumber 2 = .ok (.lconst 0, 1) := by decide +kernel
theorem dX12_bettiNumber_3 : decode cX12_bettiNumber 3 = .ok (.ldc2_w 86, 3) := by decide +kernel
theorem dX12_bettiNumber_6 : decode cX12_bettiNumber 6 = .ok (.invokestatic 79, 3) := by decide +kernel
theorem dX12_bettiNumber_9 : decode cX12_bettiNumber 9 = .ok (.ifCond .eq 23, 3) := by decide +kernel
theorem dX12_bettiNumber_12 : decode cX12_bettiNumber 12 = .ok (.aload_n 0, 1) := by decide +kernel
theorem dX12_bettiNumber_13 : decode cX12_bettiNumber 13 = .ok (.iload_n 1, 1) := by decide +kernel
theorem dX12_bettiNumber_14 : decode cX12_bettiNumber 14 = .ok (.iload_n 2, 1) := by decide +kernel
theorem dX12_bettiNumber_15 : decode cX12_bettiNumber 15 = .ok (.iconst 0, 1) := by decide +kernel
theorem dX12_bettiNumber_16 : decode cX12_bettiNumber 16 = .ok (.invokevirtual 220, 3) := by decide +kernel
theorem dX12_bettiNumber_19 : decode cX12_bettiNumber 19 = .ok (.iconst (-1), 1) := by decide +kernel
theorem dX12_bettiNumber_20 : decode cX12_bettiNumber 20 = .ok (.if_icmp .eq 12, 3) := by decide +kernel
theorem dX12_bettiNumber_23 : decode cX12_bettiNumber 23 = .ok (.aload_n 0, 1) := by decide +kernel
theorem dX12_bettiNumber_24 : decode cX12_bettiNumber 24 = .ok (.invokevirtual 227, 3) := by decide +kernel
theorem dX12_bettiNumber_27 : decode cX12_bettiNumber 27 = .ok (.bipush (-2), 2) := by decide +kernel
theorem dX12_bettiNumber_29 : decode cX12_bettiNumber 29 = .ok (.if_icmp .eq 7, 3) := by decide +kernel
theorem dX12_bettiNumber_32 : decode cX12_bettiNumber 32 = .ok (.ldc2_w 230, 3) := by decide +kernel
theorem dX12_bettiNumber_35 : decode cX12_bettiNumber 35 = .ok (.lreturn, 1) := by decide +kernel
theorem dX12_bettiNumber_36 : decode cX12_bettiNumber 36 = .ok (.lconst 0, 1) := by decide +kernel
theorem dX12_bettiNumber_37 : decode cX12_bettiNumber 37 = .ok (.lstore 4, 2) := by decide +kernel
theorem dX12_bettiNumber_39 : decode cX12_bettiNumber 39 = .ok (.iconst 0, 1) := by decide +kernel
theorem dX12_bettiNumber_40 : decode cX12_bettiNumber 40 = .ok (.istore 6, 2) := by decide +kernel
theorem dX12_bettiNumber_42 : decode cX12_bettiNumber 42 = .ok (.iload 6, 2) := by decide +kernel
theorem dX12_bettiNumber_44 : decode cX12_bettiNumber 44 = .ok (.aload_n 0, 1) := by decide +kernel
theorem dX12_bettiNumber_45 : decode cX12_bettiNumber 45 = .ok (.getfield 177, 3) := by decide +kernel
theorem dX12_bettiNumber_48 : decode cX12_bettiNumber 48 = .ok (.if_icmp .ge 41, 3) := by decide +kernel
theorem dX12_bettiNumber_51 : decode cX12_bettiNumber 51 = .ok (.aload_n 0, 1) := by decide +kernel
theorem dX12_bettiNumber_52 : decode cX12_bettiNumber 52 = .ok (.iload 6, 2) := by decide +kernel
theorem dX12_bettiNumber_54 : decode cX12_bettiNumber 54 = .ok (.invokevirtual 211, 3) := by decide +kernel
theorem dX12_bettiNumber_57 : decode cX12_bettiNumber 57 = .ok (.invokestatic 109, 3) := by decide +kernel
theorem dX12_bettiNumber_60 : decode cX12_bettiNumber 60 = .ok (.istore 7, 2) := by decide +kernel
theorem dX12_bettiNumber_62 : decode cX12_bettiNumber 62 = .ok (.lload 4, 2) := by decide +kernel
theorem dX12_bettiNumber_64 : decode cX12_bettiNumber 64 = .ok (.iload_n 3, 1) := by decide +kernel
theorem dX12_bettiNumber_65 : decode cX12_bettiNumber 65 = .ok (.iload 7, 2) := by decide +kernel
theorem dX12_bettiNumber_67 : decode cX12_bettiNumber 67 = .ok (.if_icmp .gt 12, 3) := by decide +kernel
theorem dX12_bettiNumber_70 : decode cX12_bettiNumber 70 = .ok (.iload 7, 2) := by decide +kernel
theorem dX12_bettiNumber_72 : decode cX12_bettiNumber 72 = .ok (.iload_n 3, 1) := by decide +kernel
theorem dX12_bettiNumber_73 : decode cX12_bettiNumber 73 = .ok (.invokestatic 232, 3) := by decide +kernel
theorem dX12_bettiNumber_76 : decode cX12_bettiNumber 76 = .ok (.goto 4, 3) := by decide +kernel
theorem dX12_bettiNumber_79 : decode cX12_bettiNumber 79 = .ok (.lconst 0, 1) := by decide +kernel
theorem dX12_bettiNumber_80 : decode cX12_bettiNumber 80 = .ok (.ladd, 1) := by decide +kernel
theorem dX12_bettiNumber_81 : decode cX12_bettiNumber 81 = .ok (.lstore 4, 2) := by decide +kernel
theorem dX12_bettiNumber_83 : decode cX12_bettiNumber 83 = .ok (.iinc 6 1, 3) := by decide +kernel
theorem dX12_bettiNumber_86 : decode cX12_bettiNumber 86 = .ok (.goto (-44), 3) := by decide +kernel
theorem dX12_bettiNumber_89 : decode cX12_bettiNumber 89 = .ok (.lload 4, 2) := by decide +kernel
theorem dX12_bettiNumber_91 : decode cX12_bettiNumber 91 = .ok (.lreturn, 1) := by decide +kernel
theorem dX12_addTest_0 : decode cX12_addTest 0 = .ok (.iload_n 1, 1) := by decide +kernel
theorem dX12_addTest_1 : decode cX12_addTest 1 = .ok (.ifCond .ne 5, 3) := by decide +kernel
theorem dX12_addTest_4 : decode cX12_addTest 4 = .ok (.iconst (-1), 1) := by decide +kernel
theorem dX12_addTest_5 : decode cX12_addTest 5 = .ok (.ireturn, 1) := by decide +kernel
theorem dX12_addTest_6 : decode cX12_addTest 6 = .ok (.aload_n 0, 1) := by decide +kernel
theorem dX12_addTest_7 : decode cX12_addTest 7 = .ok (.getfield 236, 3) := by decide +kernel
theorem dX12_addTest_10 : decode cX12_addTest 10 = .ok (.bipush 8, 2) := by decide +kernel
theorem dX12_addTest_12 : decode cX12_addTest 12 = .ok (.if_icmp .ne 6, 3) := by decide +kernel
theorem dX12_addTest_15 : decode cX12_addTest 15 = .ok (.bipush (-3), 2) := by decide +kernel
theorem dX12_addTest_17 : decode cX12_addTest 17 = .ok (.ireturn, 1) := by decide +kernel
theorem dX12_addTest_18 : decode cX12_addTest 18 = .ok (.aload_n 0, 1) := by decide +kernel
theorem dX12_addTest_19 : decode cX12_addTest 19 = .ok (.getfield 47, 3) := by decide +kernel
theorem dX12_addTest_22 : decode cX12_addTest 22 = .ok (.iconst 3, 1) := by decide +kernel
theorem dX12_addTest_23 : decode cX12_addTest 23 = .ok (.aload_n 0, 1) := by decide +kernel
theorem dX12_addTest_24 : decode cX12_addTest 24 = .ok (.getfield 236, 3) := by decide +kernel
theorem dX12_addTest_27 : decode cX12_addTest 27 = .ok (.imul, 1) := by decide +kernel
theorem dX12_addTest_28 : decode cX12_addTest 28 = .ok (.iload_n 2, 1) := by decide +kernel
theorem dX12_addTest_29 : decode cX12_addTest 29 = .ok (.iastore, 1) := by decide +kernel
theorem dX12_addTest_30 : decode cX12_addTest 30 = .ok (.aload_n 0, 1) := by decide +kernel
theorem dX12_addTest_31 : decode cX12_addTest 31 = .ok (.getfield 47, 3) := by decide +kernel
theorem dX12_addTest_34 : decode cX12_addTest 34 = .ok (.iconst 3, 1) := by decide +kernel
theorem dX12_addTest_35 : decode cX12_addTest 35 = .ok (.aload_n 0, 1) := by decide +kernel
theorem dX12_addTest_36 : decode cX12_addTest 36 = .ok (.getfield 236, 3) := by decide +kernel
theorem dX12_addTest_39 : decode cX12_addTest 39 = .ok (.imul, 1) := by decide +kernel
theorem dX12_addTest_40 : decode cX12_addTest 40 = .ok (.iconst 1, 1) := by decide +kernel
theorem dX12_addTest_41 : decode cX12_addTest 41 = .ok (.iadd, 1) := by decide +kernel
theorem dX12_addTest_42 : decode cX12_addTest 42 = .ok (.iload_n 3, 1) := by decide +kernel
theorem dX12_addTest_43 : decode cX12_addTest 43 = .ok (.iastore, 1) := by decide +kernel
theorem dX12_addTest_44 : decode cX12_addTest 44 = .ok (.aload_n 0, 1) := by decide +kernel
theorem dX12_addTest_45 : decode cX12_addTest 45 = .ok (.getfield 47, 3) := by decide +kernel
theorem dX12_addTest_48 : decode cX12_addTest 48 = .ok (.iconst 3, 1) := by decide +kernel
theorem dX12_addTest_49 : decode cX12_addTest 49 = .ok (.aload_n 0, 1) := by decide +kernel
theorem dX12_addTest_50 : decode cX12_addTest 50 = .ok (.getfield 236, 3) := by decide +kernel
theorem dX12_addTest_53 : decode cX12_addTest 53 = .ok (.imul, 1) := by decide +kernel
theorem dX12_addTest_54 : decode cX12_addTest 54 = .ok (.iconst 2, 1) := by decide +kernel
theorem dX12_addTest_55 : decode cX12_addTest 55 = .ok (.iadd, 1) := by decide +kernel
theorem dX12_addTest_56 : decode cX12_addTest 56 = .ok (.iload 4, 2) := by decide +kernel
theorem dX12_addTest_58 : decode cX12_addTest 58 = .ok (.iastore, 1) := by decide +kernel
theorem dX12_addTest_59 : decode cX12_addTest 59 = .ok (.aload_n 0, 1) := by decide +kernel
theorem dX12_addTest_60 : decode cX12_addTest 60 = .ok (.dup, 1) := by decide +kernel
theorem dX12_addTest_61 : decode cX12_addTest 61 = .ok (.getfield 236, 3) := by decide +kernel
theorem dX12_addTest_64 : decode cX12_addTest 64 = .ok (.iconst 1, 1) := by decide +kernel
theorem dX12_addTest_65 : decode cX12_addTest 65 = .ok (.iadd, 1) := by decide +kernel
theorem dX12_addTest_66 : decode cX12_addTest 66 = .ok (.putfield 236, 3) := by decide +kernel
theorem dX12_addTest_69 : decode cX12_addTest 69 = .ok (.aload_n 0, 1) := by decide +kernel
theorem dX12_addTest_70 : decode cX12_addTest 70 = .ok (.getfield 236, 3) := by decide +kernel
theorem dX12_addTest_73 : decode cX12_addTest 73 = .ok (.iconst 1, 1) := by decide +kernel
theorem dX12_addTest_74 : decode cX12_addTest 74 = .ok (.isub, 1) := by decide +kernel
theorem dX12_addTest_75 : decode cX12_addTest 75 = .ok (.ireturn, 1) := by decide +kernel
theorem dX12_isTest_0 : decode cX12_isTest 0 = .ok (.iload_n 1, 1) := by decide +kernel
theorem dX12_isTest_1 : decode cX12_isTest 1 = .ok (.i2l, 1) := by decide +kernel
theorem dX12_isTest_2 : decode cX12_isTest 2 = .ok (.lconst 0, 1) := by decide +kernel
theorem dX12_isTest_3 : decode cX12_isTest 3 = .ok (.aload_n 0, 1) := by decide +kernel
theorem dX12_isTest_4 : decode cX12_isTest 4 = .ok (.getfield 236, 3) := by decide +kernel
theorem dX12_isTest_7 : decode cX12_isTest 7 = .ok (.iconst 1, 1) := by decide +kernel
theorem dX12_isTest_8 : decode cX12_isTest 8 = .ok (.isub, 1) := by decide +kernel
theorem dX12_isTest_9 : decode cX12_isTest 9 = .ok (.i2l, 1) := by decide +kernel
theorem dX12_isTest_10 : decode cX12_isTest 10 = .ok (.invokestatic 79, 3) := by decide +kernel
theorem dX12_isTest_13 : decode cX12_isTest 13 = .ok (.ireturn, 1) := by decide +kernel
theorem dX12_addDegreeTest_0 : decode cX12_addDegreeTest 0 = .ok (.aload_n 0, 1) := by decide +kernel
theorem dX12_addDegreeTest_1 : decode cX12_addDegreeTest 1 = .ok (.iload_n 1, 1) := by decide +kernel
theorem dX12_addDegreeTest_2 : decode cX12_addDegreeTest 2 = .ok (.i2l, 1) := by decide +kernel
theorem dX12_addDegreeTest_3 : decode cX12_addDegreeTest 3 = .ok (.lconst 0, 1) := by decide +kernel
theorem dX12_addDegreeTest_4 : decode cX12_addDegreeTest 4 = .ok (.ldc2_w 200, 3) := by decide +kernel
theorem dX12_addDegreeTest_7 : decode cX12_addDegreeTest 7 = .ok (.invokestatic 79, 3) := by decide +kernel
theorem dX12_addDegreeTest_10 : decode cX12_addDegreeTest 10 = .ok (.iconst 0, 1) := by decide +kernel
theorem dX12_addDegreeTest_11 : decode cX12_addDegreeTest 11 = .ok (.iload_n 1, 1) := by decide +kernel
theorem dX12_addDegreeTest_12 : decode cX12_addDegreeTest 12 = .ok (.iconst 0, 1) := by decide +kernel
theorem dX12_addDegreeTest_13 : decode cX12_addDegreeTest 13 = .ok (.invokevirtual 239, 3) := by decide +kernel
theorem dX12_addDegreeTest_16 : decode cX12_addDegreeTest 16 = .ok (.ireturn, 1) := by decide +kernel
theorem dX12_addExponentTest_0 : decode cX12_addExponentTest 0 = .ok (.aload_n 0, 1) := by decide +kernel
theorem dX12_addExponentTest_1 : decode cX12_addExponentTest 1 = .ok (.iload_n 1, 1) := by decide +kernel
theorem dX12_addExponentTest_2 : decode cX12_addExponentTest 2 = .ok (.i2l, 1) := by decide +kernel
theorem dX12_addExponentTest_3 : decode cX12_addExponentTest 3 = .ok (.lconst 0, 1) := by decide +kernel
theorem dX12_addExponentTest_4 : decode cX12_addExponentTest 4 = .ok (.ldc2_w 243, 3) := by decide +kernel
theorem dX12_addExponentTest_7 : decode cX12_addExponentTest 7 = .ok (.invokestatic 79, 3) := by decide +kernel
theorem dX12_addExponentTest_10 : decode cX12_addExponentTest 10 = .ok (.ifCond .eq 19, 3) := by decide +kernel
theorem dX12_addExponentTest_13 : decode cX12_addExponentTest 13 = .ok (.iload_n 2, 1) := by decide +kernel
theorem dX12_addExponentTest_14 : decode cX12_addExponentTest 14 = .ok (.i2l, 1) := by decide +kernel
theorem dX12_addExponentTest_15 : decode cX12_addExponentTest 15 = .ok (.lconst 0, 1) := by decide +kernel
theorem dX12_addExponentTest_16 : decode cX12_addExponentTest 16 = .ok (.ldc2_w 183, 3) := by decide +kernel
theorem dX12_addExponentTest_19 : decode cX12_addExponentTest 19 = .ok (.invokestatic 79, 3) := by decide +kernel
theorem dX12_addExponentTest_22 : decode cX12_addExponentTest 22 = .ok (.ifCond .eq 7, 3) := by decide +kernel
theorem dX12_addExponentTest_25 : decode cX12_addExponentTest 25 = .ok (.iconst 1, 1) := by decide +kernel
theorem dX12_addExponentTest_26 : decode cX12_addExponentTest 26 = .ok (.goto 4, 3) := by decide +kernel
theorem dX12_addExponentTest_29 : decode cX12_addExponentTest 29 = .ok (.iconst 0, 1) := by decide +kernel
theorem dX12_addExponentTest_30 : decode cX12_addExponentTest 30 = .ok (.iconst 1, 1) := by decide +kernel
theorem dX12_addExponentTest_31 : decode cX12_addExponentTest 31 = .ok (.iload_n 1, 1) := by decide +kernel
theorem dX12_addExponentTest_32 : decode cX12_addExponentTest 32 = .ok (.iload_n 2, 1) := by decide +kernel
theorem dX12_addExponentTest_33 : decode cX12_addExponentTest 33 = .ok (.invokevirtual 239, 3) := by decide +kernel
theorem dX12_addExponentTest_36 : decode cX12_addExponentTest 36 = .ok (.ireturn, 1) := by decide +kernel
theorem dX12_addSquareFreeTest_0 : decode cX12_addSquareFreeTest 0 = .ok (.aload_n 0, 1) := by decide +kernel
theorem dX12_addSquareFreeTest_1 : decode cX12_addSquareFreeTest 1 = .ok (.iconst 1, 1) := by decide +kernel
theorem dX12_addSquareFreeTest_2 : decode cX12_addSquareFreeTest 2 = .ok (.iconst 2, 1) := by decide +kernel
theorem dX12_addSquareFreeTest_3 : decode cX12_addSquareFreeTest 3 = .ok (.iconst 0, 1) := by decide +kernel
theorem dX12_addSquareFreeTest_4 : decode cX12_addSquareFreeTest 4 = .ok (.iconst 0, 1) := by decide +kernel
theorem dX12_addSquareFreeTest_5 : decode cX12_addSquareFreeTest 5 = .ok (.invokevirtual 239, 3) := by decide +kernel
theorem dX12_addSquareFreeTest_8 : decode cX12_addSquareFreeTest 8 = .ok (.ireturn, 1) := by decide +kernel
theorem dX12_addPowerTest_0 : decode cX12_addPowerTest 0 = .ok (.aload_n 0, 1) := by decide +kernel
theorem dX12_addPowerTest_1 : decode cX12_addPowerTest 1 = .ok (.iload_n 1, 1) := by decide +kernel
theorem dX12_addPowerTest_2 : decode cX12_addPowerTest 2 = .ok (.invokestatic 185, 3) := by decide +kernel
theorem dX12_addPowerTest_5 : decode cX12_addPowerTest 5 = .ok (.iconst 3, 1) := by decide +kernel
theorem dX12_addPowerTest_6 : decode cX12_addPowerTest 6 = .ok (.iload_n 1, 1) := by decide +kernel
theorem dX12_addPowerTest_7 : decode cX12_addPowerTest 7 = .ok (.iconst 0, 1) := by decide +kernel
theorem dX12_addPowerTest_8 : decode cX12_addPowerTest 8 = .ok (.invokevirtual 239, 3) := by decide +kernel
theorem dX12_addPowerTest_11 : decode cX12_addPowerTest 11 = .ok (.ireturn, 1) := by decide +kernel
theorem dX12_addSymbolicTest_0 : decode cX12_addSymbolicTest 0 = .ok (.aload_n 0, 1) := by decide +kernel
theorem dX12_addSymbolicTest_1 : decode cX12_addSymbolicTest 1 = .ok (.iload_n 1, 1) := by decide +kernel
theorem dX12_addSymbolicTest_2 : decode cX12_addSymbolicTest 2 = .ok (.invokestatic 185, 3) := by decide +kernel
theorem dX12_addSymbolicTest_5 : decode cX12_addSymbolicTest 5 = .ok (.iconst 4, 1) := by decide +kernel
theorem dX12_addSymbolicTest_6 : decode cX12_addSymbolicTest 6 = .ok (.iload_n 1, 1) := by decide +kernel
theorem dX12_addSymbolicTest_7 : decode cX12_addSymbolicTest 7 = .ok (.iconst 0, 1) := by decide +kernel
theorem dX12_addSymbolicTest_8 : decode cX12_addSymbolicTest 8 = .ok (.invokevirtual 239, 3) := by decide +kernel
theorem dX12_addSymbolicTest_11 : decode cX12_addSymbolicTest 11 = .ok (.ireturn, 1) := by decide +kernel
theorem dX12_addAndTest_0 : decode cX12_addAndTest 0 = .ok (.aload_n 0, 1) := by decide +kernel
theorem dX12_addAndTest_1 : decode cX12_addAndTest 1 = .ok (.aload_n 0, 1) := by decide +kernel
theorem dX12_addAndTest_2 : decode cX12_addAndTest 2 = .ok (.iload_n 1, 1) := by decide +kernel
theorem dX12_addAndTest_3 : decode cX12_addAndTest 3 = .ok (.invokevirtual 245, 3) := by decide +kernel
theorem dX12_addAndTest_6 : decode cX12_addAndTest 6 = .ok (.ifCond .eq 15, 3) := by decide +kernel
theorem dX12_addAndTest_9 : decode cX12_addAndTest 9 = .ok (.aload_n 0, 1) := by decide +kernel
theorem dX12_addAndTest_10 : decode cX12_addAndTest 10 = .ok (.iload_n 2, 1) := by decide +kernel
theorem dX12_addAndTest_11 : decode cX12_addAndTest 11 = .ok (.invokevirtual 245, 3) := by decide +kernel
theorem dX12_addAndTest_14 : decode cX12_addAndTest 14 = .ok (.ifCond .eq 7, 3) := by decide +kernel
theorem dX12_addAndTest_17 : decode cX12_addAndTest 17 = .ok (.iconst 1, 1) := by decide +kernel
theorem dX12_addAndTest_18 : decode cX12_addAndTest 18 = .ok (.goto 4, 3) := by decide +kernel
theorem dX12_addAndTest_21 : decode cX12_addAndTest 21 = .ok (.iconst 0, 1) := by decide +kernel
theorem dX12_addAndTest_22 : decode cX12_addAndTest 22 = .ok (.iconst 5, 1) := by decide +kernel
theorem dX12_addAndTest_23 : decode cX12_addAndTest 23 = .ok (.iload_n 1, 1) := by decide +kernel
theorem dX12_addAndTest_24 : decode cX12_addAndTest 24 = .ok (.iload_n 2, 1) := by decide +kernel
theorem dX12_addAndTest_25 : decode cX12_addAndTest 25 = .ok (.invokevirtual 239, 3) := by decide +kernel
theorem dX12_addAndTest_28 : decode cX12_addAndTest 28 = .ok (.ireturn, 1) := by decide +kernel
theorem dX12_addOrTest_0 : decode cX12_addOrTest 0 = .ok (.aload_n 0, 1) := by decide +kernel
theorem dX12_addOrTest_1 : decode cX12_addOrTest 1 = .ok (.aload_n 0, 1) := by decide +kernel
theorem dX12_addOrTest_2 : decode cX12_addOrTest 2 = .ok (.iload_n 1, 1) := by decide +kernel
theorem dX12_addOrTest_3 : decode cX12_addOrTest 3 = .ok (.invokevirtual 245, 3) := by decide +kernel
theorem dX12_addOrTest_6 : decode cX12_addOrTest 6 = .ok (.ifCond .eq 15, 3) := by decide +kernel
theorem dX12_addOrTest_9 : decode cX12_addOrTest 9 = .ok (.aload_n 0, 1) := by decide +kernel
theorem dX12_addOrTest_10 : decode cX12_addOrTest 10 = .ok (.iload_n 2, 1) := by decide +kernel
theorem dX12_addOrTest_11 : decode cX12_addOrTest 11 = .ok (.invokevirtual 245, 3) := by decide +kernel
theorem dX12_addOrTest_14 : decode cX12_addOrTest 14 = .ok (.ifCond .eq 7, 3) := by decide +kernel
theorem dX12_addOrTest_17 : decode cX12_addOrTest 17 = .ok (.iconst 1, 1) := by decide +kernel
theorem dX12_addOrTest_18 : decode cX12_addOrTest 18 = .ok (.goto 4, 3) := by decide +kernel
theorem dX12_addOrTest_21 : decode cX12_addOrTest 21 = .ok (.iconst 0, 1) := by decide +kernel
theorem dX12_addOrTest_22 : decode cX12_addOrTest 22 = .ok (.bipush 6, 2) := by decide +kernel
theorem dX12_addOrTest_24 : decode cX12_addOrTest 24 = .ok (.iload_n 1, 1) := by decide +kernel
theorem dX12_addOrTest_25 : decode cX12_addOrTest 25 = .ok (.iload_n 2, 1) := by decide +kernel
theorem dX12_addOrTest_26 : decode cX12_addOrTest 26 = .ok (.invokevirtual 239, 3) := by decide +kernel
theorem dX12_addOrTest_29 : decode cX12_addOrTest 29 = .ok (.ireturn, 1) := by decide +kernel
theorem dX12_addNotTest_0 : decode cX12_addNotTest 0 = .ok (.aload_n 0, 1) := by decide +kernel
theorem dX12_addNotTest_1 : decode cX12_addNotTest 1 = .ok (.aload_n 0, 1) := by decide +kernel
theorem dX12_addNotTest_2 : decode cX12_addNotTest 2 = .ok (.iload_n 1, 1) := by decide +kernel
theorem dX12_addNotTest_3 : decode cX12_addNotTest 3 = .ok (.invokevirtual 245, 3) := by decide +kernel
theorem dX12_addNotTest_6 : decode cX12_addNotTest 6 = .ok (.bipush 7, 2) := by decide +kernel
theorem dX12_addNotTest_8 : decode cX12_addNotTest 8 = .ok (.iload_n 1, 1) := by decide +kernel
theorem dX12_addNotTest_9 : decode cX12_addNotTest 9 = .ok (.iconst 0, 1) := by decide +kernel
theorem dX12_addNotTest_10 : decode cX12_addNotTest 10 = .ok (.invokevirtual 239, 3) := by decide +kernel
theorem dX12_addNotTest_13 : decode cX12_addNotTest 13 = .ok (.ireturn, 1) := by decide +kernel
theorem dX12_testCount_0 : decode cX12_testCount 0 = .ok (.aload_n 0, 1) := by decide +kernel
theorem dX12_testCount_1 : decode cX12_testCount 1 = .ok (.getfield 236, 3) := by decide +kernel
theorem dX12_testCount_4 : decode cX12_testCount 4 = .ok (.ireturn, 1) := by decide +kernel
theorem dX12_isPassed_0 : decode cX12_isPassed 0 = .ok (.aload_n 0, 1) := by decide +kernel
theorem dX12_isPassed_1 : decode cX12_isPassed 1 = .ok (.getfield 47, 3) := by decide +kernel
theorem dX12_isPassed_4 : decode cX12_isPassed 4 = .ok (.iconst 3, 1) := by decide +kernel
theorem dX12_isPassed_5 : decode cX12_isPassed 5 = .ok (.iload_n 1, 1) := by decide +kernel
theorem dX12_isPassed_6 : decode cX12_isPassed 6 = .ok (.imul, 1) := by decide +kernel
theorem dX12_isPassed_7 : decode cX12_isPassed 7 = .ok (.iconst 1, 1) := by decide +kernel
theorem dX12_isPassed_8 : decode cX12_isPassed 8 = .ok (.iadd, 1) := by decide +kernel
theorem dX12_isPassed_9 : decode cX12_isPassed 9 = .ok (.iaload, 1) := by decide +kernel
theorem dX12_isPassed_10 : decode cX12_isPassed 10 = .ok (.istore_n 3, 1) := by decide +kernel
theorem dX12_isPassed_11 : decode cX12_isPassed 11 = .ok (.aload_n 0, 1) := by decide +kernel
theorem dX12_isPassed_12 : decode cX12_isPassed 12 = .ok (.getfield 47, 3) := by decide +kernel
theorem dX12_isPassed_15 : decode cX12_isPassed 15 = .ok (.iconst 3, 1) := by decide +kernel
theorem dX12_isPassed_16 : decode cX12_isPassed 16 = .ok (.iload_n 1, 1) := by decide +kernel
theorem dX12_isPassed_17 : decode cX12_isPassed 17 = .ok (.imul, 1) := by decide +kernel
theorem dX12_isPassed_18 : decode cX12_isPassed 18 = .ok (.iconst 2, 1) := by decide +kernel
theorem dX12_isPassed_19 : decode cX12_isPassed 19 = .ok (.iadd, 1) := by decide +kernel
theorem dX12_isPassed_20 : decode cX12_isPassed 20 = .ok (.iaload, 1) := by decide +kernel
theorem dX12_isPassed_21 : decode cX12_isPassed 21 = .ok (.istore 4, 2) := by decide +kernel
theorem dX12_isPassed_23 : decode cX12_isPassed 23 = .ok (.aload_n 0, 1) := by decide +kernel
theorem dX12_isPassed_24 : decode cX12_isPassed 24 = .ok (.getfield 47, 3) := by decide +kernel
theorem dX12_isPassed_27 : decode cX12_isPassed 27 = .ok (.iconst 3, 1) := by decide +kernel
theorem dX12_isPassed_28 : decode cX12_isPassed 28 = .ok (.iload_n 1, 1) := by decide +kernel
theorem dX12_isPassed_29 : decode cX12_isPassed 29 = .ok (.imul, 1) := by decide +kernel
theorem dX12_isPassed_30 : decode cX12_isPassed 30 = .ok (.iaload, 1) := by decide +kernel
theorem dX12_isPassed_31 : decode cX12_isPassed 31 = .ok (.tableswitch 167 0 6 #[41, 55, 71, 85, 101, 117, 142], 41) := by decide +kernel
theorem dX12_isPassed_72 : decode cX12_isPassed 72 = .ok (.iload_n 2, 1) := by decide +kernel
theorem dX12_isPassed_73 : decode cX12_isPassed 73 = .ok (.invokestatic 163, 3) := by decide +kernel
theorem dX12_isPassed_76 : decode cX12_isPassed 76 = .ok (.iload_n 3, 1) := by decide +kernel
theorem dX12_isPassed_77 : decode cX12_isPassed 77 = .ok (.if_icmp .ne 7, 3) := by decide +kernel
theorem dX12_isPassed_80 : decode cX12_isPassed 80 = .ok (.iconst 1, 1) := by decide +kernel
theorem dX12_isPassed_81 : decode cX12_isPassed 81 = .ok (.goto 4, 3) := by decide +kernel
theorem dX12_isPassed_84 : decode cX12_isPassed 84 = .ok (.iconst 0, 1) := by decide +kernel
theorem dX12_isPassed_85 : decode cX12_isPassed 85 = .ok (.ireturn, 1) := by decide +kernel
theorem dX12_isPassed_86 : decode cX12_isPassed 86 = .ok (.iload_n 2, 1) := by decide +kernel
theorem dX12_isPassed_87 : decode cX12_isPassed 87 = .ok (.iload_n 3, 1) := by decide +kernel
theorem dX12_isPassed_88 : decode cX12_isPassed 88 = .ok (.invokestatic 128, 3) := by decide +kernel
theorem dX12_isPassed_91 : decode cX12_isPassed 91 = .ok (.iload 4, 2) := by decide +kernel
theorem dX12_isPassed_93 : decode cX12_isPassed 93 = .ok (.if_icmp .lt 7, 3) := by decide +kernel
theorem dX12_isPassed_96 : decode cX12_isPassed 96 = .ok (.iconst 1, 1) := by decide +kernel
theorem dX12_isPassed_97 : decode cX12_isPassed 97 = .ok (.goto 4, 3) := by decide +kernel
theorem dX12_isPassed_100 : decode cX12_isPassed 100 = .ok (.iconst 0, 1) := by decide +kernel
theorem dX12_isPassed_101 : decode cX12_isPassed 101 = .ok (.ireturn, 1) := by decide +kernel
theorem dX12_isPassed_102 : decode cX12_isPassed 102 = .ok (.iload_n 2, 1) := by decide +kernel
theorem dX12_isPassed_103 : decode cX12_isPassed 103 = .ok (.sipush 10922, 3) := by decide +kernel
theorem dX12_isPassed_106 : decode cX12_isPassed 106 = .ok (.iand, 1) := by decide +kernel
theorem dX12_isPassed_107 : decode cX12_isPassed 107 = .ok (.ifCond .ne 7, 3) := by decide +kernel
theorem dX12_isPassed_110 : decode cX12_isPassed 110 = .ok (.iconst 1, 1) := by decide +kernel
theorem dX12_isPassed_111 : decode cX12_isPassed 111 = .ok (.goto 4, 3) := by decide +kernel
theorem dX12_isPassed_114 : decode cX12_isPassed 114 = .ok (.iconst 0, 1) := by decide +kernel
theorem dX12_isPassed_115 : decode cX12_isPassed 115 = .ok (.ireturn, 1) := by decide +kernel
theorem dX12_isPassed_116 : decode cX12_isPassed 116 = .ok (.aload_n 0, 1) := by decide +kernel
theorem dX12_isPassed_117 : decode cX12_isPassed 117 = .ok (.getfield 32, 3) := by decide +kernel
theorem dX12_isPassed_120 : decode cX12_isPassed 120 = .ok (.iload_n 2, 1) := by decide +kernel
theorem dX12_isPassed_121 : decode cX12_isPassed 121 = .ok (.iaload, 1) := by decide +kernel
theorem dX12_isPassed_122 : decode cX12_isPassed 122 = .ok (.iload_n 3, 1) := by decide +kernel
theorem dX12_isPassed_123 : decode cX12_isPassed 123 = .ok (.if_icmp .lt 7, 3) := by decide +kernel
theorem dX12_isPassed_126 : decode cX12_isPassed 126 = .ok (.iconst 1, 1) := by decide +kernel
theorem dX12_isPassed_127 : decode cX12_isPassed 127 = .ok (.goto 4, 3) := by decide +kernel
theorem dX12_isPassed_130 : decode cX12_isPassed 130 = .ok (.iconst 0, 1) := by decide +kernel
theorem dX12_isPassed_131 : decode cX12_isPassed 131 = .ok (.ireturn, 1) := by decide +kernel
theorem dX12_isPassed_132 : decode cX12_isPassed 132 = .ok (.aload_n 0, 1) := by decide +kernel
theorem dX12_isPassed_133 : decode cX12_isPassed 133 = .ok (.getfield 35, 3) := by decide +kernel
theorem dX12_isPassed_136 : decode cX12_isPassed 136 = .ok (.iload_n 2, 1) := by decide +kernel
theorem dX12_isPassed_137 : decode cX12_isPassed 137 = .ok (.iaload, 1) := by decide +kernel
theorem dX12_isPassed_138 : decode cX12_isPassed 138 = .ok (.iload_n 3, 1) := by decide +kernel
theorem dX12_isPassed_139 : decode cX12_isPassed 139 = .ok (.if_icmp .lt 7, 3) := by decide +kernel
theorem dX12_isPassed_142 : decode cX12_isPassed 142 = .ok (.iconst 1, 1) := by decide +kernel
theorem dX12_isPassed_143 : decode cX12_isPassed 143 = .ok (.goto 4, 3) := by decide +kernel
theorem dX12_isPassed_146 : decode cX12_isPassed 146 = .ok (.iconst 0, 1) := by decide +kernel
theorem dX12_isPassed_147 : decode cX12_isPassed 147 = .ok (.ireturn, 1) := by decide +kernel
theorem dX12_isPassed_148 : decode cX12_isPassed 148 = .ok (.aload_n 0, 1) := by decide +kernel
theorem dX12_isPassed_149 : decode cX12_isPassed 149 = .ok (.iload_n 3, 1) := by decide +kernel
theorem dX12_isPassed_150 : decode cX12_isPassed 150 = .ok (.iload_n 2, 1) := by decide +kernel
theorem dX12_isPassed_151 : decode cX12_isPassed 151 = .ok (.invokevirtual 248, 3) := by decide +kernel
theorem dX12_isPassed_154 : decode cX12_isPassed 154 = .ok (.ifCond .eq 17, 3) := by decide +kernel
theorem dX12_isPassed_157 : decode cX12_isPassed 157 = .ok (.aload_n 0, 1) := by decide +kernel
theorem dX12_isPassed_158 : decode cX12_isPassed 158 = .ok (.iload 4, 2) := by decide +kernel
theorem dX12_isPassed_160 : decode cX12_isPassed 160 = .ok (.iload_n 2, 1) := by decide +kernel
theorem dX12_isPassed_161 : decode cX12_isPassed 161 = .ok (.invokevirtual 248, 3) := by decide +kernel
theorem dX12_isPassed_164 : decode cX12_isPassed 164 = .ok (.ifCond .eq 7, 3) := by decide +kernel
theorem dX12_isPassed_167 : decode cX12_isPassed 167 = .ok (.iconst 1, 1) := by decide +kernel
theorem dX12_isPassed_168 : decode cX12_isPassed 168 = .ok (.goto 4, 3) := by decide +kernel
theorem dX12_isPassed_171 : decode cX12_isPassed 171 = .ok (.iconst 0, 1) := by decide +kernel
theorem dX12_isPassed_172 : decode cX12_isPassed 172 = .ok (.ireturn, 1) := by decide +kernel
theorem dX12_isPassed_173 : decode cX12_isPassed 173 = .ok (.aload_n 0, 1) := by decide +kernel
theorem dX12_isPassed_174 : decode cX12_isPassed 174 = .ok (.iload_n 3, 1) := by decide +kernel
theorem dX12_isPassed_175 : decode cX12_isPassed 175 = .ok (.iload_n 2, 1) := by decide +kernel
theorem dX12_isPassed_176 : decode cX12_isPassed 176 = .ok (.invokevirtual 248, 3) := by decide +kernel
theorem dX12_isPassed_179 : decode cX12_isPassed 179 = .ok (.ifCond .ne 13, 3) := by decide +kernel
theorem dX12_isPassed_182 : decode cX12_isPassed 182 = .ok (.aload_n 0, 1) := by decide +kernel
theorem dX12_isPassed_183 : decode cX12_isPassed 183 = .ok (.iload 4, 2) := by decide +kernel
theorem dX12_isPassed_185 : decode cX12_isPassed 185 = .ok (.iload_n 2, 1) := by decide +kernel
theorem dX12_isPassed_186 : decode cX12_isPassed 186 = .ok (.invokevirtual 248, 3) := by decide +kernel
theorem dX12_isPassed_189 : decode cX12_isPassed 189 = .ok (.ifCond .eq 7, 3) := by decide +kernel
theorem dX12_isPassed_192 : decode cX12_isPassed 192 = .ok (.iconst 1, 1) := by decide +kernel
theorem dX12_isPassed_193 : decode cX12_isPassed 193 = .ok (.goto 4, 3) := by decide +kernel
theorem dX12_isPassed_196 : decode cX12_isPassed 196 = .ok (.iconst 0, 1) := by decide +kernel
theorem dX12_isPassed_197 : decode cX12_isPassed 197 = .ok (.ireturn, 1) := by decide +kernel
theorem dX12_isPassed_198 : decode cX12_isPassed 198 = .ok (.aload_n 0, 1) := by decide +kernel
theorem dX12_isPassed_199 : decode cX12_isPassed 199 = .ok (.iload_n 3, 1) := by decide +kernel
theorem dX12_isPassed_200 : decode cX12_isPassed 200 = .ok (.iload_n 2, 1) := by decide +kernel
theorem dX12_isPassed_201 : decode cX12_isPassed 201 = .ok (.invokevirtual 248, 3) := by decide +kernel
theorem dX12_isPassed_204 : decode cX12_isPassed 204 = .ok (.ifCond .ne 7, 3) := by decide +kernel
theorem dX12_isPassed_207 : decode cX12_isPassed 207 = .ok (.iconst 1, 1) := by decide +kernel
theorem dX12_isPassed_208 : decode cX12_isPassed 208 = .ok (.goto 4, 3) := by decide +kernel
theorem dX12_isPassed_211 : decode cX12_isPassed 211 = .ok (.iconst 0, 1) := by decide +kernel
theorem dX12_isPassed_212 : decode cX12_isPassed 212 = .ok (.ireturn, 1) := by decide +kernel
theorem dX12_passes_0 : decode cX12_passes 0 = .ok (.aload_n 0, 1) := by decide +kernel
theorem dX12_passes_1 : decode cX12_passes 1 = .ok (.invokevirtual 144, 3) := by decide +kernel
theorem dX12_passes_4 : decode cX12_passes 4 = .ok (.aload_n 0, 1) := by decide +kernel
theorem dX12_passes_5 : decode cX12_passes 5 = .ok (.iload_n 1, 1) := by decide +kernel
theorem dX12_passes_6 : decode cX12_passes 6 = .ok (.invokevirtual 245, 3) := by decide +kernel
theorem dX12_passes_9 : decode cX12_passes 9 = .ok (.ifCond .eq 28, 3) := by decide +kernel
theorem dX12_passes_12 : decode cX12_passes 12 = .ok (.aload_n 0, 1) := by decide +kernel
theorem dX12_passes_13 : decode cX12_passes 13 = .ok (.iload_n 2, 1) := by decide +kernel
theorem dX12_passes_14 : decode cX12_passes 14 = .ok (.invokevirtual 160, 3) := by decide +kernel
theorem dX12_passes_17 : decode cX12_passes 17 = .ok (.ifCond .eq 20, 3) := by decide +kernel
theorem dX12_passes_20 : decode cX12_passes 20 = .ok (.aload_n 0, 1) := by decide +kernel
theorem dX12_passes_21 : decode cX12_passes 21 = .ok (.iload_n 1, 1) := by decide +kernel
theorem dX12_passes_22 : decode cX12_passes 22 = .ok (.iload_n 2, 1) := by decide +kernel
theorem dX12_passes_23 : decode cX12_passes 23 = .ok (.invokevirtual 248, 3) := by decide +kernel
theorem dX12_passes_26 : decode cX12_passes 26 = .ok (.ifCond .eq 7, 3) := by decide +kernel
theorem dX12_passes_29 : decode cX12_passes 29 = .ok (.iconst 1, 1) := by decide +kernel
theorem dX12_passes_30 : decode cX12_passes 30 = .ok (.goto 8, 3) := by decide +kernel
theorem dX12_passes_33 : decode cX12_passes 33 = .ok (.iconst 0, 1) := by decide +kernel
theorem dX12_passes_34 : decode cX12_passes 34 = .ok (.goto 4, 3) := by decide +kernel
theorem dX12_passes_37 : decode cX12_passes 37 = .ok (.iconst (-1), 1) := by decide +kernel
theorem dX12_passes_38 : decode cX12_passes 38 = .ok (.ireturn, 1) := by decide +kernel
theorem dX12_passCount_0 : decode cX12_passCount 0 = .ok (.aload_n 0, 1) := by decide +kernel
theorem dX12_passCount_1 : decode cX12_passCount 1 = .ok (.iload_n 1, 1) := by decide +kernel
theorem dX12_passCount_2 : decode cX12_passCount 2 = .ok (.invokevirtual 245, 3) := by decide +kernel
theorem dX12_passCount_5 : decode cX12_passCount 5 = .ok (.ifCond .ne 5, 3) := by decide +kernel
theorem dX12_passCount_8 : decode cX12_passCount 8 = .ok (.iconst (-1), 1) := by decide +kernel
theorem dX12_passCount_9 : decode cX12_passCount 9 = .ok (.ireturn, 1) := by decide +kernel
theorem dX12_passCount_10 : decode cX12_passCount 10 = .ok (.aload_n 0, 1) := by decide +kernel
theorem dX12_passCount_11 : decode cX12_passCount 11 = .ok (.invokevirtual 144, 3) := by decide +kernel
theorem dX12_passCount_14 : decode cX12_passCount 14 = .ok (.iconst 0, 1) := by decide +kernel
theorem dX12_passCount_15 : decode cX12_passCount 15 = .ok (.istore_n 2, 1) := by decide +kernel
theorem dX12_passCount_16 : decode cX12_passCount 16 = .ok (.iconst 0, 1) := by decide +kernel
theorem dX12_passCount_17 : decode cX12_passCount 17 = .ok (.istore_n 3, 1) := by decide +kernel
theorem dX12_passCount_18 : decode cX12_passCount 18 = .ok (.iload_n 3, 1) := by decide +kernel
theorem dX12_passCount_19 : decode cX12_passCount 19 = .ok (.aload_n 0, 1) := by decide +kernel
theorem dX12_passCount_20 : decode cX12_passCount 20 = .ok (.invokevirtual 125, 3) := by decide +kernel
theorem dX12_passCount_23 : decode cX12_passCount 23 = .ok (.if_icmp .ge 26, 3) := by decide +kernel
theorem dX12_passCount_26 : decode cX12_passCount 26 = .ok (.iload_n 2, 1) := by decide +kernel
theorem dX12_passCount_27 : decode cX12_passCount 27 = .ok (.aload_n 0, 1) := by decide +kernel
theorem dX12_passCount_28 : decode cX12_passCount 28 = .ok (.iload_n 1, 1) := by decide +kernel
theorem dX12_passCount_29 : decode cX12_passCount 29 = .ok (.iload_n 3, 1) := by decide +kernel
theorem dX12_passCount_30 : decode cX12_passCount 30 = .ok (.invokevirtual 248, 3) := by decide +kernel
theorem dX12_passCount_33 : decode cX12_passCount 33 = .ok (.ifCond .eq 7, 3) := by decide +kernel
theorem dX12_passCount_36 : decode cX12_passCount 36 = .ok (.iconst 1, 1) := by decide +kernel
theorem dX12_passCount_37 : decode cX12_passCount 37 = .ok (.goto 4, 3) := by decide +kernel
theorem dX12_passCount_40 : decode cX12_passCount 40 = .ok (.iconst 0, 1) := by decide +kernel
theorem dX12_passCount_41 : decode cX12_passCount 41 = .ok (.iadd, 1) := by decide +kernel
theorem dX12_passCount_42 : decode cX12_passCount 42 = .ok (.istore_n 2, 1) := by decide +kernel
theorem dX12_passCount_43 : decode cX12_passCount 43 = .ok (.iinc 3 1, 3) := by decide +kernel
theorem dX12_passCount_46 : decode cX12_passCount 46 = .ok (.goto (-28), 3) := by decide +kernel
theorem dX12_passCount_49 : decode cX12_passCount 49 = .ok (.iload_n 2, 1) := by decide +kernel
theorem dX12_passCount_50 : decode cX12_passCount 50 = .ok (.ireturn, 1) := by decide +kernel
theorem dX12_passing_0 : decode cX12_passing 0 = .ok (.aload_n 0, 1) := by decide +kernel
theorem dX12_passing_1 : decode cX12_passing 1 = .ok (.iload_n 1, 1) := by decide +kernel
theorem dX12_passing_2 : decode cX12_passing 2 = .ok (.invokevirtual 245, 3) := by decide +kernel
theorem dX12_passing_5 : decode cX12_passing 5 = .ok (.ifCond .eq 7, 3) := by decide +kernel
theorem dX12_passing_8 : decode cX12_passing 8 = .ok (.iload_n 2, 1) := by decide +kernel
theorem dX12_passing_9 : decode cX12_passing 9 = .ok (.ifCond .ge 5, 3) := by decide +kernel
theorem dX12_passing_12 : decode cX12_passing 12 = .ok (.iconst (-1), 1) := by decide +kernel
theorem dX12_passing_13 : decode cX12_passing 13 = .ok (.ireturn, 1) := by decide +kernel
theorem dX12_passing_14 : decode cX12_passing 14 = .ok (.aload_n 0, 1) := by decide +kernel
theorem dX12_passing_15 : decode cX12_passing 15 = .ok (.invokevirtual 144, 3) := by decide +kernel
theorem dX12_passing_18 : decode cX12_passing 18 = .ok (.iconst 0, 1) := by decide +kernel
theorem dX12_passing_19 : decode cX12_passing 19 = .ok (.istore_n 3, 1) := by decide +kernel
theorem dX12_passing_20 : decode cX12_passing 20 = .ok (.iconst 0, 1) := by decide +kernel
theorem dX12_passing_21 : decode cX12_passing 21 = .ok (.istore 4, 2) := by decide +kernel
theorem dX12_passing_23 : decode cX12_passing 23 = .ok (.iload 4, 2) := by decide +kernel
theorem dX12_passing_25 : decode cX12_passing 25 = .ok (.aload_n 0, 1) := by decide +kernel
theorem dX12_passing_26 : decode cX12_passing 26 = .ok (.invokevirtual 125, 3) := by decide +kernel
theorem dX12_passing_29 : decode cX12_passing 29 = .ok (.if_icmp .ge 30, 3) := by decide +kernel
theorem dX12_passing_32 : decode cX12_passing 32 = .ok (.aload_n 0, 1) := by decide +kernel
theorem dX12_passing_33 : decode cX12_passing 33 = .ok (.iload_n 1, 1) := by decide +kernel
theorem dX12_passing_34 : decode cX12_passing 34 = .ok (.iload 4, 2) := by decide +kernel
theorem dX12_passing_36 : decode cX12_passing 36 = .ok (.invokevirtual 248, 3) := by decide +kernel
theorem dX12_passing_39 : decode cX12_passing 39 = .ok (.ifCond .eq 14, 3) := by decide +kernel
theorem dX12_passing_42 : decode cX12_passing 42 = .ok (.iload_n 3, 1) := by decide +kernel
theorem dX12_passing_43 : decode cX12_passing 43 = .ok (.iload_n 2, 1) := by decide +kernel
theorem dX12_passing_44 : decode cX12_passing 44 = .ok (.if_icmp .ne 6, 3) := by decide +kernel
theorem dX12_passing_47 : decode cX12_passing 47 = .ok (.iload 4, 2) := by decide +kernel
theorem dX12_passing_49 : decode cX12_passing 49 = .ok (.ireturn, 1) := by decide +kernel
theorem dX12_passing_50 : decode cX12_passing 50 = .ok (.iinc 3 1, 3) := by decide +kernel
theorem dX12_passing_53 : decode cX12_passing 53 = .ok (.iinc 4 1, 3) := by decide +kernel
theorem dX12_passing_56 : decode cX12_passing 56 = .ok (.goto (-33), 3) := by decide +kernel
theorem dX12_passing_59 : decode cX12_passing 59 = .ok (.bipush (-2), 2) := by decide +kernel
theorem dX12_passing_61 : decode cX12_passing 61 = .ok (.ireturn, 1) := by decide +kernel
theorem dX12_append_0 : decode cX12_append 0 = .ok (.aload_n 0, 1) := by decide +kernel
theorem dX12_append_1 : decode cX12_append 1 = .ok (.iload_n 1, 1) := by decide +kernel
theorem dX12_append_2 : decode cX12_append 2 = .ok (.invokevirtual 160, 3) := by decide +kernel
theorem dX12_append_5 : decode cX12_append 5 = .ok (.ifCond .ne 5, 3) := by decide +kernel
theorem dX12_append_8 : decode cX12_append 8 = .ok (.iconst (-1), 1) := by decide +kernel
theorem dX12_append_9 : decode cX12_append 9 = .ok (.ireturn, 1) := by decide +kernel
theorem dX12_append_10 : decode cX12_append 10 = .ok (.aload_n 0, 1) := by decide +kernel
theorem dX12_append_11 : decode cX12_append 11 = .ok (.getfield 251, 3) := by decide +kernel
theorem dX12_append_14 : decode cX12_append 14 = .ok (.bipush 24, 2) := by decide +kernel
theorem dX12_append_16 : decode cX12_append 16 = .ok (.if_icmp .ne 6, 3) := by decide +kernel
theorem dX12_append_19 : decode cX12_append 19 = .ok (.bipush (-3), 2) := by decide +kernel
theorem dX12_append_21 : decode cX12_append 21 = .ok (.ireturn, 1) := by decide +kernel
theorem dX12_append_22 : decode cX12_append 22 = .ok (.aload_n 0, 1) := by decide +kernel
theorem dX12_append_23 : decode cX12_append 23 = .ok (.getfield 50, 3) := by decide +kernel
theorem dX12_append_26 : decode cX12_append 26 = .ok (.aload_n 0, 1) := by decide +kernel
theorem dX12_append_27 : decode cX12_append 27 = .ok (.getfield 251, 3) := by decide +kernel
theorem dX12_append_30 : decode cX12_append 30 = .ok (.iload_n 1, 1) := by decide +kernel
theorem dX12_append_31 : decode cX12_append 31 = .ok (.iastore, 1) := by decide +kernel
theorem dX12_append_32 : decode cX12_append 32 = .ok (.aload_n 0, 1) := by decide +kernel
theorem dX12_append_33 : decode cX12_append 33 = .ok (.dup, 1) := by decide +kernel
theorem dX12_append_34 : decode cX12_append 34 = .ok (.getfield 251, 3) := by decide +kernel
theorem dX12_append_37 : decode cX12_append 37 = .ok (.iconst 1, 1) := by decide +kernel
theorem dX12_append_38 : decode cX12_append 38 = .ok (.iadd, 1) := by decide +kernel
theorem dX12_append_39 : decode cX12_append 39 = .ok (.putfield 251, 3) := by decide +kernel
theorem dX12_append_42 : decode cX12_append 42 = .ok (.aload_n 0, 1) := by decide +kernel
theorem dX12_append_43 : decode cX12_append 43 = .ok (.getfield 251, 3) := by decide +kernel
theorem dX12_append_46 : decode cX12_append 46 = .ok (.ireturn, 1) := by decide +kernel
theorem dX12_fill_0 : decode cX12_fill 0 = .ok (.aload_n 0, 1) := by decide +kernel
theorem dX12_fill_1 : decode cX12_fill 1 = .ok (.iload_n 1, 1) := by decide +kernel
theorem dX12_fill_2 : decode cX12_fill 2 = .ok (.iload_n 2, 1) := by decide +kernel
theorem dX12_fill_3 : decode cX12_fill 3 = .ok (.invokevirtual 192, 3) := by decide +kernel
theorem dX12_fill_6 : decode cX12_fill 6 = .ok (.istore_n 3, 1) := by decide +kernel
theorem dX12_fill_7 : decode cX12_fill 7 = .ok (.iload_n 3, 1) := by decide +kernel
theorem dX12_fill_8 : decode cX12_fill 8 = .ok (.ifCond .ge 5, 3) := by decide +kernel
theorem dX12_fill_11 : decode cX12_fill 11 = .ok (.iload_n 3, 1) := by decide +kernel
theorem dX12_fill_12 : decode cX12_fill 12 = .ok (.ireturn, 1) := by decide +kernel
theorem dX12_fill_13 : decode cX12_fill 13 = .ok (.iload_n 3, 1) := by decide +kernel
theorem dX12_fill_14 : decode cX12_fill 14 = .ok (.bipush 24, 2) := by decide +kernel
theorem dX12_fill_16 : decode cX12_fill 16 = .ok (.if_icmp .le 6, 3) := by decide +kernel
theorem dX12_fill_19 : decode cX12_fill 19 = .ok (.bipush (-3), 2) := by decide +kernel
theorem dX12_fill_21 : decode cX12_fill 21 = .ok (.ireturn, 1) := by decide +kernel
theorem dX12_fill_22 : decode cX12_fill 22 = .ok (.aload_n 0, 1) := by decide +kernel
theorem dX12_fill_23 : decode cX12_fill 23 = .ok (.iload_n 3, 1) := by decide +kernel
theorem dX12_fill_24 : decode cX12_fill 24 = .ok (.putfield 251, 3) := by decide +kernel
theorem dX12_fill_27 : decode cX12_fill 27 = .ok (.iconst 0, 1) := by decide +kernel
theorem dX12_fill_28 : decode cX12_fill 28 = .ok (.istore 4, 2) := by decide +kernel
theorem dX12_fill_30 : decode cX12_fill 30 = .ok (.iload 4, 2) := by decide +kernel
theorem dX12_fill_32 : decode cX12_fill 32 = .ok (.aload_n 0, 1) := by decide +kernel
theorem dX12_fill_33 : decode cX12_fill 33 = .ok (.getfield 251, 3) := by decide +kernel
theorem dX12_fill_36 : decode cX12_fill 36 = .ok (.if_icmp .ge 23, 3) := by decide +kernel
theorem dX12_fill_39 : decode cX12_fill 39 = .ok (.aload_n 0, 1) := by decide +kernel
theorem dX12_fill_40 : decode cX12_fill 40 = .ok (.getfield 50, 3) := by decide +kernel
theorem dX12_fill_43 : decode cX12_fill 43 = .ok (.iload 4, 2) := by decide +kernel
theorem dX12_fill_45 : decode cX12_fill 45 = .ok (.aload_n 0, 1) := by decide +kernel
theorem dX12_fill_46 : decode cX12_fill 46 = .ok (.getfield 41, 3) := by decide +kernel
theorem dX12_fill_49 : decode cX12_fill 49 = .ok (.iload 4, 2) := by decide +kernel
theorem dX12_fill_51 : decode cX12_fill 51 = .ok (.iaload, 1) := by decide +kernel
theorem dX12_fill_52 : decode cX12_fill 52 = .ok (.iastore, 1) := by decide +kernel
theorem dX12_fill_53 : decode cX12_fill 53 = .ok (.iinc 4 1, 3) := by decide +kernel
theorem dX12_fill_56 : decode cX12_fill 56 = .ok (.goto (-26), 3) := by decide +kernel
theorem dX12_fill_59 : decode cX12_fill 59 = .ok (.aload_n 0, 1) := by decide +kernel
theorem dX12_fill_60 : decode cX12_fill 60 = .ok (.getfield 251, 3) := by decide +kernel
theorem dX12_fill_63 : decode cX12_fill 63 = .ok (.ireturn, 1) := by decide +kernel
theorem dX12_fillWithGenerators_0 : decode cX12_fillWithGenerators 0 = .ok (.aload_n 0, 1) := by decide +kernel
theorem dX12_fillWithGenerators_1 : decode cX12_fillWithGenerators 1 = .ok (.iload_n 1, 1) := by decide +kernel
theorem dX12_fillWithGenerators_2 : decode cX12_fillWithGenerators 2 = .ok (.iconst 0, 1) := by decide +kernel
theorem dX12_fillWithGenerators_3 : decode cX12_fillWithGenerators 3 = .ok (.invokevirtual 254, 3) := by decide +kernel
theorem dX12_fillWithGenerators_6 : decode cX12_fillWithGenerators 6 = .ok (.ireturn, 1) := by decide +kernel
theorem dX12_fillWithSymbolicGenerators_0 : decode cX12_fillWithSymbolicGenerators 0 = .ok (.aload_n 0, 1) := by decide +kernel
theorem dX12_fillWithSymbolicGenerators_1 : decode cX12_fillWithSymbolicGenerators 1 = .ok (.iload_n 1, 1) := by decide +kernel
theorem dX12_fillWithSymbolicGenerators_2 : decode cX12_fillWithSymbolicGenerators 2 = .ok (.iconst 1, 1) := by decide +kernel
theorem dX12_fillWithSymbolicGenerators_3 : decode cX12_fillWithSymbolicGenerators 3 = .ok (.invokevirtual 254, 3) := by decide +kernel
theorem dX12_fillWithSymbolicGenerators_6 : decode cX12_fillWithSymbolicGenerators 6 = .ok (.ireturn, 1) := by decide +kernel
theorem dX12_listSize_0 : decode cX12_listSize 0 = .ok (.aload_n 0, 1) := by decide +kernel
theorem dX12_listSize_1 : decode cX12_listSize 1 = .ok (.getfield 251, 3) := by decide +kernel
theorem dX12_listSize_4 : decode cX12_listSize 4 = .ok (.ireturn, 1) := by decide +kernel
theorem dX12_isPosition_0 : decode cX12_isPosition 0 = .ok (.iload_n 1, 1) := by decide +kernel
theorem dX12_isPosition_1 : decode cX12_isPosition 1 = .ok (.i2l, 1) := by decide +kernel
theorem dX12_isPosition_2 : decode cX12_isPosition 2 = .ok (.lconst 0, 1) := by decide +kernel
theorem dX12_isPosition_3 : decode cX12_isPosition 3 = .ok (.aload_n 0, 1) := by decide +kernel
theorem dX12_isPosition_4 : decode cX12_isPosition 4 = .ok (.getfield 251, 3) := by decide +kernel
theorem dX12_isPosition_7 : decode cX12_isPosition 7 = .ok (.iconst 1, 1) := by decide +kernel
theorem dX12_isPosition_8 : decode cX12_isPosition 8 = .ok (.isub, 1) := by decide +kernel
theorem dX12_isPosition_9 : decode cX12_isPosition 9 = .ok (.i2l, 1) := by decide +kernel
theorem dX12_isPosition_10 : decode cX12_isPosition 10 = .ok (.invokestatic 79, 3) := by decide +kernel
theorem dX12_isPosition_13 : decode cX12_isPosition 13 = .ok (.ireturn, 1) := by decide +kernel
theorem dX12_element_0 : decode cX12_element 0 = .ok (.iload_n 1, 1) := by decide +kernel
theorem dX12_element_1 : decode cX12_element 1 = .ok (.ifCond .ge 7, 3) := by decide +kernel
theorem dX12_element_4 : decode cX12_element 4 = .ok (.iconst (-1), 1) := by decide +kernel
theorem dX12_element_5 : decode cX12_element 5 = .ok (.goto 22, 3) := by decide +kernel
theorem dX12_element_8 : decode cX12_element 8 = .ok (.iload_n 1, 1) := by decide +kernel
theorem dX12_element_9 : decode cX12_element 9 = .ok (.aload_n 0, 1) := by decide +kernel
theorem dX12_element_10 : decode cX12_element 10 = .ok (.getfield 251, 3) := by decide +kernel
theorem dX12_element_13 : decode cX12_element 13 = .ok (.if_icmp .ge 12, 3) := by decide +kernel
theorem dX12_element_16 : decode cX12_element 16 = .ok (.aload_n 0, 1) := by decide +kernel
theorem dX12_element_17 : decode cX12_element 17 = .ok (.getfield 50, 3) := by decide +kernel
theorem dX12_element_20 : decode cX12_element 20 = .ok (.iload_n 1, 1) := by decide +kernel
theorem dX12_element_21 : decode cX12_element 21 = .ok (.iaload, 1) := by decide +kernel
theorem dX12_element_22 : decode cX12_element 22 = .ok (.goto 5, 3) := by decide +kernel
theorem dX12_element_25 : decode cX12_element 25 = .ok (.bipush (-2), 2) := by decide +kernel
