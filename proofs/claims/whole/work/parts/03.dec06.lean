theorem dX12_element_27 : decode cX12_element 27 = .ok (.ireturn, 1) := by decide +kernel
theorem dX12_clearList_0 : decode cX12_clearList 0 = .ok (.aload_n 0, 1) := by decide +kernel
theorem dX12_clearList_1 : decode cX12_clearList 1 = .ok (.getfield 251, 3) := by decide +kernel
theorem dX12_clearList_4 : decode cX12_clearList 4 = .ok (.istore_n 1, 1) := by decide +kernel
theorem dX12_clearList_5 : decode cX12_clearList 5 = .ok (.aload_n 0, 1) := by decide +kernel
theorem dX12_clearList_6 : decode cX12_clearList 6 = .ok (.iconst 0, 1) := by decide +kernel
theorem dX12_clearList_7 : decode cX12_clearList 7 = .ok (.putfield 251, 3) := by decide +kernel
theorem dX12_clearList_10 : decode cX12_clearList 10 = .ok (.iload_n 1, 1) := by decide +kernel
theorem dX12_clearList_11 : decode cX12_clearList 11 = .ok (.ireturn, 1) := by decide +kernel
theorem dX12_isRedundant_0 : decode cX12_isRedundant 0 = .ok (.iconst 0, 1) := by decide +kernel
theorem dX12_isRedundant_1 : decode cX12_isRedundant 1 = .ok (.istore_n 2, 1) := by decide +kernel
theorem dX12_isRedundant_2 : decode cX12_isRedundant 2 = .ok (.iload_n 2, 1) := by decide +kernel
theorem dX12_isRedundant_3 : decode cX12_isRedundant 3 = .ok (.aload_n 0, 1) := by decide +kernel
theorem dX12_isRedundant_4 : decode cX12_isRedundant 4 = .ok (.getfield 251, 3) := by decide +kernel
theorem dX12_isRedundant_7 : decode cX12_isRedundant 7 = .ok (.if_icmp .ge 54, 3) := by decide +kernel
theorem dX12_isRedundant_10 : decode cX12_isRedundant 10 = .ok (.iload_n 2, 1) := by decide +kernel
theorem dX12_isRedundant_11 : decode cX12_isRedundant 11 = .ok (.iload_n 1, 1) := by decide +kernel
theorem dX12_isRedundant_12 : decode cX12_isRedundant 12 = .ok (.if_icmp .eq 43, 3) := by decide +kernel
theorem dX12_isRedundant_15 : decode cX12_isRedundant 15 = .ok (.aload_n 0, 1) := by decide +kernel
theorem dX12_isRedundant_16 : decode cX12_isRedundant 16 = .ok (.getfield 50, 3) := by decide +kernel
theorem dX12_isRedundant_19 : decode cX12_isRedundant 19 = .ok (.iload_n 2, 1) := by decide +kernel
theorem dX12_isRedundant_20 : decode cX12_isRedundant 20 = .ok (.iaload, 1) := by decide +kernel
theorem dX12_isRedundant_21 : decode cX12_isRedundant 21 = .ok (.aload_n 0, 1) := by decide +kernel
theorem dX12_isRedundant_22 : decode cX12_isRedundant 22 = .ok (.getfield 50, 3) := by decide +kernel
theorem dX12_isRedundant_25 : decode cX12_isRedundant 25 = .ok (.iload_n 1, 1) := by decide +kernel
theorem dX12_isRedundant_26 : decode cX12_isRedundant 26 = .ok (.iaload, 1) := by decide +kernel
theorem dX12_isRedundant_27 : decode cX12_isRedundant 27 = .ok (.invokestatic 166, 3) := by decide +kernel
theorem dX12_isRedundant_30 : decode cX12_isRedundant 30 = .ok (.ifCond .eq 25, 3) := by decide +kernel
theorem dX12_isRedundant_33 : decode cX12_isRedundant 33 = .ok (.aload_n 0, 1) := by decide +kernel
theorem dX12_isRedundant_34 : decode cX12_isRedundant 34 = .ok (.getfield 50, 3) := by decide +kernel
theorem dX12_isRedundant_37 : decode cX12_isRedundant 37 = .ok (.iload_n 2, 1) := by decide +kernel
theorem dX12_isRedundant_38 : decode cX12_isRedundant 38 = .ok (.iaload, 1) := by decide +kernel
theorem dX12_isRedundant_39 : decode cX12_isRedundant 39 = .ok (.aload_n 0, 1) := by decide +kernel
theorem dX12_isRedundant_40 : decode cX12_isRedundant 40 = .ok (.getfield 50, 3) := by decide +kernel
theorem dX12_isRedundant_43 : decode cX12_isRedundant 43 = .ok (.iload_n 1, 1) := by decide +kernel
theorem dX12_isRedundant_44 : decode cX12_isRedundant 44 = .ok (.iaload, 1) := by decide +kernel
theorem dX12_isRedundant_45 : decode cX12_isRedundant 45 = .ok (.if_icmp .ne 8, 3) := by decide +kernel
theorem dX12_isRedundant_48 : decode cX12_isRedundant 48 = .ok (.iload_n 2, 1) := by decide +kernel
theorem dX12_isRedundant_49 : decode cX12_isRedundant 49 = .ok (.iload_n 1, 1) := by decide +kernel
theorem dX12_isRedundant_50 : decode cX12_isRedundant 50 = .ok (.if_icmp .ge 5, 3) := by decide +kernel
theorem dX12_isRedundant_53 : decode cX12_isRedundant 53 = .ok (.iconst 1, 1) := by decide +kernel
theorem dX12_isRedundant_54 : decode cX12_isRedundant 54 = .ok (.ireturn, 1) := by decide +kernel
theorem dX12_isRedundant_55 : decode cX12_isRedundant 55 = .ok (.iinc 2 1, 3) := by decide +kernel
theorem dX12_isRedundant_58 : decode cX12_isRedundant 58 = .ok (.goto (-56), 3) := by decide +kernel
theorem dX12_isRedundant_61 : decode cX12_isRedundant 61 = .ok (.iconst 0, 1) := by decide +kernel
theorem dX12_isRedundant_62 : decode cX12_isRedundant 62 = .ok (.ireturn, 1) := by decide +kernel
theorem dX12_minimizeList_0 : decode cX12_minimizeList 0 = .ok (.iconst 0, 1) := by decide +kernel
theorem dX12_minimizeList_1 : decode cX12_minimizeList 1 = .ok (.istore_n 1, 1) := by decide +kernel
theorem dX12_minimizeList_2 : decode cX12_minimizeList 2 = .ok (.iconst 0, 1) := by decide +kernel
theorem dX12_minimizeList_3 : decode cX12_minimizeList 3 = .ok (.istore_n 2, 1) := by decide +kernel
theorem dX12_minimizeList_4 : decode cX12_minimizeList 4 = .ok (.iload_n 2, 1) := by decide +kernel
theorem dX12_minimizeList_5 : decode cX12_minimizeList 5 = .ok (.aload_n 0, 1) := by decide +kernel
theorem dX12_minimizeList_6 : decode cX12_minimizeList 6 = .ok (.getfield 251, 3) := by decide +kernel
theorem dX12_minimizeList_9 : decode cX12_minimizeList 9 = .ok (.if_icmp .ge 32, 3) := by decide +kernel
theorem dX12_minimizeList_12 : decode cX12_minimizeList 12 = .ok (.aload_n 0, 1) := by decide +kernel
theorem dX12_minimizeList_13 : decode cX12_minimizeList 13 = .ok (.iload_n 2, 1) := by decide +kernel
theorem dX12_minimizeList_14 : decode cX12_minimizeList 14 = .ok (.invokevirtual 257, 3) := by decide +kernel
theorem dX12_minimizeList_17 : decode cX12_minimizeList 17 = .ok (.ifCond .ne 18, 3) := by decide +kernel
theorem dX12_minimizeList_20 : decode cX12_minimizeList 20 = .ok (.aload_n 0, 1) := by decide +kernel
theorem dX12_minimizeList_21 : decode cX12_minimizeList 21 = .ok (.getfield 53, 3) := by decide +kernel
theorem dX12_minimizeList_24 : decode cX12_minimizeList 24 = .ok (.iload_n 1, 1) := by decide +kernel
theorem dX12_minimizeList_25 : decode cX12_minimizeList 25 = .ok (.aload_n 0, 1) := by decide +kernel
theorem dX12_minimizeList_26 : decode cX12_minimizeList 26 = .ok (.getfield 50, 3) := by decide +kernel
theorem dX12_minimizeList_29 : decode cX12_minimizeList 29 = .ok (.iload_n 2, 1) := by decide +kernel
theorem dX12_minimizeList_30 : decode cX12_minimizeList 30 = .ok (.iaload, 1) := by decide +kernel
theorem dX12_minimizeList_31 : decode cX12_minimizeList 31 = .ok (.iastore, 1) := by decide +kernel
theorem dX12_minimizeList_32 : decode cX12_minimizeList 32 = .ok (.iinc 1 1, 3) := by decide +kernel
theorem dX12_minimizeList_35 : decode cX12_minimizeList 35 = .ok (.iinc 2 1, 3) := by decide +kernel
theorem dX12_minimizeList_38 : decode cX12_minimizeList 38 = .ok (.goto (-34), 3) := by decide +kernel
theorem dX12_minimizeList_41 : decode cX12_minimizeList 41 = .ok (.iconst 0, 1) := by decide +kernel
theorem dX12_minimizeList_42 : decode cX12_minimizeList 42 = .ok (.istore_n 2, 1) := by decide +kernel
theorem dX12_minimizeList_43 : decode cX12_minimizeList 43 = .ok (.iload_n 2, 1) := by decide +kernel
theorem dX12_minimizeList_44 : decode cX12_minimizeList 44 = .ok (.iload_n 1, 1) := by decide +kernel
theorem dX12_minimizeList_45 : decode cX12_minimizeList 45 = .ok (.if_icmp .ge 21, 3) := by decide +kernel
theorem dX12_minimizeList_48 : decode cX12_minimizeList 48 = .ok (.aload_n 0, 1) := by decide +kernel
theorem dX12_minimizeList_49 : decode cX12_minimizeList 49 = .ok (.getfield 50, 3) := by decide +kernel
theorem dX12_minimizeList_52 : decode cX12_minimizeList 52 = .ok (.iload_n 2, 1) := by decide +kernel
theorem dX12_minimizeList_53 : decode cX12_minimizeList 53 = .ok (.aload_n 0, 1) := by decide +kernel
theorem dX12_minimizeList_54 : decode cX12_minimizeList 54 = .ok (.getfield 53, 3) := by decide +kernel
theorem dX12_minimizeList_57 : decode cX12_minimizeList 57 = .ok (.iload_n 2, 1) := by decide +kernel
theorem dX12_minimizeList_58 : decode cX12_minimizeList 58 = .ok (.iaload, 1) := by decide +kernel
theorem dX12_minimizeList_59 : decode cX12_minimizeList 59 = .ok (.iastore, 1) := by decide +kernel
theorem dX12_minimizeList_60 : decode cX12_minimizeList 60 = .ok (.iinc 2 1, 3) := by decide +kernel
theorem dX12_minimizeList_63 : decode cX12_minimizeList 63 = .ok (.goto (-20), 3) := by decide +kernel
theorem dX12_minimizeList_66 : decode cX12_minimizeList 66 = .ok (.aload_n 0, 1) := by decide +kernel
theorem dX12_minimizeList_67 : decode cX12_minimizeList 67 = .ok (.iload_n 1, 1) := by decide +kernel
theorem dX12_minimizeList_68 : decode cX12_minimizeList 68 = .ok (.putfield 251, 3) := by decide +kernel
theorem dX12_minimizeList_71 : decode cX12_minimizeList 71 = .ok (.aload_n 0, 1) := by decide +kernel
theorem dX12_minimizeList_72 : decode cX12_minimizeList 72 = .ok (.getfield 251, 3) := by decide +kernel
theorem dX12_minimizeList_75 : decode cX12_minimizeList 75 = .ok (.ireturn, 1) := by decide +kernel
theorem dX12_divideListBy_0 : decode cX12_divideListBy 0 = .ok (.iload_n 1, 1) := by decide +kernel
theorem dX12_divideListBy_1 : decode cX12_divideListBy 1 = .ok (.i2l, 1) := by decide +kernel
theorem dX12_divideListBy_2 : decode cX12_divideListBy 2 = .ok (.lconst 0, 1) := by decide +kernel
theorem dX12_divideListBy_3 : decode cX12_divideListBy 3 = .ok (.ldc2_w 243, 3) := by decide +kernel
theorem dX12_divideListBy_6 : decode cX12_divideListBy 6 = .ok (.invokestatic 79, 3) := by decide +kernel
theorem dX12_divideListBy_9 : decode cX12_divideListBy 9 = .ok (.ifCond .ne 5, 3) := by decide +kernel
theorem dX12_divideListBy_12 : decode cX12_divideListBy 12 = .ok (.iconst (-1), 1) := by decide +kernel
theorem dX12_divideListBy_13 : decode cX12_divideListBy 13 = .ok (.ireturn, 1) := by decide +kernel
theorem dX12_divideListBy_14 : decode cX12_divideListBy 14 = .ok (.iconst 0, 1) := by decide +kernel
theorem dX12_divideListBy_15 : decode cX12_divideListBy 15 = .ok (.istore_n 2, 1) := by decide +kernel
theorem dX12_divideListBy_16 : decode cX12_divideListBy 16 = .ok (.iload_n 2, 1) := by decide +kernel
theorem dX12_divideListBy_17 : decode cX12_divideListBy 17 = .ok (.aload_n 0, 1) := by decide +kernel
theorem dX12_divideListBy_18 : decode cX12_divideListBy 18 = .ok (.getfield 251, 3) := by decide +kernel
theorem dX12_divideListBy_21 : decode cX12_divideListBy 21 = .ok (.if_icmp .ge 40, 3) := by decide +kernel
theorem dX12_divideListBy_24 : decode cX12_divideListBy 24 = .ok (.aload_n 0, 1) := by decide +kernel
theorem dX12_divideListBy_25 : decode cX12_divideListBy 25 = .ok (.getfield 50, 3) := by decide +kernel
theorem dX12_divideListBy_28 : decode cX12_divideListBy 28 = .ok (.iload_n 2, 1) := by decide +kernel
theorem dX12_divideListBy_29 : decode cX12_divideListBy 29 = .ok (.dup2, 1) := by decide +kernel
theorem dX12_divideListBy_30 : decode cX12_divideListBy 30 = .ok (.iaload, 1) := by decide +kernel
theorem dX12_divideListBy_31 : decode cX12_divideListBy 31 = .ok (.aload_n 0, 1) := by decide +kernel
theorem dX12_divideListBy_32 : decode cX12_divideListBy 32 = .ok (.getfield 50, 3) := by decide +kernel
theorem dX12_divideListBy_35 : decode cX12_divideListBy 35 = .ok (.iload_n 2, 1) := by decide +kernel
theorem dX12_divideListBy_36 : decode cX12_divideListBy 36 = .ok (.iaload, 1) := by decide +kernel
theorem dX12_divideListBy_37 : decode cX12_divideListBy 37 = .ok (.iload_n 1, 1) := by decide +kernel
theorem dX12_divideListBy_38 : decode cX12_divideListBy 38 = .ok (.invokestatic 128, 3) := by decide +kernel
theorem dX12_divideListBy_41 : decode cX12_divideListBy 41 = .ok (.ifCond .le 11, 3) := by decide +kernel
theorem dX12_divideListBy_44 : decode cX12_divideListBy 44 = .ok (.iconst 1, 1) := by decide +kernel
theorem dX12_divideListBy_45 : decode cX12_divideListBy 45 = .ok (.iconst 2, 1) := by decide +kernel
theorem dX12_divideListBy_46 : decode cX12_divideListBy 46 = .ok (.iload_n 1, 1) := by decide +kernel
theorem dX12_divideListBy_47 : decode cX12_divideListBy 47 = .ok (.imul, 1) := by decide +kernel
theorem dX12_divideListBy_48 : decode cX12_divideListBy 48 = .ok (.ishl, 1) := by decide +kernel
theorem dX12_divideListBy_49 : decode cX12_divideListBy 49 = .ok (.goto 4, 3) := by decide +kernel
theorem dX12_divideListBy_52 : decode cX12_divideListBy 52 = .ok (.iconst 0, 1) := by decide +kernel
theorem dX12_divideListBy_53 : decode cX12_divideListBy 53 = .ok (.isub, 1) := by decide +kernel
theorem dX12_divideListBy_54 : decode cX12_divideListBy 54 = .ok (.iastore, 1) := by decide +kernel
theorem dX12_divideListBy_55 : decode cX12_divideListBy 55 = .ok (.iinc 2 1, 3) := by decide +kernel
theorem dX12_divideListBy_58 : decode cX12_divideListBy 58 = .ok (.goto (-42), 3) := by decide +kernel
theorem dX12_divideListBy_61 : decode cX12_divideListBy 61 = .ok (.aload_n 0, 1) := by decide +kernel
theorem dX12_divideListBy_62 : decode cX12_divideListBy 62 = .ok (.invokevirtual 260, 3) := by decide +kernel
theorem dX12_divideListBy_65 : decode cX12_divideListBy 65 = .ok (.ireturn, 1) := by decide +kernel
theorem dX12_reverseList_0 : decode cX12_reverseList 0 = .ok (.iconst 0, 1) := by decide +kernel
theorem dX12_reverseList_1 : decode cX12_reverseList 1 = .ok (.istore_n 1, 1) := by decide +kernel
theorem dX12_reverseList_2 : decode cX12_reverseList 2 = .ok (.iload_n 1, 1) := by decide +kernel
theorem dX12_reverseList_3 : decode cX12_reverseList 3 = .ok (.aload_n 0, 1) := by decide +kernel
theorem dX12_reverseList_4 : decode cX12_reverseList 4 = .ok (.getfield 251, 3) := by decide +kernel
theorem dX12_reverseList_7 : decode cX12_reverseList 7 = .ok (.iconst 2, 1) := by decide +kernel
theorem dX12_reverseList_8 : decode cX12_reverseList 8 = .ok (.idiv, 1) := by decide +kernel
theorem dX12_reverseList_9 : decode cX12_reverseList 9 = .ok (.if_icmp .ge 23, 3) := by decide +kernel
theorem dX12_reverseList_12 : decode cX12_reverseList 12 = .ok (.aload_n 0, 1) := by decide +kernel
theorem dX12_reverseList_13 : decode cX12_reverseList 13 = .ok (.iload_n 1, 1) := by decide +kernel
theorem dX12_reverseList_14 : decode cX12_reverseList 14 = .ok (.aload_n 0, 1) := by decide +kernel
theorem dX12_reverseList_15 : decode cX12_reverseList 15 = .ok (.getfield 251, 3) := by decide +kernel
theorem dX12_reverseList_18 : decode cX12_reverseList 18 = .ok (.iconst 1, 1) := by decide +kernel
theorem dX12_reverseList_19 : decode cX12_reverseList 19 = .ok (.isub, 1) := by decide +kernel
theorem dX12_reverseList_20 : decode cX12_reverseList 20 = .ok (.iload_n 1, 1) := by decide +kernel
theorem dX12_reverseList_21 : decode cX12_reverseList 21 = .ok (.isub, 1) := by decide +kernel
theorem dX12_reverseList_22 : decode cX12_reverseList 22 = .ok (.invokevirtual 263, 3) := by decide +kernel
theorem dX12_reverseList_25 : decode cX12_reverseList 25 = .ok (.pop, 1) := by decide +kernel
theorem dX12_reverseList_26 : decode cX12_reverseList 26 = .ok (.iinc 1 1, 3) := by decide +kernel
theorem dX12_reverseList_29 : decode cX12_reverseList 29 = .ok (.goto (-27), 3) := by decide +kernel
theorem dX12_reverseList_32 : decode cX12_reverseList 32 = .ok (.aload_n 0, 1) := by decide +kernel
theorem dX12_reverseList_33 : decode cX12_reverseList 33 = .ok (.getfield 251, 3) := by decide +kernel
theorem dX12_reverseList_36 : decode cX12_reverseList 36 = .ok (.ireturn, 1) := by decide +kernel
theorem dX12_rotateList_0 : decode cX12_rotateList 0 = .ok (.iload_n 1, 1) := by decide +kernel
theorem dX12_rotateList_1 : decode cX12_rotateList 1 = .ok (.i2l, 1) := by decide +kernel
theorem dX12_rotateList_2 : decode cX12_rotateList 2 = .ok (.lconst 0, 1) := by decide +kernel
theorem dX12_rotateList_3 : decode cX12_rotateList 3 = .ok (.ldc2_w 266, 3) := by decide +kernel
theorem dX12_rotateList_6 : decode cX12_rotateList 6 = .ok (.invokestatic 79, 3) := by decide +kernel
theorem dX12_rotateList_9 : decode cX12_rotateList 9 = .ok (.ifCond .ne 5, 3) := by decide +kernel
theorem dX12_rotateList_12 : decode cX12_rotateList 12 = .ok (.iconst (-1), 1) := by decide +kernel
theorem dX12_rotateList_13 : decode cX12_rotateList 13 = .ok (.ireturn, 1) := by decide +kernel
theorem dX12_rotateList_14 : decode cX12_rotateList 14 = .ok (.iconst 0, 1) := by decide +kernel
theorem dX12_rotateList_15 : decode cX12_rotateList 15 = .ok (.istore_n 2, 1) := by decide +kernel
theorem dX12_rotateList_16 : decode cX12_rotateList 16 = .ok (.iload_n 2, 1) := by decide +kernel
theorem dX12_rotateList_17 : decode cX12_rotateList 17 = .ok (.aload_n 0, 1) := by decide +kernel
theorem dX12_rotateList_18 : decode cX12_rotateList 18 = .ok (.getfield 251, 3) := by decide +kernel
theorem dX12_rotateList_21 : decode cX12_rotateList 21 = .ok (.if_icmp .ge 28, 3) := by decide +kernel
theorem dX12_rotateList_24 : decode cX12_rotateList 24 = .ok (.aload_n 0, 1) := by decide +kernel
theorem dX12_rotateList_25 : decode cX12_rotateList 25 = .ok (.getfield 53, 3) := by decide +kernel
theorem dX12_rotateList_28 : decode cX12_rotateList 28 = .ok (.iload_n 2, 1) := by decide +kernel
theorem dX12_rotateList_29 : decode cX12_rotateList 29 = .ok (.iload_n 1, 1) := by decide +kernel
theorem dX12_rotateList_30 : decode cX12_rotateList 30 = .ok (.iadd, 1) := by decide +kernel
theorem dX12_rotateList_31 : decode cX12_rotateList 31 = .ok (.aload_n 0, 1) := by decide +kernel
theorem dX12_rotateList_32 : decode cX12_rotateList 32 = .ok (.getfield 251, 3) := by decide +kernel
theorem dX12_rotateList_35 : decode cX12_rotateList 35 = .ok (.irem, 1) := by decide +kernel
theorem dX12_rotateList_36 : decode cX12_rotateList 36 = .ok (.aload_n 0, 1) := by decide +kernel
theorem dX12_rotateList_37 : decode cX12_rotateList 37 = .ok (.getfield 50, 3) := by decide +kernel
theorem dX12_rotateList_40 : decode cX12_rotateList 40 = .ok (.iload_n 2, 1) := by decide +kernel
theorem dX12_rotateList_41 : decode cX12_rotateList 41 = .ok (.iaload, 1) := by decide +kernel
theorem dX12_rotateList_42 : decode cX12_rotateList 42 = .ok (.iastore, 1) := by decide +kernel
theorem dX12_rotateList_43 : decode cX12_rotateList 43 = .ok (.iinc 2 1, 3) := by decide +kernel
theorem dX12_rotateList_46 : decode cX12_rotateList 46 = .ok (.goto (-30), 3) := by decide +kernel
theorem dX12_rotateList_49 : decode cX12_rotateList 49 = .ok (.iconst 0, 1) := by decide +kernel
theorem dX12_rotateList_50 : decode cX12_rotateList 50 = .ok (.istore_n 2, 1) := by decide +kernel
theorem dX12_rotateList_51 : decode cX12_rotateList 51 = .ok (.iload_n 2, 1) := by decide +kernel
theorem dX12_rotateList_52 : decode cX12_rotateList 52 = .ok (.aload_n 0, 1) := by decide +kernel
theorem dX12_rotateList_53 : decode cX12_rotateList 53 = .ok (.getfield 251, 3) := by decide +kernel
theorem dX12_rotateList_56 : decode cX12_rotateList 56 = .ok (.if_icmp .ge 21, 3) := by decide +kernel
theorem dX12_rotateList_59 : decode cX12_rotateList 59 = .ok (.aload_n 0, 1) := by decide +kernel
theorem dX12_rotateList_60 : decode cX12_rotateList 60 = .ok (.getfield 50, 3) := by decide +kernel
theorem dX12_rotateList_63 : decode cX12_rotateList 63 = .ok (.iload_n 2, 1) := by decide +kernel
theorem dX12_rotateList_64 : decode cX12_rotateList 64 = .ok (.aload_n 0, 1) := by decide +kernel
theorem dX12_rotateList_65 : decode cX12_rotateList 65 = .ok (.getfield 53, 3) := by decide +kernel
theorem dX12_rotateList_68 : decode cX12_rotateList 68 = .ok (.iload_n 2, 1) := by decide +kernel
theorem dX12_rotateList_69 : decode cX12_rotateList 69 = .ok (.iaload, 1) := by decide +kernel
theorem dX12_rotateList_70 : decode cX12_rotateList 70 = .ok (.iastore, 1) := by decide +kernel
theorem dX12_rotateList_71 : decode cX12_rotateList 71 = .ok (.iinc 2 1, 3) := by decide +kernel
theorem dX12_rotateList_74 : decode cX12_rotateList 74 = .ok (.goto (-23), 3) := by decide +kernel
theorem dX12_rotateList_77 : decode cX12_rotateList 77 = .ok (.aload_n 0, 1) := by decide +kernel
theorem dX12_rotateList_78 : decode cX12_rotateList 78 = .ok (.getfield 251, 3) := by decide +kernel
theorem dX12_rotateList_81 : decode cX12_rotateList 81 = .ok (.ireturn, 1) := by decide +kernel
theorem dX12_swapElements_0 : decode cX12_swapElements 0 = .ok (.aload_n 0, 1) := by decide +kernel
theorem dX12_swapElements_1 : decode cX12_swapElements 1 = .ok (.iload_n 1, 1) := by decide +kernel
theorem dX12_swapElements_2 : decode cX12_swapElements 2 = .ok (.invokevirtual 268, 3) := by decide +kernel
theorem dX12_swapElements_5 : decode cX12_swapElements 5 = .ok (.ifCond .eq 11, 3) := by decide +kernel
theorem dX12_swapElements_8 : decode cX12_swapElements 8 = .ok (.aload_n 0, 1) := by decide +kernel
theorem dX12_swapElements_9 : decode cX12_swapElements 9 = .ok (.iload_n 2, 1) := by decide +kernel
theorem dX12_swapElements_10 : decode cX12_swapElements 10 = .ok (.invokevirtual 268, 3) := by decide +kernel
theorem dX12_swapElements_13 : decode cX12_swapElements 13 = .ok (.ifCond .ne 6, 3) := by decide +kernel
theorem dX12_swapElements_16 : decode cX12_swapElements 16 = .ok (.bipush (-2), 2) := by decide +kernel
theorem dX12_swapElements_18 : decode cX12_swapElements 18 = .ok (.ireturn, 1) := by decide +kernel
theorem dX12_swapElements_19 : decode cX12_swapElements 19 = .ok (.aload_n 0, 1) := by decide +kernel
theorem dX12_swapElements_20 : decode cX12_swapElements 20 = .ok (.getfield 50, 3) := by decide +kernel
theorem dX12_swapElements_23 : decode cX12_swapElements 23 = .ok (.iload_n 1, 1) := by decide +kernel
theorem dX12_swapElements_24 : decode cX12_swapElements 24 = .ok (.iaload, 1) := by decide +kernel
theorem dX12_swapElements_25 : decode cX12_swapElements 25 = .ok (.istore_n 3, 1) := by decide +kernel
theorem dX12_swapElements_26 : decode cX12_swapElements 26 = .ok (.aload_n 0, 1) := by decide +kernel
theorem dX12_swapElements_27 : decode cX12_swapElements 27 = .ok (.getfield 50, 3) := by decide +kernel
theorem dX12_swapElements_30 : decode cX12_swapElements 30 = .ok (.iload_n 1, 1) := by decide +kernel
theorem dX12_swapElements_31 : decode cX12_swapElements 31 = .ok (.aload_n 0, 1) := by decide +kernel
theorem dX12_swapElements_32 : decode cX12_swapElements 32 = .ok (.getfield 50, 3) := by decide +kernel
theorem dX12_swapElements_35 : decode cX12_swapElements 35 = .ok (.iload_n 2, 1) := by decide +kernel
theorem dX12_swapElements_36 : decode cX12_swapElements 36 = .ok (.iaload, 1) := by decide +kernel
theorem dX12_swapElements_37 : decode cX12_swapElements 37 = .ok (.iastore, 1) := by decide +kernel
theorem dX12_swapElements_38 : decode cX12_swapElements 38 = .ok (.aload_n 0, 1) := by decide +kernel
theorem dX12_swapElements_39 : decode cX12_swapElements 39 = .ok (.getfield 50, 3) := by decide +kernel
theorem dX12_swapElements_42 : decode cX12_swapElements 42 = .ok (.iload_n 2, 1) := by decide +kernel
theorem dX12_swapElements_43 : decode cX12_swapElements 43 = .ok (.iload_n 3, 1) := by decide +kernel
theorem dX12_swapElements_44 : decode cX12_swapElements 44 = .ok (.iastore, 1) := by decide +kernel
theorem dX12_swapElements_45 : decode cX12_swapElements 45 = .ok (.aload_n 0, 1) := by decide +kernel
theorem dX12_swapElements_46 : decode cX12_swapElements 46 = .ok (.getfield 251, 3) := by decide +kernel
theorem dX12_swapElements_49 : decode cX12_swapElements 49 = .ok (.ireturn, 1) := by decide +kernel
theorem dX12_indexOfDivisor_0 : decode cX12_indexOfDivisor 0 = .ok (.aload_n 0, 1) := by decide +kernel
theorem dX12_indexOfDivisor_1 : decode cX12_indexOfDivisor 1 = .ok (.iload_n 1, 1) := by decide +kernel
theorem dX12_indexOfDivisor_2 : decode cX12_indexOfDivisor 2 = .ok (.invokevirtual 160, 3) := by decide +kernel
theorem dX12_indexOfDivisor_5 : decode cX12_indexOfDivisor 5 = .ok (.ifCond .ne 5, 3) := by decide +kernel
theorem dX12_indexOfDivisor_8 : decode cX12_indexOfDivisor 8 = .ok (.iconst (-1), 1) := by decide +kernel
theorem dX12_indexOfDivisor_9 : decode cX12_indexOfDivisor 9 = .ok (.ireturn, 1) := by decide +kernel
theorem dX12_indexOfDivisor_10 : decode cX12_indexOfDivisor 10 = .ok (.iconst 0, 1) := by decide +kernel
theorem dX12_indexOfDivisor_11 : decode cX12_indexOfDivisor 11 = .ok (.istore_n 2, 1) := by decide +kernel
theorem dX12_indexOfDivisor_12 : decode cX12_indexOfDivisor 12 = .ok (.iload_n 2, 1) := by decide +kernel
theorem dX12_indexOfDivisor_13 : decode cX12_indexOfDivisor 13 = .ok (.aload_n 0, 1) := by decide +kernel
theorem dX12_indexOfDivisor_14 : decode cX12_indexOfDivisor 14 = .ok (.getfield 251, 3) := by decide +kernel
theorem dX12_indexOfDivisor_17 : decode cX12_indexOfDivisor 17 = .ok (.if_icmp .ge 24, 3) := by decide +kernel
theorem dX12_indexOfDivisor_20 : decode cX12_indexOfDivisor 20 = .ok (.aload_n 0, 1) := by decide +kernel
theorem dX12_indexOfDivisor_21 : decode cX12_indexOfDivisor 21 = .ok (.getfield 50, 3) := by decide +kernel
theorem dX12_indexOfDivisor_24 : decode cX12_indexOfDivisor 24 = .ok (.iload_n 2, 1) := by decide +kernel
theorem dX12_indexOfDivisor_25 : decode cX12_indexOfDivisor 25 = .ok (.iaload, 1) := by decide +kernel
theorem dX12_indexOfDivisor_26 : decode cX12_indexOfDivisor 26 = .ok (.iload_n 1, 1) := by decide +kernel
theorem dX12_indexOfDivisor_27 : decode cX12_indexOfDivisor 27 = .ok (.invokestatic 166, 3) := by decide +kernel
theorem dX12_indexOfDivisor_30 : decode cX12_indexOfDivisor 30 = .ok (.ifCond .eq 5, 3) := by decide +kernel
theorem dX12_indexOfDivisor_33 : decode cX12_indexOfDivisor 33 = .ok (.iload_n 2, 1) := by decide +kernel
theorem dX12_indexOfDivisor_34 : decode cX12_indexOfDivisor 34 = .ok (.ireturn, 1) := by decide +kernel
theorem dX12_indexOfDivisor_35 : decode cX12_indexOfDivisor 35 = .ok (.iinc 2 1, 3) := by decide +kernel
theorem dX12_indexOfDivisor_38 : decode cX12_indexOfDivisor 38 = .ok (.goto (-26), 3) := by decide +kernel
theorem dX12_indexOfDivisor_41 : decode cX12_indexOfDivisor 41 = .ok (.bipush (-2), 2) := by decide +kernel
theorem dX12_indexOfDivisor_43 : decode cX12_indexOfDivisor 43 = .ok (.ireturn, 1) := by decide +kernel
theorem dX12_greatestExponent_0 : decode cX12_greatestExponent 0 = .ok (.iconst 0, 1) := by decide +kernel
theorem dX12_greatestExponent_1 : decode cX12_greatestExponent 1 = .ok (.istore_n 2, 1) := by decide +kernel
theorem dX12_greatestExponent_2 : decode cX12_greatestExponent 2 = .ok (.iconst 0, 1) := by decide +kernel
theorem dX12_greatestExponent_3 : decode cX12_greatestExponent 3 = .ok (.istore_n 3, 1) := by decide +kernel
theorem dX12_greatestExponent_4 : decode cX12_greatestExponent 4 = .ok (.iload_n 3, 1) := by decide +kernel
theorem dX12_greatestExponent_5 : decode cX12_greatestExponent 5 = .ok (.aload_n 0, 1) := by decide +kernel
theorem dX12_greatestExponent_6 : decode cX12_greatestExponent 6 = .ok (.getfield 251, 3) := by decide +kernel
theorem dX12_greatestExponent_9 : decode cX12_greatestExponent 9 = .ok (.if_icmp .ge 38, 3) := by decide +kernel
theorem dX12_greatestExponent_12 : decode cX12_greatestExponent 12 = .ok (.aload_n 0, 1) := by decide +kernel
theorem dX12_greatestExponent_13 : decode cX12_greatestExponent 13 = .ok (.getfield 50, 3) := by decide +kernel
theorem dX12_greatestExponent_16 : decode cX12_greatestExponent 16 = .ok (.iload_n 3, 1) := by decide +kernel
theorem dX12_greatestExponent_17 : decode cX12_greatestExponent 17 = .ok (.iaload, 1) := by decide +kernel
theorem dX12_greatestExponent_18 : decode cX12_greatestExponent 18 = .ok (.iload_n 1, 1) := by decide +kernel
theorem dX12_greatestExponent_19 : decode cX12_greatestExponent 19 = .ok (.invokestatic 128, 3) := by decide +kernel
theorem dX12_greatestExponent_22 : decode cX12_greatestExponent 22 = .ok (.iload_n 2, 1) := by decide +kernel
theorem dX12_greatestExponent_23 : decode cX12_greatestExponent 23 = .ok (.if_icmp .le 16, 3) := by decide +kernel
theorem dX12_greatestExponent_26 : decode cX12_greatestExponent 26 = .ok (.aload_n 0, 1) := by decide +kernel
theorem dX12_greatestExponent_27 : decode cX12_greatestExponent 27 = .ok (.getfield 50, 3) := by decide +kernel
theorem dX12_greatestExponent_30 : decode cX12_greatestExponent 30 = .ok (.iload_n 3, 1) := by decide +kernel
theorem dX12_greatestExponent_31 : decode cX12_greatestExponent 31 = .ok (.iaload, 1) := by decide +kernel
theorem dX12_greatestExponent_32 : decode cX12_greatestExponent 32 = .ok (.iload_n 1, 1) := by decide +kernel
theorem dX12_greatestExponent_33 : decode cX12_greatestExponent 33 = .ok (.invokestatic 128, 3) := by decide +kernel
theorem dX12_greatestExponent_36 : decode cX12_greatestExponent 36 = .ok (.goto 4, 3) := by decide +kernel
theorem dX12_greatestExponent_39 : decode cX12_greatestExponent 39 = .ok (.iload_n 2, 1) := by decide +kernel
theorem dX12_greatestExponent_40 : decode cX12_greatestExponent 40 = .ok (.istore_n 2, 1) := by decide +kernel
theorem dX12_greatestExponent_41 : decode cX12_greatestExponent 41 = .ok (.iinc 3 1, 3) := by decide +kernel
theorem dX12_greatestExponent_44 : decode cX12_greatestExponent 44 = .ok (.goto (-40), 3) := by decide +kernel
theorem dX12_greatestExponent_47 : decode cX12_greatestExponent 47 = .ok (.iload_n 2, 1) := by decide +kernel
theorem dX12_greatestExponent_48 : decode cX12_greatestExponent 48 = .ok (.ireturn, 1) := by decide +kernel
theorem dX12_polarizedVariableCount_0 : decode cX12_polarizedVariableCount 0 = .ok (.iconst 0, 1) := by decide +kernel
theorem dX12_polarizedVariableCount_1 : decode cX12_polarizedVariableCount 1 = .ok (.istore_n 1, 1) := by decide +kernel
theorem dX12_polarizedVariableCount_2 : decode cX12_polarizedVariableCount 2 = .ok (.iconst 0, 1) := by decide +kernel
theorem dX12_polarizedVariableCount_3 : decode cX12_polarizedVariableCount 3 = .ok (.istore_n 2, 1) := by decide +kernel
theorem dX12_polarizedVariableCount_4 : decode cX12_polarizedVariableCount 4 = .ok (.iload_n 2, 1) := by decide +kernel
theorem dX12_polarizedVariableCount_5 : decode cX12_polarizedVariableCount 5 = .ok (.bipush 7, 2) := by decide +kernel
theorem dX12_polarizedVariableCount_7 : decode cX12_polarizedVariableCount 7 = .ok (.if_icmp .ge 17, 3) := by decide +kernel
theorem dX12_polarizedVariableCount_10 : decode cX12_polarizedVariableCount 10 = .ok (.iload_n 1, 1) := by decide +kernel
theorem dX12_polarizedVariableCount_11 : decode cX12_polarizedVariableCount 11 = .ok (.aload_n 0, 1) := by decide +kernel
theorem dX12_polarizedVariableCount_12 : decode cX12_polarizedVariableCount 12 = .ok (.iload_n 2, 1) := by decide +kernel
theorem dX12_polarizedVariableCount_13 : decode cX12_polarizedVariableCount 13 = .ok (.invokevirtual 271, 3) := by decide +kernel
theorem dX12_polarizedVariableCount_16 : decode cX12_polarizedVariableCount 16 = .ok (.iadd, 1) := by decide +kernel
theorem dX12_polarizedVariableCount_17 : decode cX12_polarizedVariableCount 17 = .ok (.istore_n 1, 1) := by decide +kernel
theorem dX12_polarizedVariableCount_18 : decode cX12_polarizedVariableCount 18 = .ok (.iinc 2 1, 3) := by decide +kernel
theorem dX12_polarizedVariableCount_21 : decode cX12_polarizedVariableCount 21 = .ok (.goto (-17), 3) := by decide +kernel
theorem dX12_polarizedVariableCount_24 : decode cX12_polarizedVariableCount 24 = .ok (.iload_n 1, 1) := by decide +kernel
theorem dX12_polarizedVariableCount_25 : decode cX12_polarizedVariableCount 25 = .ok (.ireturn, 1) := by decide +kernel
theorem dX12_polarized_0 : decode cX12_polarized 0 = .ok (.iload_n 1, 1) := by decide +kernel
theorem dX12_polarized_1 : decode cX12_polarized 1 = .ok (.ifCond .ge 5, 3) := by decide +kernel
theorem dX12_polarized_4 : decode cX12_polarized 4 = .ok (.iconst (-1), 1) := by decide +kernel
theorem dX12_polarized_5 : decode cX12_polarized 5 = .ok (.ireturn, 1) := by decide +kernel
theorem dX12_polarized_6 : decode cX12_polarized 6 = .ok (.iload_n 1, 1) := by decide +kernel
theorem dX12_polarized_7 : decode cX12_polarized 7 = .ok (.aload_n 0, 1) := by decide +kernel
theorem dX12_polarized_8 : decode cX12_polarized 8 = .ok (.getfield 251, 3) := by decide +kernel
theorem dX12_polarized_11 : decode cX12_polarized 11 = .ok (.if_icmp .lt 6, 3) := by decide +kernel
theorem dX12_polarized_14 : decode cX12_polarized 14 = .ok (.bipush (-2), 2) := by decide +kernel
theorem dX12_polarized_16 : decode cX12_polarized 16 = .ok (.ireturn, 1) := by decide +kernel
theorem dX12_polarized_17 : decode cX12_polarized 17 = .ok (.iconst 0, 1) := by decide +kernel
theorem dX12_polarized_18 : decode cX12_polarized 18 = .ok (.istore_n 2, 1) := by decide +kernel
theorem dX12_polarized_19 : decode cX12_polarized 19 = .ok (.iconst 0, 1) := by decide +kernel
theorem dX12_polarized_20 : decode cX12_polarized 20 = .ok (.istore_n 3, 1) := by decide +kernel
theorem dX12_polarized_21 : decode cX12_polarized 21 = .ok (.iconst 0, 1) := by decide +kernel
theorem dX12_polarized_22 : decode cX12_polarized 22 = .ok (.istore 4, 2) := by decide +kernel
theorem dX12_polarized_24 : decode cX12_polarized 24 = .ok (.iload 4, 2) := by decide +kernel
theorem dX12_polarized_26 : decode cX12_polarized 26 = .ok (.bipush 7, 2) := by decide +kernel
theorem dX12_polarized_28 : decode cX12_polarized 28 = .ok (.if_icmp .ge 38, 3) := by decide +kernel
theorem dX12_polarized_31 : decode cX12_polarized 31 = .ok (.iload_n 2, 1) := by decide +kernel
theorem dX12_polarized_32 : decode cX12_polarized 32 = .ok (.iconst 1, 1) := by decide +kernel
theorem dX12_polarized_33 : decode cX12_polarized 33 = .ok (.aload_n 0, 1) := by decide +kernel
theorem dX12_polarized_34 : decode cX12_polarized 34 = .ok (.getfield 50, 3) := by decide +kernel
theorem dX12_polarized_37 : decode cX12_polarized 37 = .ok (.iload_n 1, 1) := by decide +kernel
theorem dX12_polarized_38 : decode cX12_polarized 38 = .ok (.iaload, 1) := by decide +kernel
theorem dX12_polarized_39 : decode cX12_polarized 39 = .ok (.iload 4, 2) := by decide +kernel
theorem dX12_polarized_41 : decode cX12_polarized 41 = .ok (.invokestatic 128, 3) := by decide +kernel
theorem dX12_polarized_44 : decode cX12_polarized 44 = .ok (.ishl, 1) := by decide +kernel
theorem dX12_polarized_45 : decode cX12_polarized 45 = .ok (.iconst 1, 1) := by decide +kernel
theorem dX12_polarized_46 : decode cX12_polarized 46 = .ok (.isub, 1) := by decide +kernel
theorem dX12_polarized_47 : decode cX12_polarized 47 = .ok (.iload_n 3, 1) := by decide +kernel
theorem dX12_polarized_48 : decode cX12_polarized 48 = .ok (.ishl, 1) := by decide +kernel
theorem dX12_polarized_49 : decode cX12_polarized 49 = .ok (.ior, 1) := by decide +kernel
theorem dX12_polarized_50 : decode cX12_polarized 50 = .ok (.istore_n 2, 1) := by decide +kernel
theorem dX12_polarized_51 : decode cX12_polarized 51 = .ok (.iload_n 3, 1) := by decide +kernel
theorem dX12_polarized_52 : decode cX12_polarized 52 = .ok (.aload_n 0, 1) := by decide +kernel
theorem dX12_polarized_53 : decode cX12_polarized 53 = .ok (.iload 4, 2) := by decide +kernel
theorem dX12_polarized_55 : decode cX12_polarized 55 = .ok (.invokevirtual 271, 3) := by decide +kernel
theorem dX12_polarized_58 : decode cX12_polarized 58 = .ok (.iadd, 1) := by decide +kernel
theorem dX12_polarized_59 : decode cX12_polarized 59 = .ok (.istore_n 3, 1) := by decide +kernel
theorem dX12_polarized_60 : decode cX12_polarized 60 = .ok (.iinc 4 1, 3) := by decide +kernel
theorem dX12_polarized_63 : decode cX12_polarized 63 = .ok (.goto (-39), 3) := by decide +kernel
theorem dX12_polarized_66 : decode cX12_polarized 66 = .ok (.iload_n 2, 1) := by decide +kernel
theorem dX12_polarized_67 : decode cX12_polarized 67 = .ok (.ireturn, 1) := by decide +kernel
theorem dX12_support_0 : decode cX12_support 0 = .ok (.iconst 0, 1) := by decide +kernel
theorem dX12_support_1 : decode cX12_support 1 = .ok (.istore_n 1, 1) := by decide +kernel
theorem dX12_support_2 : decode cX12_support 2 = .ok (.iconst 0, 1) := by decide +kernel
theorem dX12_support_3 : decode cX12_support 3 = .ok (.istore_n 2, 1) := by decide +kernel
theorem dX12_support_4 : decode cX12_support 4 = .ok (.iload_n 2, 1) := by decide +kernel
theorem dX12_support_5 : decode cX12_support 5 = .ok (.bipush 7, 2) := by decide +kernel
theorem dX12_support_7 : decode cX12_support 7 = .ok (.if_icmp .ge 27, 3) := by decide +kernel
theorem dX12_support_10 : decode cX12_support 10 = .ok (.iload_n 1, 1) := by decide +kernel
theorem dX12_support_11 : decode cX12_support 11 = .ok (.iload_n 0, 1) := by decide +kernel
theorem dX12_support_12 : decode cX12_support 12 = .ok (.iload_n 2, 1) := by decide +kernel
theorem dX12_support_13 : decode cX12_support 13 = .ok (.invokestatic 128, 3) := by decide +kernel
theorem dX12_support_16 : decode cX12_support 16 = .ok (.ifCond .le 9, 3) := by decide +kernel
theorem dX12_support_19 : decode cX12_support 19 = .ok (.iconst 1, 1) := by decide +kernel
theorem dX12_support_20 : decode cX12_support 20 = .ok (.iload_n 2, 1) := by decide +kernel
theorem dX12_support_21 : decode cX12_support 21 = .ok (.ishl, 1) := by decide +kernel
theorem dX12_support_22 : decode cX12_support 22 = .ok (.goto 4, 3) := by decide +kernel
theorem dX12_support_25 : decode cX12_support 25 = .ok (.iconst 0, 1) := by decide +kernel
theorem dX12_support_26 : decode cX12_support 26 = .ok (.ior, 1) := by decide +kernel
theorem dX12_support_27 : decode cX12_support 27 = .ok (.istore_n 1, 1) := by decide +kernel
theorem dX12_support_28 : decode cX12_support 28 = .ok (.iinc 2 1, 3) := by decide +kernel
theorem dX12_support_31 : decode cX12_support 31 = .ok (.goto (-27), 3) := by decide +kernel
theorem dX12_support_34 : decode cX12_support 34 = .ok (.iload_n 1, 1) := by decide +kernel
theorem dX12_support_35 : decode cX12_support 35 = .ok (.ireturn, 1) := by decide +kernel
theorem dX12_hittingNumber_0 : decode cX12_hittingNumber 0 = .ok (.bipush (-2), 2) := by decide +kernel
theorem dX12_hittingNumber_2 : decode cX12_hittingNumber 2 = .ok (.istore_n 1, 1) := by decide +kernel
theorem dX12_hittingNumber_3 : decode cX12_hittingNumber 3 = .ok (.iconst 0, 1) := by decide +kernel
theorem dX12_hittingNumber_4 : decode cX12_hittingNumber 4 = .ok (.istore_n 2, 1) := by decide +kernel
theorem dX12_hittingNumber_5 : decode cX12_hittingNumber 5 = .ok (.iload_n 2, 1) := by decide +kernel
theorem dX12_hittingNumber_6 : decode cX12_hittingNumber 6 = .ok (.sipush 128, 3) := by decide +kernel
theorem dX12_hittingNumber_9 : decode cX12_hittingNumber 9 = .ok (.if_icmp .ge 81, 3) := by decide +kernel
theorem dX12_hittingNumber_12 : decode cX12_hittingNumber 12 = .ok (.iconst 1, 1) := by decide +kernel
theorem dX12_hittingNumber_13 : decode cX12_hittingNumber 13 = .ok (.istore_n 3, 1) := by decide +kernel
theorem dX12_hittingNumber_14 : decode cX12_hittingNumber 14 = .ok (.iconst 0, 1) := by decide +kernel
theorem dX12_hittingNumber_15 : decode cX12_hittingNumber 15 = .ok (.istore 4, 2) := by decide +kernel
theorem dX12_hittingNumber_17 : decode cX12_hittingNumber 17 = .ok (.iload 4, 2) := by decide +kernel
theorem dX12_hittingNumber_19 : decode cX12_hittingNumber 19 = .ok (.aload_n 0, 1) := by decide +kernel
theorem dX12_hittingNumber_20 : decode cX12_hittingNumber 20 = .ok (.getfield 251, 3) := by decide +kernel
theorem dX12_hittingNumber_23 : decode cX12_hittingNumber 23 = .ok (.if_icmp .ge 34, 3) := by decide +kernel
theorem dX12_hittingNumber_26 : decode cX12_hittingNumber 26 = .ok (.iload_n 3, 1) := by decide +kernel
theorem dX12_hittingNumber_27 : decode cX12_hittingNumber 27 = .ok (.ifCond .eq 30, 3) := by decide +kernel
theorem dX12_hittingNumber_30 : decode cX12_hittingNumber 30 = .ok (.aload_n 0, 1) := by decide +kernel
theorem dX12_hittingNumber_31 : decode cX12_hittingNumber 31 = .ok (.getfield 50, 3) := by decide +kernel
theorem dX12_hittingNumber_34 : decode cX12_hittingNumber 34 = .ok (.iload 4, 2) := by decide +kernel
theorem dX12_hittingNumber_36 : decode cX12_hittingNumber 36 = .ok (.iaload, 1) := by decide +kernel
theorem dX12_hittingNumber_37 : decode cX12_hittingNumber 37 = .ok (.invokestatic 274, 3) := by decide +kernel
theorem dX12_hittingNumber_40 : decode cX12_hittingNumber 40 = .ok (.iload_n 2, 1) := by decide +kernel
theorem dX12_hittingNumber_41 : decode cX12_hittingNumber 41 = .ok (.iand, 1) := by decide +kernel
theorem dX12_hittingNumber_42 : decode cX12_hittingNumber 42 = .ok (.ifCond .eq 7, 3) := by decide +kernel
theorem dX12_hittingNumber_45 : decode cX12_hittingNumber 45 = .ok (.iconst 1, 1) := by decide +kernel
theorem dX12_hittingNumber_46 : decode cX12_hittingNumber 46 = .ok (.goto 4, 3) := by decide +kernel
theorem dX12_hittingNumber_49 : decode cX12_hittingNumber 49 = .ok (.iconst 0, 1) := by decide +kernel
theorem dX12_hittingNumber_50 : decode cX12_hittingNumber 50 = .ok (.istore_n 3, 1) := by decide +kernel
theorem dX12_hittingNumber_51 : decode cX12_hittingNumber 51 = .ok (.iinc 4 1, 3) := by decide +kernel
theorem dX12_hittingNumber_54 : decode cX12_hittingNumber 54 = .ok (.goto (-37), 3) := by decide +kernel
theorem dX12_hittingNumber_57 : decode cX12_hittingNumber 57 = .ok (.iload_n 3, 1) := by decide +kernel
theorem dX12_hittingNumber_58 : decode cX12_hittingNumber 58 = .ok (.ifCond .eq 24, 3) := by decide +kernel
theorem dX12_hittingNumber_61 : decode cX12_hittingNumber 61 = .ok (.iload_n 1, 1) := by decide +kernel
theorem dX12_hittingNumber_62 : decode cX12_hittingNumber 62 = .ok (.bipush (-2), 2) := by decide +kernel
theorem dX12_hittingNumber_64 : decode cX12_hittingNumber 64 = .ok (.if_icmp .eq 11, 3) := by decide +kernel
theorem dX12_hittingNumber_67 : decode cX12_hittingNumber 67 = .ok (.iload_n 2, 1) := by decide +kernel
theorem dX12_hittingNumber_68 : decode cX12_hittingNumber 68 = .ok (.invokestatic 109, 3) := by decide +kernel
theorem dX12_hittingNumber_71 : decode cX12_hittingNumber 71 = .ok (.iload_n 1, 1) := by decide +kernel
theorem dX12_hittingNumber_72 : decode cX12_hittingNumber 72 = .ok (.if_icmp .ge 10, 3) := by decide +kernel
theorem dX12_hittingNumber_75 : decode cX12_hittingNumber 75 = .ok (.iload_n 2, 1) := by decide +kernel
theorem dX12_hittingNumber_76 : decode cX12_hittingNumber 76 = .ok (.invokestatic 109, 3) := by decide +kernel
theorem dX12_hittingNumber_79 : decode cX12_hittingNumber 79 = .ok (.goto 4, 3) := by decide +kernel
theorem dX12_hittingNumber_82 : decode cX12_hittingNumber 82 = .ok (.iload_n 1, 1) := by decide +kernel
theorem dX12_hittingNumber_83 : decode cX12_hittingNumber 83 = .ok (.istore_n 1, 1) := by decide +kernel
theorem dX12_hittingNumber_84 : decode cX12_hittingNumber 84 = .ok (.iinc 2 1, 3) := by decide +kernel
theorem dX12_hittingNumber_87 : decode cX12_hittingNumber 87 = .ok (.goto (-82), 3) := by decide +kernel
theorem dX12_hittingNumber_90 : decode cX12_hittingNumber 90 = .ok (.iload_n 1, 1) := by decide +kernel
theorem dX12_hittingNumber_91 : decode cX12_hittingNumber 91 = .ok (.ireturn, 1) := by decide +kernel
theorem dX12_feed_0 : decode cX12_feed 0 = .ok (.iload_n 1, 1) := by decide +kernel
theorem dX12_feed_1 : decode cX12_feed 1 = .ok (.i2l, 1) := by decide +kernel
theorem dX12_feed_2 : decode cX12_feed 2 = .ok (.lconst 0, 1) := by decide +kernel
theorem dX12_feed_3 : decode cX12_feed 3 = .ok (.ldc2_w 277, 3) := by decide +kernel
theorem dX12_feed_6 : decode cX12_feed 6 = .ok (.invokestatic 79, 3) := by decide +kernel
theorem dX12_feed_9 : decode cX12_feed 9 = .ok (.ifCond .ne 5, 3) := by decide +kernel
theorem dX12_feed_12 : decode cX12_feed 12 = .ok (.iconst (-1), 1) := by decide +kernel
theorem dX12_feed_13 : decode cX12_feed 13 = .ok (.ireturn, 1) := by decide +kernel
theorem dX12_feed_14 : decode cX12_feed 14 = .ok (.aload_n 0, 1) := by decide +kernel
theorem dX12_feed_15 : decode cX12_feed 15 = .ok (.getfield 279, 3) := by decide +kernel
theorem dX12_feed_18 : decode cX12_feed 18 = .ok (.bipush 60, 2) := by decide +kernel
theorem dX12_feed_20 : decode cX12_feed 20 = .ok (.if_icmp .ne 6, 3) := by decide +kernel
theorem dX12_feed_23 : decode cX12_feed 23 = .ok (.bipush (-3), 2) := by decide +kernel
theorem dX12_feed_25 : decode cX12_feed 25 = .ok (.ireturn, 1) := by decide +kernel
theorem dX12_feed_26 : decode cX12_feed 26 = .ok (.aload_n 0, 1) := by decide +kernel
theorem dX12_feed_27 : decode cX12_feed 27 = .ok (.getfield 56, 3) := by decide +kernel
theorem dX12_feed_30 : decode cX12_feed 30 = .ok (.aload_n 0, 1) := by decide +kernel
theorem dX12_feed_31 : decode cX12_feed 31 = .ok (.getfield 279, 3) := by decide +kernel
theorem dX12_feed_34 : decode cX12_feed 34 = .ok (.iload_n 1, 1) := by decide +kernel
theorem dX12_feed_35 : decode cX12_feed 35 = .ok (.iastore, 1) := by decide +kernel
theorem dX12_feed_36 : decode cX12_feed 36 = .ok (.aload_n 0, 1) := by decide +kernel
theorem dX12_feed_37 : decode cX12_feed 37 = .ok (.dup, 1) := by decide +kernel
theorem dX12_feed_38 : decode cX12_feed 38 = .ok (.getfield 279, 3) := by decide +kernel
theorem dX12_feed_41 : decode cX12_feed 41 = .ok (.iconst 1, 1) := by decide +kernel
theorem dX12_feed_42 : decode cX12_feed 42 = .ok (.iadd, 1) := by decide +kernel
theorem dX12_feed_43 : decode cX12_feed 43 = .ok (.putfield 279, 3) := by decide +kernel
theorem dX12_feed_46 : decode cX12_feed 46 = .ok (.aload_n 0, 1) := by decide +kernel
theorem dX12_feed_47 : decode cX12_feed 47 = .ok (.getfield 279, 3) := by decide +kernel
theorem dX12_feed_50 : decode cX12_feed 50 = .ok (.ireturn, 1) := by decide +kernel
theorem dX12_discardInput_0 : decode cX12_discardInput 0 = .ok (.aload_n 0, 1) := by decide +kernel
theorem dX12_discardInput_1 : decode cX12_discardInput 1 = .ok (.getfield 279, 3) := by decide +kernel
theorem dX12_discardInput_4 : decode cX12_discardInput 4 = .ok (.istore_n 1, 1) := by decide +kernel
theorem dX12_discardInput_5 : decode cX12_discardInput 5 = .ok (.aload_n 0, 1) := by decide +kernel
theorem dX12_discardInput_6 : decode cX12_discardInput 6 = .ok (.iconst 0, 1) := by decide +kernel
theorem dX12_discardInput_7 : decode cX12_discardInput 7 = .ok (.putfield 279, 3) := by decide +kernel
theorem dX12_discardInput_10 : decode cX12_discardInput 10 = .ok (.iload_n 1, 1) := by decide +kernel
theorem dX12_discardInput_11 : decode cX12_discardInput 11 = .ok (.ireturn, 1) := by decide +kernel
theorem dX12_current_0 : decode cX12_current 0 = .ok (.aload_n 0, 1) := by decide +kernel
theorem dX12_current_1 : decode cX12_current 1 = .ok (.getfield 282, 3) := by decide +kernel
theorem dX12_current_4 : decode cX12_current 4 = .ok (.aload_n 0, 1) := by decide +kernel
theorem dX12_current_5 : decode cX12_current 5 = .ok (.getfield 279, 3) := by decide +kernel
theorem dX12_current_8 : decode cX12_current 8 = .ok (.if_icmp .ge 15, 3) := by decide +kernel
theorem dX12_current_11 : decode cX12_current 11 = .ok (.aload_n 0, 1) := by decide +kernel
theorem dX12_current_12 : decode cX12_current 12 = .ok (.getfield 56, 3) := by decide +kernel
theorem dX12_current_15 : decode cX12_current 15 = .ok (.aload_n 0, 1) := by decide +kernel
theorem dX12_current_16 : decode cX12_current 16 = .ok (.getfield 282, 3) := by decide +kernel
theorem dX12_current_19 : decode cX12_current 19 = .ok (.iaload, 1) := by decide +kernel
theorem dX12_current_20 : decode cX12_current 20 = .ok (.goto 4, 3) := by decide +kernel
theorem dX12_current_23 : decode cX12_current 23 = .ok (.iconst (-1), 1) := by decide +kernel
theorem dX12_current_24 : decode cX12_current 24 = .ok (.ireturn, 1) := by decide +kernel
theorem dX12_readMonomial_0 : decode cX12_readMonomial 0 = .ok (.aload_n 0, 1) := by decide +kernel
theorem dX12_readMonomial_1 : decode cX12_readMonomial 1 = .ok (.invokevirtual 285, 3) := by decide +kernel
theorem dX12_readMonomial_4 : decode cX12_readMonomial 4 = .ok (.bipush 49, 2) := by decide +kernel
theorem dX12_readMonomial_6 : decode cX12_readMonomial 6 = .ok (.if_icmp .ne 15, 3) := by decide +kernel
theorem dX12_readMonomial_9 : decode cX12_readMonomial 9 = .ok (.aload_n 0, 1) := by decide +kernel
theorem dX12_readMonomial_10 : decode cX12_readMonomial 10 = .ok (.dup, 1) := by decide +kernel
theorem dX12_readMonomial_11 : decode cX12_readMonomial 11 = .ok (.getfield 282, 3) := by decide +kernel
theorem dX12_readMonomial_14 : decode cX12_readMonomial 14 = .ok (.iconst 1, 1) := by decide +kernel
theorem dX12_readMonomial_15 : decode cX12_readMonomial 15 = .ok (.iadd, 1) := by decide +kernel
theorem dX12_readMonomial_16 : decode cX12_readMonomial 16 = .ok (.putfield 282, 3) := by decide +kernel
theorem dX12_readMonomial_19 : decode cX12_readMonomial 19 = .ok (.iconst 0, 1) := by decide +kernel
theorem dX12_readMonomial_20 : decode cX12_readMonomial 20 = .ok (.ireturn, 1) := by decide +kernel
theorem dX12_readMonomial_21 : decode cX12_readMonomial 21 = .ok (.iconst 0, 1) := by decide +kernel
theorem dX12_readMonomial_22 : decode cX12_readMonomial 22 = .ok (.istore_n 1, 1) := by decide +kernel
theorem dX12_readMonomial_23 : decode cX12_readMonomial 23 = .ok (.bipush 97, 2) := by decide +kernel
theorem dX12_readMonomial_25 : decode cX12_readMonomial 25 = .ok (.istore_n 2, 1) := by decide +kernel
theorem dX12_readMonomial_26 : decode cX12_readMonomial 26 = .ok (.aload_n 0, 1) := by decide +kernel
theorem dX12_readMonomial_27 : decode cX12_readMonomial 27 = .ok (.invokevirtual 285, 3) := by decide +kernel
theorem dX12_readMonomial_30 : decode cX12_readMonomial 30 = .ok (.i2l, 1) := by decide +kernel
theorem dX12_readMonomial_31 : decode cX12_readMonomial 31 = .ok (.iload_n 2, 1) := by decide +kernel
theorem dX12_readMonomial_32 : decode cX12_readMonomial 32 = .ok (.i2l, 1) := by decide +kernel
theorem dX12_readMonomial_33 : decode cX12_readMonomial 33 = .ok (.ldc2_w 288, 3) := by decide +kernel
theorem dX12_readMonomial_36 : decode cX12_readMonomial 36 = .ok (.invokestatic 79, 3) := by decide +kernel
theorem dX12_readMonomial_39 : decode cX12_readMonomial 39 = .ok (.ifCond .eq 80, 3) := by decide +kernel
theorem dX12_readMonomial_42 : decode cX12_readMonomial 42 = .ok (.aload_n 0, 1) := by decide +kernel
theorem dX12_readMonomial_43 : decode cX12_readMonomial 43 = .ok (.invokevirtual 285, 3) := by decide +kernel
theorem dX12_readMonomial_46 : decode cX12_readMonomial 46 = .ok (.bipush 97, 2) := by decide +kernel
theorem dX12_readMonomial_48 : decode cX12_readMonomial 48 = .ok (.isub, 1) := by decide +kernel
theorem dX12_readMonomial_49 : decode cX12_readMonomial 49 = .ok (.istore_n 3, 1) := by decide +kernel
theorem dX12_readMonomial_50 : decode cX12_readMonomial 50 = .ok (.aload_n 0, 1) := by decide +kernel
theorem dX12_readMonomial_51 : decode cX12_readMonomial 51 = .ok (.invokevirtual 285, 3) := by decide +kernel
theorem dX12_readMonomial_54 : decode cX12_readMonomial 54 = .ok (.iconst 1, 1) := by decide +kernel
theorem dX12_readMonomial_55 : decode cX12_readMonomial 55 = .ok (.iadd, 1) := by decide +kernel
theorem dX12_readMonomial_56 : decode cX12_readMonomial 56 = .ok (.istore_n 2, 1) := by decide +kernel
theorem dX12_readMonomial_57 : decode cX12_readMonomial 57 = .ok (.aload_n 0, 1) := by decide +kernel
theorem dX12_readMonomial_58 : decode cX12_readMonomial 58 = .ok (.dup, 1) := by decide +kernel
theorem dX12_readMonomial_59 : decode cX12_readMonomial 59 = .ok (.getfield 282, 3) := by decide +kernel
theorem dX12_readMonomial_62 : decode cX12_readMonomial 62 = .ok (.iconst 1, 1) := by decide +kernel
theorem dX12_readMonomial_63 : decode cX12_readMonomial 63 = .ok (.iadd, 1) := by decide +kernel
theorem dX12_readMonomial_64 : decode cX12_readMonomial 64 = .ok (.putfield 282, 3) := by decide +kernel
theorem dX12_readMonomial_67 : decode cX12_readMonomial 67 = .ok (.iconst 1, 1) := by decide +kernel
theorem dX12_readMonomial_68 : decode cX12_readMonomial 68 = .ok (.istore 4, 2) := by decide +kernel
theorem dX12_readMonomial_70 : decode cX12_readMonomial 70 = .ok (.aload_n 0, 1) := by decide +kernel
theorem dX12_readMonomial_71 : decode cX12_readMonomial 71 = .ok (.invokevirtual 285, 3) := by decide +kernel
theorem dX12_readMonomial_74 : decode cX12_readMonomial 74 = .ok (.bipush 50, 2) := by decide +kernel
theorem dX12_readMonomial_76 : decode cX12_readMonomial 76 = .ok (.if_icmp .eq 12, 3) := by decide +kernel
theorem dX12_readMonomial_79 : decode cX12_readMonomial 79 = .ok (.aload_n 0, 1) := by decide +kernel
theorem dX12_readMonomial_80 : decode cX12_readMonomial 80 = .ok (.invokevirtual 285, 3) := by decide +kernel
theorem dX12_readMonomial_83 : decode cX12_readMonomial 83 = .ok (.bipush 51, 2) := by decide +kernel
theorem dX12_readMonomial_85 : decode cX12_readMonomial 85 = .ok (.if_icmp .ne 22, 3) := by decide +kernel
theorem dX12_readMonomial_88 : decode cX12_readMonomial 88 = .ok (.aload_n 0, 1) := by decide +kernel
theorem dX12_readMonomial_89 : decode cX12_readMonomial 89 = .ok (.invokevirtual 285, 3) := by decide +kernel
theorem dX12_readMonomial_92 : decode cX12_readMonomial 92 = .ok (.bipush 48, 2) := by decide +kernel
theorem dX12_readMonomial_94 : decode cX12_readMonomial 94 = .ok (.isub, 1) := by decide +kernel
theorem dX12_readMonomial_95 : decode cX12_readMonomial 95 = .ok (.istore 4, 2) := by decide +kernel
theorem dX12_readMonomial_97 : decode cX12_readMonomial 97 = .ok (.aload_n 0, 1) := by decide +kernel
theorem dX12_readMonomial_98 : decode cX12_readMonomial 98 = .ok (.dup, 1) := by decide +kernel
theorem dX12_readMonomial_99 : decode cX12_readMonomial 99 = .ok (.getfield 282, 3) := by decide +kernel
theorem dX12_readMonomial_102 : decode cX12_readMonomial 102 = .ok (.iconst 1, 1) := by decide +kernel
theorem dX12_readMonomial_103 : decode cX12_readMonomial 103 = .ok (.iadd, 1) := by decide +kernel
theorem dX12_readMonomial_104 : decode cX12_readMonomial 104 = .ok (.putfield 282, 3) := by decide +kernel
theorem dX12_readMonomial_107 : decode cX12_readMonomial 107 = .ok (.iload_n 1, 1) := by decide +kernel
theorem dX12_readMonomial_108 : decode cX12_readMonomial 108 = .ok (.iload 4, 2) := by decide +kernel
theorem dX12_readMonomial_110 : decode cX12_readMonomial 110 = .ok (.iconst 2, 1) := by decide +kernel
theorem dX12_readMonomial_111 : decode cX12_readMonomial 111 = .ok (.iload_n 3, 1) := by decide +kernel
theorem dX12_readMonomial_112 : decode cX12_readMonomial 112 = .ok (.imul, 1) := by decide +kernel
theorem dX12_readMonomial_113 : decode cX12_readMonomial 113 = .ok (.ishl, 1) := by decide +kernel
theorem dX12_readMonomial_114 : decode cX12_readMonomial 114 = .ok (.ior, 1) := by decide +kernel
theorem dX12_readMonomial_115 : decode cX12_readMonomial 115 = .ok (.istore_n 1, 1) := by decide +kernel
theorem dX12_readMonomial_116 : decode cX12_readMonomial 116 = .ok (.goto (-90), 3) := by decide +kernel
theorem dX12_readMonomial_119 : decode cX12_readMonomial 119 = .ok (.iload_n 2, 1) := by decide +kernel
theorem dX12_readMonomial_120 : decode cX12_readMonomial 120 = .ok (.bipush 97, 2) := by decide +kernel
theorem dX12_readMonomial_122 : decode cX12_readMonomial 122 = .ok (.if_icmp .ne 8, 3) := by decide +kernel
theorem dX12_readMonomial_125 : decode cX12_readMonomial 125 = .ok (.bipush (-2), 2) := by decide +kernel
theorem dX12_readMonomial_127 : decode cX12_readMonomial 127 = .ok (.goto 4, 3) := by decide +kernel
theorem dX12_readMonomial_130 : decode cX12_readMonomial 130 = .ok (.iload_n 1, 1) := by decide +kernel
theorem dX12_readMonomial_131 : decode cX12_readMonomial 131 = .ok (.ireturn, 1) := by decide +kernel
theorem dX12_parse_0 : decode cX12_parse 0 = .ok (.aload_n 0, 1) := by decide +kernel
theorem dX12_parse_1 : decode cX12_parse 1 = .ok (.iconst 0, 1) := by decide +kernel
theorem dX12_parse_2 : decode cX12_parse 2 = .ok (.putfield 282, 3) := by decide +kernel
theorem dX12_parse_5 : decode cX12_parse 5 = .ok (.iconst 0, 1) := by decide +kernel
theorem dX12_parse_6 : decode cX12_parse 6 = .ok (.istore_n 1, 1) := by decide +kernel
theorem dX12_parse_7 : decode cX12_parse 7 = .ok (.iconst 1, 1) := by decide +kernel
theorem dX12_parse_8 : decode cX12_parse 8 = .ok (.istore_n 2, 1) := by decide +kernel
theorem dX12_parse_9 : decode cX12_parse 9 = .ok (.iload_n 2, 1) := by decide +kernel
theorem dX12_parse_10 : decode cX12_parse 10 = .ok (.ifCond .eq 104, 3) := by decide +kernel
theorem dX12_parse_13 : decode cX12_parse 13 = .ok (.iload_n 1, 1) := by decide +kernel
theorem dX12_parse_14 : decode cX12_parse 14 = .ok (.ifCond .eq 14, 3) := by decide +kernel
theorem dX12_parse_17 : decode cX12_parse 17 = .ok (.aload_n 0, 1) := by decide +kernel
theorem dX12_parse_18 : decode cX12_parse 18 = .ok (.getfield 282, 3) := by decide +kernel
theorem dX12_parse_21 : decode cX12_parse 21 = .ok (.aload_n 0, 1) := by decide +kernel
theorem dX12_parse_22 : decode cX12_parse 22 = .ok (.getfield 279, 3) := by decide +kernel
theorem dX12_parse_25 : decode cX12_parse 25 = .ok (.if_icmp .ge 89, 3) := by decide +kernel
theorem dX12_parse_28 : decode cX12_parse 28 = .ok (.iload_n 1, 1) := by decide +kernel
theorem dX12_parse_29 : decode cX12_parse 29 = .ok (.ifCond .le 42, 3) := by decide +kernel
theorem dX12_parse_32 : decode cX12_parse 32 = .ok (.iload_n 1, 1) := by decide +kernel
theorem dX12_parse_33 : decode cX12_parse 33 = .ok (.bipush 24, 2) := by decide +kernel
theorem dX12_parse_35 : decode cX12_parse 35 = .ok (.if_icmp .ge 16, 3) := by decide +kernel
theorem dX12_parse_38 : decode cX12_parse 38 = .ok (.aload_n 0, 1) := by decide +kernel
theorem dX12_parse_39 : decode cX12_parse 39 = .ok (.invokevirtual 285, 3) := by decide +kernel
theorem dX12_parse_42 : decode cX12_parse 42 = .ok (.bipush 44, 2) := by decide +kernel
theorem dX12_parse_44 : decode cX12_parse 44 = .ok (.if_icmp .ne 7, 3) := by decide +kernel
theorem dX12_parse_47 : decode cX12_parse 47 = .ok (.iconst 1, 1) := by decide +kernel
theorem dX12_parse_48 : decode cX12_parse 48 = .ok (.goto 4, 3) := by decide +kernel
theorem dX12_parse_51 : decode cX12_parse 51 = .ok (.iconst 0, 1) := by decide +kernel
theorem dX12_parse_52 : decode cX12_parse 52 = .ok (.istore_n 2, 1) := by decide +kernel
theorem dX12_parse_53 : decode cX12_parse 53 = .ok (.aload_n 0, 1) := by decide +kernel
theorem dX12_parse_54 : decode cX12_parse 54 = .ok (.dup, 1) := by decide +kernel
theorem dX12_parse_55 : decode cX12_parse 55 = .ok (.getfield 282, 3) := by decide +kernel
theorem dX12_parse_58 : decode cX12_parse 58 = .ok (.iload_n 2, 1) := by decide +kernel
theorem dX12_parse_59 : decode cX12_parse 59 = .ok (.ifCond .eq 7, 3) := by decide +kernel
theorem dX12_parse_62 : decode cX12_parse 62 = .ok (.iconst 1, 1) := by decide +kernel
theorem dX12_parse_63 : decode cX12_parse 63 = .ok (.goto 4, 3) := by decide +kernel
theorem dX12_parse_66 : decode cX12_parse 66 = .ok (.iconst 0, 1) := by decide +kernel
theorem dX12_parse_67 : decode cX12_parse 67 = .ok (.iadd, 1) := by decide +kernel
theorem dX12_parse_68 : decode cX12_parse 68 = .ok (.putfield 282, 3) := by decide +kernel
theorem dX12_parse_71 : decode cX12_parse 71 = .ok (.iload_n 2, 1) := by decide +kernel
theorem dX12_parse_72 : decode cX12_parse 72 = .ok (.ifCond .eq 10, 3) := by decide +kernel
theorem dX12_parse_75 : decode cX12_parse 75 = .ok (.aload_n 0, 1) := by decide +kernel
theorem dX12_parse_76 : decode cX12_parse 76 = .ok (.invokevirtual 290, 3) := by decide +kernel
theorem dX12_parse_79 : decode cX12_parse 79 = .ok (.goto 5, 3) := by decide +kernel
theorem dX12_parse_82 : decode cX12_parse 82 = .ok (.bipush (-2), 2) := by decide +kernel
theorem dX12_parse_84 : decode cX12_parse 84 = .ok (.istore_n 3, 1) := by decide +kernel
theorem dX12_parse_85 : decode cX12_parse 85 = .ok (.iload_n 3, 1) := by decide +kernel
theorem dX12_parse_86 : decode cX12_parse 86 = .ok (.bipush (-2), 2) := by decide +kernel
theorem dX12_parse_88 : decode cX12_parse 88 = .ok (.if_icmp .eq 7, 3) := by decide +kernel
theorem dX12_parse_91 : decode cX12_parse 91 = .ok (.iconst 1, 1) := by decide +kernel
theorem dX12_parse_92 : decode cX12_parse 92 = .ok (.goto 4, 3) := by decide +kernel
theorem dX12_parse_95 : decode cX12_parse 95 = .ok (.iconst 0, 1) := by decide +kernel
theorem dX12_parse_96 : decode cX12_parse 96 = .ok (.istore_n 2, 1) := by decide +kernel
theorem dX12_parse_97 : decode cX12_parse 97 = .ok (.iload_n 2, 1) := by decide +kernel
theorem dX12_parse_98 : decode cX12_parse 98 = .ok (.ifCond .eq 13, 3) := by decide +kernel
theorem dX12_parse_101 : decode cX12_parse 101 = .ok (.aload_n 0, 1) := by decide +kernel
theorem dX12_parse_102 : decode cX12_parse 102 = .ok (.getfield 59, 3) := by decide +kernel
theorem dX12_parse_105 : decode cX12_parse 105 = .ok (.iload_n 1, 1) := by decide +kernel
theorem dX12_parse_106 : decode cX12_parse 106 = .ok (.iload_n 3, 1) := by decide +kernel
theorem dX12_parse_107 : decode cX12_parse 107 = .ok (.iastore, 1) := by decide +kernel
theorem dX12_parse_108 : decode cX12_parse 108 = .ok (.iinc 1 1, 3) := by decide +kernel
theorem dX12_parse_111 : decode cX12_parse 111 = .ok (.goto (-102), 3) := by decide +kernel
theorem dX12_parse_114 : decode cX12_parse 114 = .ok (.aload_n 0, 1) := by decide +kernel
theorem dX12_parse_115 : decode cX12_parse 115 = .ok (.iconst 0, 1) := by decide +kernel
theorem dX12_parse_116 : decode cX12_parse 116 = .ok (.putfield 279, 3) := by decide +kernel
theorem dX12_parse_119 : decode cX12_parse 119 = .ok (.iload_n 2, 1) := by decide +kernel
theorem dX12_parse_120 : decode cX12_parse 120 = .ok (.ifCond .ne 12, 3) := by decide +kernel
theorem dX12_parse_123 : decode cX12_parse 123 = .ok (.sipush (-1000), 3) := by decide +kernel
theorem dX12_parse_126 : decode cX12_parse 126 = .ok (.aload_n 0, 1) := by decide +kernel
theorem dX12_parse_127 : decode cX12_parse 127 = .ok (.getfield 282, 3) := by decide +kernel
theorem dX12_parse_130 : decode cX12_parse 130 = .ok (.isub, 1) := by decide +kernel
theorem dX12_parse_131 : decode cX12_parse 131 = .ok (.ireturn, 1) := by decide +kernel
theorem dX12_parse_132 : decode cX12_parse 132 = .ok (.aload_n 0, 1) := by decide +kernel
theorem dX12_parse_133 : decode cX12_parse 133 = .ok (.iload_n 1, 1) := by decide +kernel
theorem dX12_parse_134 : decode cX12_parse 134 = .ok (.putfield 251, 3) := by decide +kernel
theorem dX12_parse_137 : decode cX12_parse 137 = .ok (.iconst 0, 1) := by decide +kernel
theorem dX12_parse_138 : decode cX12_parse 138 = .ok (.istore_n 3, 1) := by decide +kernel
theorem dX12_parse_139 : decode cX12_parse 139 = .ok (.iload_n 3, 1) := by decide +kernel
theorem dX12_parse_140 : decode cX12_parse 140 = .ok (.aload_n 0, 1) := by decide +kernel
theorem dX12_parse_141 : decode cX12_parse 141 = .ok (.getfield 251, 3) := by decide +kernel
theorem dX12_parse_144 : decode cX12_parse 144 = .ok (.if_icmp .ge 21, 3) := by decide +kernel
theorem dX12_parse_147 : decode cX12_parse 147 = .ok (.aload_n 0, 1) := by decide +kernel
theorem dX12_parse_148 : decode cX12_parse 148 = .ok (.getfield 50, 3) := by decide +kernel
theorem dX12_parse_151 : decode cX12_parse 151 = .ok (.iload_n 3, 1) := by decide +kernel
theorem dX12_parse_152 : decode cX12_parse 152 = .ok (.aload_n 0, 1) := by decide +kernel
theorem dX12_parse_153 : decode cX12_parse 153 = .ok (.getfield 59, 3) := by decide +kernel
theorem dX12_parse_156 : decode cX12_parse 156 = .ok (.iload_n 3, 1) := by decide +kernel
theorem dX12_parse_157 : decode cX12_parse 157 = .ok (.iaload, 1) := by decide +kernel
theorem dX12_parse_158 : decode cX12_parse 158 = .ok (.iastore, 1) := by decide +kernel
theorem dX12_parse_159 : decode cX12_parse 159 = .ok (.iinc 3 1, 3) := by decide +kernel
theorem dX12_parse_162 : decode cX12_parse 162 = .ok (.goto (-23), 3) := by decide +kernel
theorem dX12_parse_165 : decode cX12_parse 165 = .ok (.aload_n 0, 1) := by decide +kernel
theorem dX12_parse_166 : decode cX12_parse 166 = .ok (.getfield 251, 3) := by decide +kernel
theorem dX12_parse_169 : decode cX12_parse 169 = .ok (.ireturn, 1) := by decide +kernel
theorem dX12_write_0 : decode cX12_write 0 = .ok (.aload_n 0, 1) := by decide +kernel
theorem dX12_write_1 : decode cX12_write 1 = .ok (.getfield 62, 3) := by decide +kernel
theorem dX12_write_4 : decode cX12_write 4 = .ok (.aload_n 0, 1) := by decide +kernel
theorem dX12_write_5 : decode cX12_write 5 = .ok (.getfield 293, 3) := by decide +kernel
theorem dX12_write_8 : decode cX12_write 8 = .ok (.iload_n 1, 1) := by decide +kernel
theorem dX12_write_9 : decode cX12_write 9 = .ok (.iastore, 1) := by decide +kernel
theorem dX12_write_10 : decode cX12_write 10 = .ok (.aload_n 0, 1) := by decide +kernel
theorem dX12_write_11 : decode cX12_write 11 = .ok (.dup, 1) := by decide +kernel
theorem dX12_write_12 : decode cX12_write 12 = .ok (.getfield 293, 3) := by decide +kernel
theorem dX12_write_15 : decode cX12_write 15 = .ok (.iconst 1, 1) := by decide +kernel
theorem dX12_write_16 : decode cX12_write 16 = .ok (.iadd, 1) := by decide +kernel
theorem dX12_write_17 : decode cX12_write 17 = .ok (.putfield 293, 3) := by decide +kernel
theorem dX12_write_20 : decode cX12_write 20 = .ok (.return_, 1) := by decide +kernel
theorem dX12_format_0 : decode cX12_format 0 = .ok (.aload_n 0, 1) := by decide +kernel
theorem dX12_format_1 : decode cX12_format 1 = .ok (.iconst 0, 1) := by decide +kernel
theorem dX12_format_2 : decode cX12_format 2 = .ok (.putfield 293, 3) := by decide +kernel
theorem dX12_format_5 : decode cX12_format 5 = .ok (.iconst 0, 1) := by decide +kernel
theorem dX12_format_6 : decode cX12_format 6 = .ok (.istore_n 1, 1) := by decide +kernel
theorem dX12_format_7 : decode cX12_format 7 = .ok (.iload_n 1, 1) := by decide +kernel
theorem dX12_format_8 : decode cX12_format 8 = .ok (.aload_n 0, 1) := by decide +kernel
theorem dX12_format_9 : decode cX12_format 9 = .ok (.getfield 251, 3) := by decide +kernel
theorem dX12_format_12 : decode cX12_format 12 = .ok (.if_icmp .ge 84, 3) := by decide +kernel
theorem dX12_format_15 : decode cX12_format 15 = .ok (.iload_n 1, 1) := by decide +kernel
theorem dX12_format_16 : decode cX12_format 16 = .ok (.ifCond .le 9, 3) := by decide +kernel
theorem dX12_format_19 : decode cX12_format 19 = .ok (.aload_n 0, 1) := by decide +kernel
theorem dX12_format_20 : decode cX12_format 20 = .ok (.bipush 44, 2) := by decide +kernel
theorem dX12_format_22 : decode cX12_format 22 = .ok (.invokevirtual 296, 3) := by decide +kernel
theorem dX12_format_25 : decode cX12_format 25 = .ok (.aload_n 0, 1) := by decide +kernel
theorem dX12_format_26 : decode cX12_format 26 = .ok (.getfield 50, 3) := by decide +kernel
theorem dX12_format_29 : decode cX12_format 29 = .ok (.iload_n 1, 1) := by decide +kernel
theorem dX12_format_30 : decode cX12_format 30 = .ok (.iaload, 1) := by decide +kernel
theorem dX12_format_31 : decode cX12_format 31 = .ok (.ifCond .ne 9, 3) := by decide +kernel
theorem dX12_format_34 : decode cX12_format 34 = .ok (.aload_n 0, 1) := by decide +kernel
theorem dX12_format_35 : decode cX12_format 35 = .ok (.bipush 49, 2) := by decide +kernel
theorem dX12_format_37 : decode cX12_format 37 = .ok (.invokevirtual 296, 3) := by decide +kernel
theorem dX12_format_40 : decode cX12_format 40 = .ok (.iconst 0, 1) := by decide +kernel
theorem dX12_format_41 : decode cX12_format 41 = .ok (.istore_n 2, 1) := by decide +kernel
theorem dX12_format_42 : decode cX12_format 42 = .ok (.iload_n 2, 1) := by decide +kernel
theorem dX12_format_43 : decode cX12_format 43 = .ok (.bipush 7, 2) := by decide +kernel
theorem dX12_format_45 : decode cX12_format 45 = .ok (.if_icmp .ge 45, 3) := by decide +kernel
theorem dX12_format_48 : decode cX12_format 48 = .ok (.aload_n 0, 1) := by decide +kernel
theorem dX12_format_49 : decode cX12_format 49 = .ok (.getfield 50, 3) := by decide +kernel
theorem dX12_format_52 : decode cX12_format 52 = .ok (.iload_n 1, 1) := by decide +kernel
theorem dX12_format_53 : decode cX12_format 53 = .ok (.iaload, 1) := by decide +kernel
theorem dX12_format_54 : decode cX12_format 54 = .ok (.iload_n 2, 1) := by decide +kernel
theorem dX12_format_55 : decode cX12_format 55 = .ok (.invokestatic 128, 3) := by decide +kernel
theorem dX12_format_58 : decode cX12_format 58 = .ok (.istore_n 3, 1) := by decide +kernel
theorem dX12_format_59 : decode cX12_format 59 = .ok (.iload_n 3, 1) := by decide +kernel
theorem dX12_format_60 : decode cX12_format 60 = .ok (.ifCond .le 11, 3) := by decide +kernel
theorem dX12_format_63 : decode cX12_format 63 = .ok (.aload_n 0, 1) := by decide +kernel
theorem dX12_format_64 : decode cX12_format 64 = .ok (.bipush 97, 2) := by decide +kernel
theorem dX12_format_66 : decode cX12_format 66 = .ok (.iload_n 2, 1) := by decide +kernel
theorem dX12_format_67 : decode cX12_format 67 = .ok (.iadd, 1) := by decide +kernel
theorem dX12_format_68 : decode cX12_format 68 = .ok (.invokevirtual 296, 3) := by decide +kernel
theorem dX12_format_71 : decode cX12_format 71 = .ok (.iload_n 3, 1) := by decide +kernel
theorem dX12_format_72 : decode cX12_format 72 = .ok (.iconst 1, 1) := by decide +kernel
theorem dX12_format_73 : decode cX12_format 73 = .ok (.if_icmp .le 11, 3) := by decide +kernel
theorem dX12_format_76 : decode cX12_format 76 = .ok (.aload_n 0, 1) := by decide +kernel
theorem dX12_format_77 : decode cX12_format 77 = .ok (.bipush 48, 2) := by decide +kernel
theorem dX12_format_79 : decode cX12_format 79 = .ok (.iload_n 3, 1) := by decide +kernel
theorem dX12_format_80 : decode cX12_format 80 = .ok (.iadd, 1) := by decide +kernel
theorem dX12_format_81 : decode cX12_format 81 = .ok (.invokevirtual 296, 3) := by decide +kernel
theorem dX12_format_84 : decode cX12_format 84 = .ok (.iinc 2 1, 3) := by decide +kernel
theorem dX12_format_87 : decode cX12_format 87 = .ok (.goto (-45), 3) := by decide +kernel
theorem dX12_format_90 : decode cX12_format 90 = .ok (.iinc 1 1, 3) := by decide +kernel
theorem dX12_format_93 : decode cX12_format 93 = .ok (.goto (-86), 3) := by decide +kernel
theorem dX12_format_96 : decode cX12_format 96 = .ok (.return_, 1) := by decide +kernel
theorem dX12_formattedLength_0 : decode cX12_formattedLength 0 = .ok (.aload_n 0, 1) := by decide +kernel
theorem dX12_formattedLength_1 : decode cX12_formattedLength 1 = .ok (.invokevirtual 299, 3) := by decide +kernel
theorem dX12_formattedLength_4 : decode cX12_formattedLength 4 = .ok (.aload_n 0, 1) := by decide +kernel
theorem dX12_formattedLength_5 : decode cX12_formattedLength 5 = .ok (.getfield 293, 3) := by decide +kernel
theorem dX12_formattedLength_8 : decode cX12_formattedLength 8 = .ok (.ireturn, 1) := by decide +kernel
theorem dX12_formattedByte_0 : decode cX12_formattedByte 0 = .ok (.iload_n 1, 1) := by decide +kernel
theorem dX12_formattedByte_1 : decode cX12_formattedByte 1 = .ok (.ifCond .ge 5, 3) := by decide +kernel
theorem dX12_formattedByte_4 : decode cX12_formattedByte 4 = .ok (.iconst (-1), 1) := by decide +kernel
theorem dX12_formattedByte_5 : decode cX12_formattedByte 5 = .ok (.ireturn, 1) := by decide +kernel
theorem dX12_formattedByte_6 : decode cX12_formattedByte 6 = .ok (.aload_n 0, 1) := by decide +kernel
theorem dX12_formattedByte_7 : decode cX12_formattedByte 7 = .ok (.invokevirtual 299, 3) := by decide +kernel
theorem dX12_formattedByte_10 : decode cX12_formattedByte 10 = .ok (.iload_n 1, 1) := by decide +kernel
theorem dX12_formattedByte_11 : decode cX12_formattedByte 11 = .ok (.aload_n 0, 1) := by decide +kernel
theorem dX12_formattedByte_12 : decode cX12_formattedByte 12 = .ok (.getfield 293, 3) := by decide +kernel
theorem dX12_formattedByte_15 : decode cX12_formattedByte 15 = .ok (.if_icmp .ge 12, 3) := by decide +kernel
theorem dX12_formattedByte_18 : decode cX12_formattedByte 18 = .ok (.aload_n 0, 1) := by decide +kernel
theorem dX12_formattedByte_19 : decode cX12_formattedByte 19 = .ok (.getfield 62, 3) := by decide +kernel
theorem dX12_formattedByte_22 : decode cX12_formattedByte 22 = .ok (.iload_n 1, 1) := by decide +kernel
theorem dX12_formattedByte_23 : decode cX12_formattedByte 23 = .ok (.iaload, 1) := by decide +kernel
theorem dX12_formattedByte_24 : decode cX12_formattedByte 24 = .ok (.goto 5, 3) := by decide +kernel
theorem dX12_formattedByte_27 : decode cX12_formattedByte 27 = .ok (.bipush (-2), 2) := by decide +kernel
theorem dX12_formattedByte_29 : decode cX12_formattedByte 29 = .ok (.ireturn, 1) := by decide +kernel
theorem dX12_isSlot_0 : decode cX12_isSlot 0 = .ok (.iload_n 0, 1) := by decide +kernel
theorem dX12_isSlot_1 : decode cX12_isSlot 1 = .ok (.i2l, 1) := by decide +kernel
theorem dX12_isSlot_2 : decode cX12_isSlot 2 = .ok (.lconst 0, 1) := by decide +kernel
theorem dX12_isSlot_3 : decode cX12_isSlot 3 = .ok (.ldc2_w 183, 3) := by decide +kernel
theorem dX12_isSlot_6 : decode cX12_isSlot 6 = .ok (.invokestatic 79, 3) := by decide +kernel
theorem dX12_isSlot_9 : decode cX12_isSlot 9 = .ok (.ireturn, 1) := by decide +kernel
theorem dX12_saveList_0 : decode cX12_saveList 0 = .ok (.iload_n 1, 1) := by decide +kernel
theorem dX12_saveList_1 : decode cX12_saveList 1 = .ok (.invokestatic 302, 3) := by decide +kernel
theorem dX12_saveList_4 : decode cX12_saveList 4 = .ok (.ifCond .ne 5, 3) := by decide +kernel
theorem dX12_saveList_7 : decode cX12_saveList 7 = .ok (.iconst (-1), 1) := by decide +kernel
theorem dX12_saveList_8 : decode cX12_saveList 8 = .ok (.ireturn, 1) := by decide +kernel
theorem dX12_saveList_9 : decode cX12_saveList 9 = .ok (.aload_n 0, 1) := by decide +kernel
theorem dX12_saveList_10 : decode cX12_saveList 10 = .ok (.getfield 65, 3) := by decide +kernel
theorem dX12_saveList_13 : decode cX12_saveList 13 = .ok (.iload_n 1, 1) := by decide +kernel
theorem dX12_saveList_14 : decode cX12_saveList 14 = .ok (.iconst 1, 1) := by decide +kernel
theorem dX12_saveList_15 : decode cX12_saveList 15 = .ok (.iastore, 1) := by decide +kernel
theorem dX12_saveList_16 : decode cX12_saveList 16 = .ok (.aload_n 0, 1) := by decide +kernel
theorem dX12_saveList_17 : decode cX12_saveList 17 = .ok (.getfield 68, 3) := by decide +kernel
theorem dX12_saveList_20 : decode cX12_saveList 20 = .ok (.iload_n 1, 1) := by decide +kernel
theorem dX12_saveList_21 : decode cX12_saveList 21 = .ok (.aload_n 0, 1) := by decide +kernel
theorem dX12_saveList_22 : decode cX12_saveList 22 = .ok (.getfield 251, 3) := by decide +kernel
theorem dX12_saveList_25 : decode cX12_saveList 25 = .ok (.iastore, 1) := by decide +kernel
theorem dX12_saveList_26 : decode cX12_saveList 26 = .ok (.iconst 0, 1) := by decide +kernel
theorem dX12_saveList_27 : decode cX12_saveList 27 = .ok (.istore_n 2, 1) := by decide +kernel
theorem dX12_saveList_28 : decode cX12_saveList 28 = .ok (.iload_n 2, 1) := by decide +kernel
theorem dX12_saveList_29 : decode cX12_saveList 29 = .ok (.aload_n 0, 1) := by decide +kernel
theorem dX12_saveList_30 : decode cX12_saveList 30 = .ok (.getfield 251, 3) := by decide +kernel
theorem dX12_saveList_33 : decode cX12_saveList 33 = .ok (.if_icmp .ge 23, 3) := by decide +kernel
theorem dX12_saveList_36 : decode cX12_saveList 36 = .ok (.aload_n 0, 1) := by decide +kernel
theorem dX12_saveList_37 : decode cX12_saveList 37 = .ok (.getfield 73, 3) := by decide +kernel
theorem dX12_saveList_40 : decode cX12_saveList 40 = .ok (.iload_n 1, 1) := by decide +kernel
theorem dX12_saveList_41 : decode cX12_saveList 41 = .ok (.aaload, 1) := by decide +kernel
theorem dX12_saveList_42 : decode cX12_saveList 42 = .ok (.iload_n 2, 1) := by decide +kernel
theorem dX12_saveList_43 : decode cX12_saveList 43 = .ok (.aload_n 0, 1) := by decide +kernel
theorem dX12_saveList_44 : decode cX12_saveList 44 = .ok (.getfield 50, 3) := by decide +kernel
theorem dX12_saveList_47 : decode cX12_saveList 47 = .ok (.iload_n 2, 1) := by decide +kernel
theorem dX12_saveList_48 : decode cX12_saveList 48 = .ok (.iaload, 1) := by decide +kernel
theorem dX12_saveList_49 : decode cX12_saveList 49 = .ok (.iastore, 1) := by decide +kernel
theorem dX12_saveList_50 : decode cX12_saveList 50 = .ok (.iinc 2 1, 3) := by decide +kernel
theorem dX12_saveList_53 : decode cX12_saveList 53 = .ok (.goto (-25), 3) := by decide +kernel
theorem dX12_saveList_56 : decode cX12_saveList 56 = .ok (.aload_n 0, 1) := by decide +kernel
theorem dX12_saveList_57 : decode cX12_saveList 57 = .ok (.getfield 251, 3) := by decide +kernel
theorem dX12_saveList_60 : decode cX12_saveList 60 = .ok (.ireturn, 1) := by decide +kernel
theorem dX12_slotError_0 : decode cX12_slotError 0 = .ok (.iload_n 1, 1) := by decide +kernel
theorem dX12_slotError_1 : decode cX12_slotError 1 = .ok (.invokestatic 302, 3) := by decide +kernel
theorem dX12_slotError_4 : decode cX12_slotError 4 = .ok (.ifCond .ne 7, 3) := by decide +kernel
theorem dX12_slotError_7 : decode cX12_slotError 7 = .ok (.iconst (-1), 1) := by decide +kernel
theorem dX12_slotError_8 : decode cX12_slotError 8 = .ok (.goto 33, 3) := by decide +kernel
theorem dX12_slotError_11 : decode cX12_slotError 11 = .ok (.aload_n 0, 1) := by decide +kernel
theorem dX12_slotError_12 : decode cX12_slotError 12 = .ok (.getfield 65, 3) := by decide +kernel
theorem dX12_slotError_15 : decode cX12_slotError 15 = .ok (.iload_n 1, 1) := by decide +kernel
theorem dX12_slotError_16 : decode cX12_slotError 16 = .ok (.iaload, 1) := by decide +kernel
theorem dX12_slotError_17 : decode cX12_slotError 17 = .ok (.ifCond .ne 8, 3) := by decide +kernel
theorem dX12_slotError_20 : decode cX12_slotError 20 = .ok (.bipush (-11), 2) := by decide +kernel
theorem dX12_slotError_22 : decode cX12_slotError 22 = .ok (.goto 19, 3) := by decide +kernel
theorem dX12_slotError_25 : decode cX12_slotError 25 = .ok (.aload_n 0, 1) := by decide +kernel
theorem dX12_slotError_26 : decode cX12_slotError 26 = .ok (.getfield 65, 3) := by decide +kernel
theorem dX12_slotError_29 : decode cX12_slotError 29 = .ok (.iload_n 1, 1) := by decide +kernel
theorem dX12_slotError_30 : decode cX12_slotError 30 = .ok (.iaload, 1) := by decide +kernel
theorem dX12_slotError_31 : decode cX12_slotError 31 = .ok (.iload_n 2, 1) := by decide +kernel
theorem dX12_slotError_32 : decode cX12_slotError 32 = .ok (.if_icmp .eq 8, 3) := by decide +kernel
theorem dX12_slotError_35 : decode cX12_slotError 35 = .ok (.bipush (-12), 2) := by decide +kernel
theorem dX12_slotError_37 : decode cX12_slotError 37 = .ok (.goto 4, 3) := by decide +kernel
theorem dX12_slotError_40 : decode cX12_slotError 40 = .ok (.iconst 0, 1) := by decide +kernel
theorem dX12_slotError_41 : decode cX12_slotError 41 = .ok (.ireturn, 1) := by decide +kernel
theorem dX12_loadList_0 : decode cX12_loadList 0 = .ok (.aload_n 0, 1) := by decide +kernel
theorem dX12_loadList_1 : decode cX12_loadList 1 = .ok (.iload_n 1, 1) := by decide +kernel
theorem dX12_loadList_2 : decode cX12_loadList 2 = .ok (.iconst 1, 1) := by decide +kernel
theorem dX12_loadList_3 : decode cX12_loadList 3 = .ok (.invokevirtual 305, 3) := by decide +kernel
theorem dX12_loadList_6 : decode cX12_loadList 6 = .ok (.istore_n 2, 1) := by decide +kernel
theorem dX12_loadList_7 : decode cX12_loadList 7 = .ok (.iload_n 2, 1) := by decide +kernel
theorem dX12_loadList_8 : decode cX12_loadList 8 = .ok (.ifCond .eq 5, 3) := by decide +kernel
theorem dX12_loadList_11 : decode cX12_loadList 11 = .ok (.iload_n 2, 1) := by decide +kernel
theorem dX12_loadList_12 : decode cX12_loadList 12 = .ok (.ireturn, 1) := by decide +kernel
theorem dX12_loadList_13 : decode cX12_loadList 13 = .ok (.aload_n 0, 1) := by decide +kernel
theorem dX12_loadList_14 : decode cX12_loadList 14 = .ok (.aload_n 0, 1) := by decide +kernel
theorem dX12_loadList_15 : decode cX12_loadList 15 = .ok (.getfield 68, 3) := by decide +kernel
theorem dX12_loadList_18 : decode cX12_loadList 18 = .ok (.iload_n 1, 1) := by decide +kernel
theorem dX12_loadList_19 : decode cX12_loadList 19 = .ok (.iaload, 1) := by decide +kernel
theorem dX12_loadList_20 : decode cX12_loadList 20 = .ok (.putfield 251, 3) := by decide +kernel
theorem dX12_loadList_23 : decode cX12_loadList 23 = .ok (.iconst 0, 1) := by decide +kernel
theorem dX12_loadList_24 : decode cX12_loadList 24 = .ok (.istore_n 3, 1) := by decide +kernel
theorem dX12_loadList_25 : decode cX12_loadList 25 = .ok (.iload_n 3, 1) := by decide +kernel
theorem dX12_loadList_26 : decode cX12_loadList 26 = .ok (.aload_n 0, 1) := by decide +kernel
theorem dX12_loadList_27 : decode cX12_loadList 27 = .ok (.getfield 251, 3) := by decide +kernel
theorem dX12_loadList_30 : decode cX12_loadList 30 = .ok (.if_icmp .ge 23, 3) := by decide +kernel
theorem dX12_loadList_33 : decode cX12_loadList 33 = .ok (.aload_n 0, 1) := by decide +kernel
theorem dX12_loadList_34 : decode cX12_loadList 34 = .ok (.getfield 50, 3) := by decide +kernel
theorem dX12_loadList_37 : decode cX12_loadList 37 = .ok (.iload_n 3, 1) := by decide +kernel
theorem dX12_loadList_38 : decode cX12_loadList 38 = .ok (.aload_n 0, 1) := by decide +kernel
theorem dX12_loadList_39 : decode cX12_loadList 39 = .ok (.getfield 73, 3) := by decide +kernel
theorem dX12_loadList_42 : decode cX12_loadList 42 = .ok (.iload_n 1, 1) := by decide +kernel
theorem dX12_loadList_43 : decode cX12_loadList 43 = .ok (.aaload, 1) := by decide +kernel
theorem dX12_loadList_44 : decode cX12_loadList 44 = .ok (.iload_n 3, 1) := by decide +kernel
theorem dX12_loadList_45 : decode cX12_loadList 45 = .ok (.iaload, 1) := by decide +kernel
theorem dX12_loadList_46 : decode cX12_loadList 46 = .ok (.iastore, 1) := by decide +kernel
theorem dX12_loadList_47 : decode cX12_loadList 47 = .ok (.iinc 3 1, 3) := by decide +kernel
theorem dX12_loadList_50 : decode cX12_loadList 50 = .ok (.goto (-25), 3) := by decide +kernel
theorem dX12_loadList_53 : decode cX12_loadList 53 = .ok (.aload_n 0, 1) := by decide +kernel
theorem dX12_loadList_54 : decode cX12_loadList 54 = .ok (.getfield 251, 3) := by decide +kernel
theorem dX12_loadList_57 : decode cX12_loadList 57 = .ok (.ireturn, 1) := by decide +kernel
theorem dX12_clearSlot_0 : decode cX12_clearSlot 0 = .ok (.iload_n 1, 1) := by decide +kernel
theorem dX12_clearSlot_1 : decode cX12_clearSlot 1 = .ok (.invokestatic 302, 3) := by decide +kernel
theorem dX12_clearSlot_4 : decode cX12_clearSlot 4 = .ok (.ifCond .ne 5, 3) := by decide +kernel
theorem dX12_clearSlot_7 : decode cX12_clearSlot 7 = .ok (.iconst (-1), 1) := by decide +kernel
theorem dX12_clearSlot_8 : decode cX12_clearSlot 8 = .ok (.ireturn, 1) := by decide +kernel
theorem dX12_clearSlot_9 : decode cX12_clearSlot 9 = .ok (.aload_n 0, 1) := by decide +kernel
theorem dX12_clearSlot_10 : decode cX12_clearSlot 10 = .ok (.getfield 65, 3) := by decide +kernel
theorem dX12_clearSlot_13 : decode cX12_clearSlot 13 = .ok (.iload_n 1, 1) := by decide +kernel
theorem dX12_clearSlot_14 : decode cX12_clearSlot 14 = .ok (.iaload, 1) := by decide +kernel
theorem dX12_clearSlot_15 : decode cX12_clearSlot 15 = .ok (.istore_n 2, 1) := by decide +kernel
theorem dX12_clearSlot_16 : decode cX12_clearSlot 16 = .ok (.aload_n 0, 1) := by decide +kernel
theorem dX12_clearSlot_17 : decode cX12_clearSlot 17 = .ok (.getfield 65, 3) := by decide +kernel
theorem dX12_clearSlot_20 : decode cX12_clearSlot 20 = .ok (.iload_n 1, 1) := by decide +kernel
theorem dX12_clearSlot_21 : decode cX12_clearSlot 21 = .ok (.iconst 0, 1) := by decide +kernel
theorem dX12_clearSlot_22 : decode cX12_clearSlot 22 = .ok (.iastore, 1) := by decide +kernel
theorem dX12_clearSlot_23 : decode cX12_clearSlot 23 = .ok (.iload_n 2, 1) := by decide +kernel
theorem dX12_clearSlot_24 : decode cX12_clearSlot 24 = .ok (.ireturn, 1) := by decide +kernel
theorem dX12_newArray_0 : decode cX12_newArray 0 = .ok (.iload_n 1, 1) := by decide +kernel
theorem dX12_newArray_1 : decode cX12_newArray 1 = .ok (.invokestatic 302, 3) := by decide +kernel
theorem dX12_newArray_4 : decode cX12_newArray 4 = .ok (.ifCond .eq 9, 3) := by decide +kernel
theorem dX12_newArray_7 : decode cX12_newArray 7 = .ok (.iload_n 2, 1) := by decide +kernel
theorem dX12_newArray_8 : decode cX12_newArray 8 = .ok (.bipush 30, 2) := by decide +kernel
theorem dX12_newArray_10 : decode cX12_newArray 10 = .ok (.if_icmp .le 5, 3) := by decide +kernel
theorem dX12_newArray_13 : decode cX12_newArray 13 = .ok (.iconst (-1), 1) := by decide +kernel
theorem dX12_newArray_14 : decode cX12_newArray 14 = .ok (.ireturn, 1) := by decide +kernel
theorem dX12_newArray_15 : decode cX12_newArray 15 = .ok (.iload_n 2, 1) := by decide +kernel
theorem dX12_newArray_16 : decode cX12_newArray 16 = .ok (.ifCond .ge 6, 3) := by decide +kernel
theorem dX12_newArray_19 : decode cX12_newArray 19 = .ok (.bipush (-14), 2) := by decide +kernel
theorem dX12_newArray_21 : decode cX12_newArray 21 = .ok (.ireturn, 1) := by decide +kernel
theorem dX12_newArray_22 : decode cX12_newArray 22 = .ok (.aload_n 0, 1) := by decide +kernel
theorem dX12_newArray_23 : decode cX12_newArray 23 = .ok (.getfield 65, 3) := by decide +kernel
theorem dX12_newArray_26 : decode cX12_newArray 26 = .ok (.iload_n 1, 1) := by decide +kernel
theorem dX12_newArray_27 : decode cX12_newArray 27 = .ok (.iconst 2, 1) := by decide +kernel
theorem dX12_newArray_28 : decode cX12_newArray 28 = .ok (.iastore, 1) := by decide +kernel
theorem dX12_newArray_29 : decode cX12_newArray 29 = .ok (.aload_n 0, 1) := by decide +kernel
theorem dX12_newArray_30 : decode cX12_newArray 30 = .ok (.getfield 68, 3) := by decide +kernel
theorem dX12_newArray_33 : decode cX12_newArray 33 = .ok (.iload_n 1, 1) := by decide +kernel
theorem dX12_newArray_34 : decode cX12_newArray 34 = .ok (.iload_n 2, 1) := by decide +kernel
theorem dX12_newArray_35 : decode cX12_newArray 35 = .ok (.iastore, 1) := by decide +kernel
theorem dX12_newArray_36 : decode cX12_newArray 36 = .ok (.iconst 0, 1) := by decide +kernel
theorem dX12_newArray_37 : decode cX12_newArray 37 = .ok (.istore_n 3, 1) := by decide +kernel
theorem dX12_newArray_38 : decode cX12_newArray 38 = .ok (.iload_n 3, 1) := by decide +kernel
theorem dX12_newArray_39 : decode cX12_newArray 39 = .ok (.iload_n 2, 1) := by decide +kernel
theorem dX12_newArray_40 : decode cX12_newArray 40 = .ok (.if_icmp .ge 18, 3) := by decide +kernel
theorem dX12_newArray_43 : decode cX12_newArray 43 = .ok (.aload_n 0, 1) := by decide +kernel
theorem dX12_newArray_44 : decode cX12_newArray 44 = .ok (.getfield 73, 3) := by decide +kernel
theorem dX12_newArray_47 : decode cX12_newArray 47 = .ok (.iload_n 1, 1) := by decide +kernel
theorem dX12_newArray_48 : decode cX12_newArray 48 = .ok (.aaload, 1) := by decide +kernel
theorem dX12_newArray_49 : decode cX12_newArray 49 = .ok (.iload_n 3, 1) := by decide +kernel
theorem dX12_newArray_50 : decode cX12_newArray 50 = .ok (.iconst 0, 1) := by decide +kernel
theorem dX12_newArray_51 : decode cX12_newArray 51 = .ok (.iastore, 1) := by decide +kernel
theorem dX12_newArray_52 : decode cX12_newArray 52 = .ok (.iinc 3 1, 3) := by decide +kernel
theorem dX12_newArray_55 : decode cX12_newArray 55 = .ok (.goto (-17), 3) := by decide +kernel
theorem dX12_newArray_58 : decode cX12_newArray 58 = .ok (.iload_n 2, 1) := by decide +kernel
theorem dX12_newArray_59 : decode cX12_newArray 59 = .ok (.ireturn, 1) := by decide +kernel
theorem dX12_setArrayElement_0 : decode cX12_setArrayElement 0 = .ok (.aload_n 0, 1) := by decide +kernel
theorem dX12_setArrayElement_1 : decode cX12_setArrayElement 1 = .ok (.iload_n 1, 1) := by decide +kernel
theorem dX12_setArrayElement_2 : decode cX12_setArrayElement 2 = .ok (.iconst 2, 1) := by decide +kernel
theorem dX12_setArrayElement_3 : decode cX12_setArrayElement 3 = .ok (.invokevirtual 305, 3) := by decide +kernel
theorem dX12_setArrayElement_6 : decode cX12_setArrayElement 6 = .ok (.istore 4, 2) := by decide +kernel
theorem dX12_setArrayElement_8 : decode cX12_setArrayElement 8 = .ok (.iload 4, 2) := by decide +kernel
theorem dX12_setArrayElement_10 : decode cX12_setArrayElement 10 = .ok (.ifCond .eq 6, 3) := by decide +kernel
theorem dX12_setArrayElement_13 : decode cX12_setArrayElement 13 = .ok (.iload 4, 2) := by decide +kernel
theorem dX12_setArrayElement_15 : decode cX12_setArrayElement 15 = .ok (.ireturn, 1) := by decide +kernel
theorem dX12_setArrayElement_16 : decode cX12_setArrayElement 16 = .ok (.iload_n 2, 1) := by decide +kernel
theorem dX12_setArrayElement_17 : decode cX12_setArrayElement 17 = .ok (.i2l, 1) := by decide +kernel
theorem dX12_setArrayElement_18 : decode cX12_setArrayElement 18 = .ok (.lconst 0, 1) := by decide +kernel
theorem dX12_setArrayElement_19 : decode cX12_setArrayElement 19 = .ok (.aload_n 0, 1) := by decide +kernel
theorem dX12_setArrayElement_20 : decode cX12_setArrayElement 20 = .ok (.getfield 68, 3) := by decide +kernel
theorem dX12_setArrayElement_23 : decode cX12_setArrayElement 23 = .ok (.iload_n 1, 1) := by decide +kernel
theorem dX12_setArrayElement_24 : decode cX12_setArrayElement 24 = .ok (.iaload, 1) := by decide +kernel
theorem dX12_setArrayElement_25 : decode cX12_setArrayElement 25 = .ok (.iconst 1, 1) := by decide +kernel
theorem dX12_setArrayElement_26 : decode cX12_setArrayElement 26 = .ok (.isub, 1) := by decide +kernel
theorem dX12_setArrayElement_27 : decode cX12_setArrayElement 27 = .ok (.i2l, 1) := by decide +kernel
theorem dX12_setArrayElement_28 : decode cX12_setArrayElement 28 = .ok (.invokestatic 79, 3) := by decide +kernel
theorem dX12_setArrayElement_31 : decode cX12_setArrayElement 31 = .ok (.ifCond .ne 6, 3) := by decide +kernel
theorem dX12_setArrayElement_34 : decode cX12_setArrayElement 34 = .ok (.bipush (-13), 2) := by decide +kernel
theorem dX12_setArrayElement_36 : decode cX12_setArrayElement 36 = .ok (.ireturn, 1) := by decide +kernel
theorem dX12_setArrayElement_37 : decode cX12_setArrayElement 37 = .ok (.aload_n 0, 1) := by decide +kernel
theorem dX12_setArrayElement_38 : decode cX12_setArrayElement 38 = .ok (.getfield 73, 3) := by decide +kernel
theorem dX12_setArrayElement_41 : decode cX12_setArrayElement 41 = .ok (.iload_n 1, 1) := by decide +kernel
theorem dX12_setArrayElement_42 : decode cX12_setArrayElement 42 = .ok (.aaload, 1) := by decide +kernel
theorem dX12_setArrayElement_43 : decode cX12_setArrayElement 43 = .ok (.iload_n 2, 1) := by decide +kernel
theorem dX12_setArrayElement_44 : decode cX12_setArrayElement 44 = .ok (.iload_n 3, 1) := by decide +kernel
theorem dX12_setArrayElement_45 : decode cX12_setArrayElement 45 = .ok (.iastore, 1) := by decide +kernel
theorem dX12_setArrayElement_46 : decode cX12_setArrayElement 46 = .ok (.iconst 1, 1) := by decide +kernel
theorem dX12_setArrayElement_47 : decode cX12_setArrayElement 47 = .ok (.ireturn, 1) := by decide +kernel
theorem dX12_arrayElement_0 : decode cX12_arrayElement 0 = .ok (.aload_n 0, 1) := by decide +kernel
theorem dX12_arrayElement_1 : decode cX12_arrayElement 1 = .ok (.iload_n 1, 1) := by decide +kernel
theorem dX12_arrayElement_2 : decode cX12_arrayElement 2 = .ok (.iconst 2, 1) := by decide +kernel
theorem dX12_arrayElement_3 : decode cX12_arrayElement 3 = .ok (.invokevirtual 305, 3) := by decide +kernel
theorem dX12_arrayElement_6 : decode cX12_arrayElement 6 = .ok (.ifCond .ne 33, 3) := by decide +kernel
theorem dX12_arrayElement_9 : decode cX12_arrayElement 9 = .ok (.iload_n 2, 1) := by decide +kernel
theorem dX12_arrayElement_10 : decode cX12_arrayElement 10 = .ok (.i2l, 1) := by decide +kernel
theorem dX12_arrayElement_11 : decode cX12_arrayElement 11 = .ok (.lconst 0, 1) := by decide +kernel
theorem dX12_arrayElement_12 : decode cX12_arrayElement 12 = .ok (.aload_n 0, 1) := by decide +kernel
theorem dX12_arrayElement_13 : decode cX12_arrayElement 13 = .ok (.getfield 68, 3) := by decide +kernel
theorem dX12_arrayElement_16 : decode cX12_arrayElement 16 = .ok (.iload_n 1, 1) := by decide +kernel
theorem dX12_arrayElement_17 : decode cX12_arrayElement 17 = .ok (.iaload, 1) := by decide +kernel
theorem dX12_arrayElement_18 : decode cX12_arrayElement 18 = .ok (.iconst 1, 1) := by decide +kernel
theorem dX12_arrayElement_19 : decode cX12_arrayElement 19 = .ok (.isub, 1) := by decide +kernel
theorem dX12_arrayElement_20 : decode cX12_arrayElement 20 = .ok (.i2l, 1) := by decide +kernel
theorem dX12_arrayElement_21 : decode cX12_arrayElement 21 = .ok (.invokestatic 79, 3) := by decide +kernel
theorem dX12_arrayElement_24 : decode cX12_arrayElement 24 = .ok (.ifCond .eq 15, 3) := by decide +kernel
theorem dX12_arrayElement_27 : decode cX12_arrayElement 27 = .ok (.aload_n 0, 1) := by decide +kernel
theorem dX12_arrayElement_28 : decode cX12_arrayElement 28 = .ok (.getfield 73, 3) := by decide +kernel
theorem dX12_arrayElement_31 : decode cX12_arrayElement 31 = .ok (.iload_n 1, 1) := by decide +kernel
theorem dX12_arrayElement_32 : decode cX12_arrayElement 32 = .ok (.aaload, 1) := by decide +kernel
theorem dX12_arrayElement_33 : decode cX12_arrayElement 33 = .ok (.iload_n 2, 1) := by decide +kernel
theorem dX12_arrayElement_34 : decode cX12_arrayElement 34 = .ok (.iaload, 1) := by decide +kernel
theorem dX12_arrayElement_35 : decode cX12_arrayElement 35 = .ok (.i2l, 1) := by decide +kernel
theorem dX12_arrayElement_36 : decode cX12_arrayElement 36 = .ok (.goto 6, 3) := by decide +kernel
theorem dX12_arrayElement_39 : decode cX12_arrayElement 39 = .ok (.ldc2_w 230, 3) := by decide +kernel
theorem dX12_arrayElement_42 : decode cX12_arrayElement 42 = .ok (.lreturn, 1) := by decide +kernel
theorem dX12_firstMismatch_0 : decode cX12_firstMismatch 0 = .ok (.iload_n 1, 1) := by decide +kernel
theorem dX12_firstMismatch_1 : decode cX12_firstMismatch 1 = .ok (.invokestatic 302, 3) := by decide +kernel
theorem dX12_firstMismatch_4 : decode cX12_firstMismatch 4 = .ok (.ifCond .eq 10, 3) := by decide +kernel
theorem dX12_firstMismatch_7 : decode cX12_firstMismatch 7 = .ok (.iload_n 2, 1) := by decide +kernel
theorem dX12_firstMismatch_8 : decode cX12_firstMismatch 8 = .ok (.invokestatic 185, 3) := by decide +kernel
theorem dX12_firstMismatch_11 : decode cX12_firstMismatch 11 = .ok (.ifCond .ne 5, 3) := by decide +kernel
theorem dX12_firstMismatch_14 : decode cX12_firstMismatch 14 = .ok (.iconst (-1), 1) := by decide +kernel
theorem dX12_firstMismatch_15 : decode cX12_firstMismatch 15 = .ok (.ireturn, 1) := by decide +kernel
theorem dX12_firstMismatch_16 : decode cX12_firstMismatch 16 = .ok (.aload_n 0, 1) := by decide +kernel
theorem dX12_firstMismatch_17 : decode cX12_firstMismatch 17 = .ok (.iload_n 1, 1) := by decide +kernel
theorem dX12_firstMismatch_18 : decode cX12_firstMismatch 18 = .ok (.iconst 2, 1) := by decide +kernel
theorem dX12_firstMismatch_19 : decode cX12_firstMismatch 19 = .ok (.invokevirtual 305, 3) := by decide +kernel
theorem dX12_firstMismatch_22 : decode cX12_firstMismatch 22 = .ok (.istore_n 3, 1) := by decide +kernel
theorem dX12_firstMismatch_23 : decode cX12_firstMismatch 23 = .ok (.iload_n 3, 1) := by decide +kernel
theorem dX12_firstMismatch_24 : decode cX12_firstMismatch 24 = .ok (.ifCond .eq 5, 3) := by decide +kernel
theorem dX12_firstMismatch_27 : decode cX12_firstMismatch 27 = .ok (.iload_n 3, 1) := by decide +kernel
theorem dX12_firstMismatch_28 : decode cX12_firstMismatch 28 = .ok (.ireturn, 1) := by decide +kernel
theorem dX12_firstMismatch_29 : decode cX12_firstMismatch 29 = .ok (.aload_n 0, 1) := by decide +kernel
theorem dX12_firstMismatch_30 : decode cX12_firstMismatch 30 = .ok (.iload_n 2, 1) := by decide +kernel
theorem dX12_firstMismatch_31 : decode cX12_firstMismatch 31 = .ok (.iconst 0, 1) := by decide +kernel
theorem dX12_firstMismatch_32 : decode cX12_firstMismatch 32 = .ok (.invokevirtual 188, 3) := by decide +kernel
theorem dX12_firstMismatch_35 : decode cX12_firstMismatch 35 = .ok (.iconst 0, 1) := by decide +kernel
theorem dX12_firstMismatch_36 : decode cX12_firstMismatch 36 = .ok (.istore 4, 2) := by decide +kernel
theorem dX12_firstMismatch_38 : decode cX12_firstMismatch 38 = .ok (.iload 4, 2) := by decide +kernel
theorem dX12_firstMismatch_40 : decode cX12_firstMismatch 40 = .ok (.aload_n 0, 1) := by decide +kernel
theorem dX12_firstMismatch_41 : decode cX12_firstMismatch 41 = .ok (.getfield 177, 3) := by decide +kernel
theorem dX12_firstMismatch_44 : decode cX12_firstMismatch 44 = .ok (.if_icmp .ge 39, 3) := by decide +kernel
theorem dX12_firstMismatch_47 : decode cX12_firstMismatch 47 = .ok (.iload 4, 2) := by decide +kernel
theorem dX12_firstMismatch_49 : decode cX12_firstMismatch 49 = .ok (.aload_n 0, 1) := by decide +kernel
theorem dX12_firstMismatch_50 : decode cX12_firstMismatch 50 = .ok (.getfield 68, 3) := by decide +kernel
theorem dX12_firstMismatch_53 : decode cX12_firstMismatch 53 = .ok (.iload_n 1, 1) := by decide +kernel
theorem dX12_firstMismatch_54 : decode cX12_firstMismatch 54 = .ok (.iaload, 1) := by decide +kernel
theorem dX12_firstMismatch_55 : decode cX12_firstMismatch 55 = .ok (.if_icmp .ge 28, 3) := by decide +kernel
theorem dX12_firstMismatch_58 : decode cX12_firstMismatch 58 = .ok (.aload_n 0, 1) := by decide +kernel
theorem dX12_firstMismatch_59 : decode cX12_firstMismatch 59 = .ok (.getfield 41, 3) := by decide +kernel
theorem dX12_firstMismatch_62 : decode cX12_firstMismatch 62 = .ok (.iload 4, 2) := by decide +kernel
theorem dX12_firstMismatch_64 : decode cX12_firstMismatch 64 = .ok (.iaload, 1) := by decide +kernel
theorem dX12_firstMismatch_65 : decode cX12_firstMismatch 65 = .ok (.aload_n 0, 1) := by decide +kernel
theorem dX12_firstMismatch_66 : decode cX12_firstMismatch 66 = .ok (.getfield 73, 3) := by decide +kernel
theorem dX12_firstMismatch_69 : decode cX12_firstMismatch 69 = .ok (.iload_n 1, 1) := by decide +kernel
theorem dX12_firstMismatch_70 : decode cX12_firstMismatch 70 = .ok (.aaload, 1) := by decide +kernel
theorem dX12_firstMismatch_71 : decode cX12_firstMismatch 71 = .ok (.iload 4, 2) := by decide +kernel
theorem dX12_firstMismatch_73 : decode cX12_firstMismatch 73 = .ok (.iaload, 1) := by decide +kernel
theorem dX12_firstMismatch_74 : decode cX12_firstMismatch 74 = .ok (.if_icmp .ne 9, 3) := by decide +kernel
theorem dX12_firstMismatch_77 : decode cX12_firstMismatch 77 = .ok (.iinc 4 1, 3) := by decide +kernel
theorem dX12_firstMismatch_80 : decode cX12_firstMismatch 80 = .ok (.goto (-42), 3) := by decide +kernel
theorem dX12_firstMismatch_83 : decode cX12_firstMismatch 83 = .ok (.iload 4, 2) := by decide +kernel
theorem dX12_firstMismatch_85 : decode cX12_firstMismatch 85 = .ok (.aload_n 0, 1) := by decide +kernel
theorem dX12_firstMismatch_86 : decode cX12_firstMismatch 86 = .ok (.getfield 177, 3) := by decide +kernel
theorem dX12_firstMismatch_89 : decode cX12_firstMismatch 89 = .ok (.if_icmp .ne 19, 3) := by decide +kernel
theorem dX12_firstMismatch_92 : decode cX12_firstMismatch 92 = .ok (.iload 4, 2) := by decide +kernel
theorem dX12_firstMismatch_94 : decode cX12_firstMismatch 94 = .ok (.aload_n 0, 1) := by decide +kernel
theorem dX12_firstMismatch_95 : decode cX12_firstMismatch 95 = .ok (.getfield 68, 3) := by decide +kernel
theorem dX12_firstMismatch_98 : decode cX12_firstMismatch 98 = .ok (.iload_n 1, 1) := by decide +kernel
theorem dX12_firstMismatch_99 : decode cX12_firstMismatch 99 = .ok (.iaload, 1) := by decide +kernel
theorem dX12_firstMismatch_100 : decode cX12_firstMismatch 100 = .ok (.if_icmp .ne 8, 3) := by decide +kernel
theorem dX12_firstMismatch_103 : decode cX12_firstMismatch 103 = .ok (.bipush (-2), 2) := by decide +kernel
theorem dX12_firstMismatch_105 : decode cX12_firstMismatch 105 = .ok (.goto 5, 3) := by decide +kernel
theorem dX12_firstMismatch_108 : decode cX12_firstMismatch 108 = .ok (.iload 4, 2) := by decide +kernel
theorem dX12_firstMismatch_110 : decode cX12_firstMismatch 110 = .ok (.ireturn, 1) := by decide +kernel
theorem dX12_usedSlotCount_0 : decode cX12_usedSlotCount 0 = .ok (.iconst 0, 1) := by decide +kernel
theorem dX12_usedSlotCount_1 : decode cX12_usedSlotCount 1 = .ok (.istore_n 1, 1) := by decide +kernel
theorem dX12_usedSlotCount_2 : decode cX12_usedSlotCount 2 = .ok (.iconst 0, 1) := by decide +kernel
theorem dX12_usedSlotCount_3 : decode cX12_usedSlotCount 3 = .ok (.istore_n 2, 1) := by decide +kernel
theorem dX12_usedSlotCount_4 : decode cX12_usedSlotCount 4 = .ok (.iload_n 2, 1) := by decide +kernel
theorem dX12_usedSlotCount_5 : decode cX12_usedSlotCount 5 = .ok (.iconst 4, 1) := by decide +kernel
theorem dX12_usedSlotCount_6 : decode cX12_usedSlotCount 6 = .ok (.if_icmp .ge 26, 3) := by decide +kernel
theorem dX12_usedSlotCount_9 : decode cX12_usedSlotCount 9 = .ok (.iload_n 1, 1) := by decide +kernel
theorem dX12_usedSlotCount_10 : decode cX12_usedSlotCount 10 = .ok (.aload_n 0, 1) := by decide +kernel
theorem dX12_usedSlotCount_11 : decode cX12_usedSlotCount 11 = .ok (.getfield 65, 3) := by decide +kernel
theorem dX12_usedSlotCount_14 : decode cX12_usedSlotCount 14 = .ok (.iload_n 2, 1) := by decide +kernel
theorem dX12_usedSlotCount_15 : decode cX12_usedSlotCount 15 = .ok (.iaload, 1) := by decide +kernel
theorem dX12_usedSlotCount_16 : decode cX12_usedSlotCount 16 = .ok (.ifCond .eq 7, 3) := by decide +kernel
theorem dX12_usedSlotCount_19 : decode cX12_usedSlotCount 19 = .ok (.iconst 1, 1) := by decide +kernel
theorem dX12_usedSlotCount_20 : decode cX12_usedSlotCount 20 = .ok (.goto 4, 3) := by decide +kernel
theorem dX12_usedSlotCount_23 : decode cX12_usedSlotCount 23 = .ok (.iconst 0, 1) := by decide +kernel
theorem dX12_usedSlotCount_24 : decode cX12_usedSlotCount 24 = .ok (.iadd, 1) := by decide +kernel
theorem dX12_usedSlotCount_25 : decode cX12_usedSlotCount 25 = .ok (.istore_n 1, 1) := by decide +kernel
theorem dX12_usedSlotCount_26 : decode cX12_usedSlotCount 26 = .ok (.iinc 2 1, 3) := by decide +kernel
theorem dX12_usedSlotCount_29 : decode cX12_usedSlotCount 29 = .ok (.goto (-25), 3) := by decide +kernel
theorem dX12_usedSlotCount_32 : decode cX12_usedSlotCount 32 = .ok (.iload_n 1, 1) := by decide +kernel
theorem dX12_usedSlotCount_33 : decode cX12_usedSlotCount 33 = .ok (.ireturn, 1) := by decide +kernel
theorem dX12_changeCount_0 : decode cX12_changeCount 0 = .ok (.aload_n 0, 1) := by decide +kernel
theorem dX12_changeCount_1 : decode cX12_changeCount 1 = .ok (.getfield 83, 3) := by decide +kernel
theorem dX12_changeCount_4 : decode cX12_changeCount 4 = .ok (.ireturn, 1) := by decide +kernel
theorem dX12_inputLength_0 : decode cX12_inputLength 0 = .ok (.aload_n 0, 1) := by decide +kernel
theorem dX12_inputLength_1 : decode cX12_inputLength 1 = .ok (.getfield 279, 3) := by decide +kernel
theorem dX12_inputLength_4 : decode cX12_inputLength 4 = .ok (.ireturn, 1) := by decide +kernel
theorem dX12_takeSnapshot_0 : decode cX12_takeSnapshot 0 = .ok (.aload_n 0, 1) := by decide +kernel
theorem dX12_takeSnapshot_1 : decode cX12_takeSnapshot 1 = .ok (.iconst 1, 1) := by decide +kernel
theorem dX12_takeSnapshot_2 : decode cX12_takeSnapshot 2 = .ok (.putfield 308, 3) := by decide +kernel
theorem dX12_takeSnapshot_5 : decode cX12_takeSnapshot 5 = .ok (.aload_n 0, 1) := by decide +kernel
theorem dX12_takeSnapshot_6 : decode cX12_takeSnapshot 6 = .ok (.getfield 76, 3) := by decide +kernel
theorem dX12_takeSnapshot_9 : decode cX12_takeSnapshot 9 = .ok (.iconst 0, 1) := by decide +kernel
theorem dX12_takeSnapshot_10 : decode cX12_takeSnapshot 10 = .ok (.aload_n 0, 1) := by decide +kernel
theorem dX12_takeSnapshot_11 : decode cX12_takeSnapshot 11 = .ok (.getfield 9, 3) := by decide +kernel
theorem dX12_takeSnapshot_14 : decode cX12_takeSnapshot 14 = .ok (.iastore, 1) := by decide +kernel
theorem dX12_takeSnapshot_15 : decode cX12_takeSnapshot 15 = .ok (.aload_n 0, 1) := by decide +kernel
theorem dX12_takeSnapshot_16 : decode cX12_takeSnapshot 16 = .ok (.getfield 76, 3) := by decide +kernel
theorem dX12_takeSnapshot_19 : decode cX12_takeSnapshot 19 = .ok (.iconst 1, 1) := by decide +kernel
theorem dX12_takeSnapshot_20 : decode cX12_takeSnapshot 20 = .ok (.aload_n 0, 1) := by decide +kernel
theorem dX12_takeSnapshot_21 : decode cX12_takeSnapshot 21 = .ok (.getfield 236, 3) := by decide +kernel
theorem dX12_takeSnapshot_24 : decode cX12_takeSnapshot 24 = .ok (.iastore, 1) := by decide +kernel
theorem dX12_takeSnapshot_25 : decode cX12_takeSnapshot 25 = .ok (.aload_n 0, 1) := by decide +kernel
theorem dX12_takeSnapshot_26 : decode cX12_takeSnapshot 26 = .ok (.getfield 76, 3) := by decide +kernel
theorem dX12_takeSnapshot_29 : decode cX12_takeSnapshot 29 = .ok (.iconst 2, 1) := by decide +kernel
theorem dX12_takeSnapshot_30 : decode cX12_takeSnapshot 30 = .ok (.aload_n 0, 1) := by decide +kernel
theorem dX12_takeSnapshot_31 : decode cX12_takeSnapshot 31 = .ok (.getfield 251, 3) := by decide +kernel
theorem dX12_takeSnapshot_34 : decode cX12_takeSnapshot 34 = .ok (.iastore, 1) := by decide +kernel
theorem dX12_takeSnapshot_35 : decode cX12_takeSnapshot 35 = .ok (.aload_n 0, 1) := by decide +kernel
theorem dX12_takeSnapshot_36 : decode cX12_takeSnapshot 36 = .ok (.getfield 15, 3) := by decide +kernel
theorem dX12_takeSnapshot_39 : decode cX12_takeSnapshot 39 = .ok (.iconst 0, 1) := by decide +kernel
theorem dX12_takeSnapshot_40 : decode cX12_takeSnapshot 40 = .ok (.aload_n 0, 1) := by decide +kernel
theorem dX12_takeSnapshot_41 : decode cX12_takeSnapshot 41 = .ok (.getfield 76, 3) := by decide +kernel
theorem dX12_takeSnapshot_44 : decode cX12_takeSnapshot 44 = .ok (.iconst 3, 1) := by decide +kernel
theorem dX12_takeSnapshot_45 : decode cX12_takeSnapshot 45 = .ok (.bipush 7, 2) := by decide +kernel
theorem dX12_takeSnapshot_47 : decode cX12_takeSnapshot 47 = .ok (.invokestatic 311, 3) := by decide +kernel
theorem dX12_takeSnapshot_50 : decode cX12_takeSnapshot 50 = .ok (.aload_n 0, 1) := by decide +kernel
theorem dX12_takeSnapshot_51 : decode cX12_takeSnapshot 51 = .ok (.getfield 47, 3) := by decide +kernel
theorem dX12_takeSnapshot_54 : decode cX12_takeSnapshot 54 = .ok (.iconst 0, 1) := by decide +kernel
theorem dX12_takeSnapshot_55 : decode cX12_takeSnapshot 55 = .ok (.aload_n 0, 1) := by decide +kernel
theorem dX12_takeSnapshot_56 : decode cX12_takeSnapshot 56 = .ok (.getfield 76, 3) := by decide +kernel
theorem dX12_takeSnapshot_59 : decode cX12_takeSnapshot 59 = .ok (.bipush 10, 2) := by decide +kernel
theorem dX12_takeSnapshot_61 : decode cX12_takeSnapshot 61 = .ok (.bipush 24, 2) := by decide +kernel
theorem dX12_takeSnapshot_63 : decode cX12_takeSnapshot 63 = .ok (.invokestatic 311, 3) := by decide +kernel
theorem dX12_takeSnapshot_66 : decode cX12_takeSnapshot 66 = .ok (.aload_n 0, 1) := by decide +kernel
theorem dX12_takeSnapshot_67 : decode cX12_takeSnapshot 67 = .ok (.getfield 50, 3) := by decide +kernel
theorem dX12_takeSnapshot_70 : decode cX12_takeSnapshot 70 = .ok (.iconst 0, 1) := by decide +kernel
theorem dX12_takeSnapshot_71 : decode cX12_takeSnapshot 71 = .ok (.aload_n 0, 1) := by decide +kernel
theorem dX12_takeSnapshot_72 : decode cX12_takeSnapshot 72 = .ok (.getfield 76, 3) := by decide +kernel
theorem dX12_takeSnapshot_75 : decode cX12_takeSnapshot 75 = .ok (.bipush 34, 2) := by decide +kernel
theorem dX12_takeSnapshot_77 : decode cX12_takeSnapshot 77 = .ok (.bipush 24, 2) := by decide +kernel
theorem dX12_takeSnapshot_79 : decode cX12_takeSnapshot 79 = .ok (.invokestatic 311, 3) := by decide +kernel
theorem dX12_takeSnapshot_82 : decode cX12_takeSnapshot 82 = .ok (.aload_n 0, 1) := by decide +kernel
theorem dX12_takeSnapshot_83 : decode cX12_takeSnapshot 83 = .ok (.getfield 9, 3) := by decide +kernel
theorem dX12_takeSnapshot_86 : decode cX12_takeSnapshot 86 = .ok (.ireturn, 1) := by decide +kernel
theorem dX12_copy_0 : decode cX12_copy 0 = .ok (.iconst 0, 1) := by decide +kernel
theorem dX12_copy_1 : decode cX12_copy 1 = .ok (.istore 5, 2) := by decide +kernel
theorem dX12_copy_3 : decode cX12_copy 3 = .ok (.iload 5, 2) := by decide +kernel
theorem dX12_copy_5 : decode cX12_copy 5 = .ok (.iload 4, 2) := by decide +kernel
theorem dX12_copy_7 : decode cX12_copy 7 = .ok (.if_icmp .ge 21, 3) := by decide +kernel
theorem dX12_copy_10 : decode cX12_copy 10 = .ok (.aload_n 2, 1) := by decide +kernel
theorem dX12_copy_11 : decode cX12_copy 11 = .ok (.iload_n 3, 1) := by decide +kernel
theorem dX12_copy_12 : decode cX12_copy 12 = .ok (.iload 5, 2) := by decide +kernel
theorem dX12_copy_14 : decode cX12_copy 14 = .ok (.iadd, 1) := by decide +kernel
theorem dX12_copy_15 : decode cX12_copy 15 = .ok (.aload_n 0, 1) := by decide +kernel
theorem dX12_copy_16 : decode cX12_copy 16 = .ok (.iload_n 1, 1) := by decide +kernel
theorem dX12_copy_17 : decode cX12_copy 17 = .ok (.iload 5, 2) := by decide +kernel
theorem dX12_copy_19 : decode cX12_copy 19 = .ok (.iadd, 1) := by decide +kernel
theorem dX12_copy_20 : decode cX12_copy 20 = .ok (.iaload, 1) := by decide +kernel
theorem dX12_copy_21 : decode cX12_copy 21 = .ok (.iastore, 1) := by decide +kernel
theorem dX12_copy_22 : decode cX12_copy 22 = .ok (.iinc 5 1, 3) := by decide +kernel
theorem dX12_copy_25 : decode cX12_copy 25 = .ok (.goto (-22), 3) := by decide +kernel
theorem dX12_copy_28 : decode cX12_copy 28 = .ok (.return_, 1) := by decide +kernel
theorem dX12_restoreSnapshot_0 : decode cX12_restoreSnapshot 0 = .ok (.aload_n 0, 1) := by decide +kernel
theorem dX12_restoreSnapshot_1 : decode cX12_restoreSnapshot 1 = .ok (.getfield 308, 3) := by decide +kernel
theorem dX12_restoreSnapshot_4 : decode cX12_restoreSnapshot 4 = .ok (.ifCond .ne 6, 3) := by decide +kernel
theorem dX12_restoreSnapshot_7 : decode cX12_restoreSnapshot 7 = .ok (.bipush (-5), 2) := by decide +kernel
theorem dX12_restoreSnapshot_9 : decode cX12_restoreSnapshot 9 = .ok (.ireturn, 1) := by decide +kernel
theorem dX12_restoreSnapshot_10 : decode cX12_restoreSnapshot 10 = .ok (.aload_n 0, 1) := by decide +kernel
theorem dX12_restoreSnapshot_11 : decode cX12_restoreSnapshot 11 = .ok (.aload_n 0, 1) := by decide +kernel
theorem dX12_restoreSnapshot_12 : decode cX12_restoreSnapshot 12 = .ok (.getfield 76, 3) := by decide +kernel
theorem dX12_restoreSnapshot_15 : decode cX12_restoreSnapshot 15 = .ok (.iconst 0, 1) := by decide +kernel
theorem dX12_restoreSnapshot_16 : decode cX12_restoreSnapshot 16 = .ok (.iaload, 1) := by decide +kernel
theorem dX12_restoreSnapshot_17 : decode cX12_restoreSnapshot 17 = .ok (.putfield 9, 3) := by decide +kernel
theorem dX12_restoreSnapshot_20 : decode cX12_restoreSnapshot 20 = .ok (.aload_n 0, 1) := by decide +kernel
theorem dX12_restoreSnapshot_21 : decode cX12_restoreSnapshot 21 = .ok (.aload_n 0, 1) := by decide +kernel
theorem dX12_restoreSnapshot_22 : decode cX12_restoreSnapshot 22 = .ok (.getfield 76, 3) := by decide +kernel
theorem dX12_restoreSnapshot_25 : decode cX12_restoreSnapshot 25 = .ok (.iconst 1, 1) := by decide +kernel
theorem dX12_restoreSnapshot_26 : decode cX12_restoreSnapshot 26 = .ok (.iaload, 1) := by decide +kernel
theorem dX12_restoreSnapshot_27 : decode cX12_restoreSnapshot 27 = .ok (.putfield 236, 3) := by decide +kernel
theorem dX12_restoreSnapshot_30 : decode cX12_restoreSnapshot 30 = .ok (.aload_n 0, 1) := by decide +kernel
theorem dX12_restoreSnapshot_31 : decode cX12_restoreSnapshot 31 = .ok (.aload_n 0, 1) := by decide +kernel
theorem dX12_restoreSnapshot_32 : decode cX12_restoreSnapshot 32 = .ok (.getfield 76, 3) := by decide +kernel
theorem dX12_restoreSnapshot_35 : decode cX12_restoreSnapshot 35 = .ok (.iconst 2, 1) := by decide +kernel
theorem dX12_restoreSnapshot_36 : decode cX12_restoreSnapshot 36 = .ok (.iaload, 1) := by decide +kernel
theorem dX12_restoreSnapshot_37 : decode cX12_restoreSnapshot 37 = .ok (.putfield 251, 3) := by decide +kernel
theorem dX12_restoreSnapshot_40 : decode cX12_restoreSnapshot 40 = .ok (.aload_n 0, 1) := by decide +kernel
theorem dX12_restoreSnapshot_41 : decode cX12_restoreSnapshot 41 = .ok (.getfield 76, 3) := by decide +kernel
theorem dX12_restoreSnapshot_44 : decode cX12_restoreSnapshot 44 = .ok (.iconst 3, 1) := by decide +kernel
theorem dX12_restoreSnapshot_45 : decode cX12_restoreSnapshot 45 = .ok (.aload_n 0, 1) := by decide +kernel
theorem dX12_restoreSnapshot_46 : decode cX12_restoreSnapshot 46 = .ok (.getfield 15, 3) := by decide +kernel
theorem dX12_restoreSnapshot_49 : decode cX12_restoreSnapshot 49 = .ok (.iconst 0, 1) := by decide +kernel
theorem dX12_restoreSnapshot_50 : decode cX12_restoreSnapshot 50 = .ok (.bipush 7, 2) := by decide +kernel
theorem dX12_restoreSnapshot_52 : decode cX12_restoreSnapshot 52 = .ok (.invokestatic 311, 3) := by decide +kernel
theorem dX12_restoreSnapshot_55 : decode cX12_restoreSnapshot 55 = .ok (.aload_n 0, 1) := by decide +kernel
theorem dX12_restoreSnapshot_56 : decode cX12_restoreSnapshot 56 = .ok (.getfield 76, 3) := by decide +kernel
theorem dX12_restoreSnapshot_59 : decode cX12_restoreSnapshot 59 = .ok (.bipush 10, 2) := by decide +kernel
theorem dX12_restoreSnapshot_61 : decode cX12_restoreSnapshot 61 = .ok (.aload_n 0, 1) := by decide +kernel
theorem dX12_restoreSnapshot_62 : decode cX12_restoreSnapshot 62 = .ok (.getfield 47, 3) := by decide +kernel
theorem dX12_restoreSnapshot_65 : decode cX12_restoreSnapshot 65 = .ok (.iconst 0, 1) := by decide +kernel
theorem dX12_restoreSnapshot_66 : decode cX12_restoreSnapshot 66 = .ok (.bipush 24, 2) := by decide +kernel
theorem dX12_restoreSnapshot_68 : decode cX12_restoreSnapshot 68 = .ok (.invokestatic 311, 3) := by decide +kernel
theorem dX12_restoreSnapshot_71 : decode cX12_restoreSnapshot 71 = .ok (.aload_n 0, 1) := by decide +kernel
theorem dX12_restoreSnapshot_72 : decode cX12_restoreSnapshot 72 = .ok (.getfield 76, 3) := by decide +kernel
theorem dX12_restoreSnapshot_75 : decode cX12_restoreSnapshot 75 = .ok (.bipush 34, 2) := by decide +kernel
theorem dX12_restoreSnapshot_77 : decode cX12_restoreSnapshot 77 = .ok (.aload_n 0, 1) := by decide +kernel
theorem dX12_restoreSnapshot_78 : decode cX12_restoreSnapshot 78 = .ok (.getfield 50, 3) := by decide +kernel
theorem dX12_restoreSnapshot_81 : decode cX12_restoreSnapshot 81 = .ok (.iconst 0, 1) := by decide +kernel
theorem dX12_restoreSnapshot_82 : decode cX12_restoreSnapshot 82 = .ok (.bipush 24, 2) := by decide +kernel
theorem dX12_restoreSnapshot_84 : decode cX12_restoreSnapshot 84 = .ok (.invokestatic 311, 3) := by decide +kernel
theorem dX12_restoreSnapshot_87 : decode cX12_restoreSnapshot 87 = .ok (.aload_n 0, 1) := by decide +kernel
theorem dX12_restoreSnapshot_88 : decode cX12_restoreSnapshot 88 = .ok (.iconst 0, 1) := by decide +kernel
theorem dX12_restoreSnapshot_89 : decode cX12_restoreSnapshot 89 = .ok (.putfield 83, 3) := by decide +kernel
theorem dX12_restoreSnapshot_92 : decode cX12_restoreSnapshot 92 = .ok (.aload_n 0, 1) := by decide +kernel
theorem dX12_restoreSnapshot_93 : decode cX12_restoreSnapshot 93 = .ok (.iconst 1, 1) := by decide +kernel
theorem dX12_restoreSnapshot_94 : decode cX12_restoreSnapshot 94 = .ok (.putfield 25, 3) := by decide +kernel
theorem dX12_restoreSnapshot_97 : decode cX12_restoreSnapshot 97 = .ok (.aload_n 0, 1) := by decide +kernel
theorem dX12_restoreSnapshot_98 : decode cX12_restoreSnapshot 98 = .ok (.getfield 9, 3) := by decide +kernel
theorem dX12_restoreSnapshot_101 : decode cX12_restoreSnapshot 101 = .ok (.ireturn, 1) := by decide +kernel
theorem dJ6_numberOfTrailingZeros_0f7a4_0 : decode cJ6_numberOfTrailingZeros_0f7a4 0 = .ok (.iload_n 0, 1) := by decide +kernel
theorem dJ6_numberOfTrailingZeros_0f7a4_1 : decode cJ6_numberOfTrailingZeros_0f7a4 1 = .ok (.iconst (-1), 1) := by decide +kernel
theorem dJ6_numberOfTrailingZeros_0f7a4_2 : decode cJ6_numberOfTrailingZeros_0f7a4 2 = .ok (.ixor, 1) := by decide +kernel
theorem dJ6_numberOfTrailingZeros_0f7a4_3 : decode cJ6_numberOfTrailingZeros_0f7a4 3 = .ok (.iload_n 0, 1) := by decide +kernel
theorem dJ6_numberOfTrailingZeros_0f7a4_4 : decode cJ6_numberOfTrailingZeros_0f7a4 4 = .ok (.iconst 1, 1) := by decide +kernel
theorem dJ6_numberOfTrailingZeros_0f7a4_5 : decode cJ6_numberOfTrailingZeros_0f7a4 5 = .ok (.isub, 1) := by decide +kernel
theorem dJ6_numberOfTrailingZeros_0f7a4_6 : decode cJ6_numberOfTrailingZeros_0f7a4 6 = .ok (.iand, 1) := by decide +kernel
theorem dJ6_numberOfTrailingZeros_0f7a4_7 : decode cJ6_numberOfTrailingZeros_0f7a4 7 = .ok (.istore_n 0, 1) := by decide +kernel
theorem dJ6_numberOfTrailingZeros_0f7a4_8 : decode cJ6_numberOfTrailingZeros_0f7a4 8 = .ok (.iload_n 0, 1) := by decide +kernel
theorem dJ6_numberOfTrailingZeros_0f7a4_9 : decode cJ6_numberOfTrailingZeros_0f7a4 9 = .ok (.ifCond .gt 8, 3) := by decide +kernel
theorem dJ6_numberOfTrailingZeros_0f7a4_12 : decode cJ6_numberOfTrailingZeros_0f7a4 12 = .ok (.iload_n 0, 1) := by decide +kernel
theorem dJ6_numberOfTrailingZeros_0f7a4_13 : decode cJ6_numberOfTrailingZeros_0f7a4 13 = .ok (.bipush 32, 2) := by decide +kernel
theorem dJ6_numberOfTrailingZeros_0f7a4_15 : decode cJ6_numberOfTrailingZeros_0f7a4 15 = .ok (.iand, 1) := by decide +kernel
theorem dJ6_numberOfTrailingZeros_0f7a4_16 : decode cJ6_numberOfTrailingZeros_0f7a4 16 = .ok (.ireturn, 1) := by decide +kernel
theorem dJ6_numberOfTrailingZeros_0f7a4_17 : decode cJ6_numberOfTrailingZeros_0f7a4 17 = .ok (.iconst 1, 1) := by decide +kernel
theorem dJ6_numberOfTrailingZeros_0f7a4_18 : decode cJ6_numberOfTrailingZeros_0f7a4 18 = .ok (.istore_n 1, 1) := by decide +kernel
theorem dJ6_numberOfTrailingZeros_0f7a4_19 : decode cJ6_numberOfTrailingZeros_0f7a4 19 = .ok (.iload_n 0, 1) := by decide +kernel
theorem dJ6_numberOfTrailingZeros_0f7a4_20 : decode cJ6_numberOfTrailingZeros_0f7a4 20 = .ok (.ldc_w 264, 3) := by decide +kernel
theorem dJ6_numberOfTrailingZeros_0f7a4_23 : decode cJ6_numberOfTrailingZeros_0f7a4 23 = .ok (.if_icmp .le 11, 3) := by decide +kernel
theorem dJ6_numberOfTrailingZeros_0f7a4_26 : decode cJ6_numberOfTrailingZeros_0f7a4 26 = .ok (.iinc 1 16, 3) := by decide +kernel
theorem dJ6_numberOfTrailingZeros_0f7a4_29 : decode cJ6_numberOfTrailingZeros_0f7a4 29 = .ok (.iload_n 0, 1) := by decide +kernel
theorem dJ6_numberOfTrailingZeros_0f7a4_30 : decode cJ6_numberOfTrailingZeros_0f7a4 30 = .ok (.bipush 16, 2) := by decide +kernel
theorem dJ6_numberOfTrailingZeros_0f7a4_32 : decode cJ6_numberOfTrailingZeros_0f7a4 32 = .ok (.iushr, 1) := by decide +kernel
theorem dJ6_numberOfTrailingZeros_0f7a4_33 : decode cJ6_numberOfTrailingZeros_0f7a4 33 = .ok (.istore_n 0, 1) := by decide +kernel
theorem dJ6_numberOfTrailingZeros_0f7a4_34 : decode cJ6_numberOfTrailingZeros_0f7a4 34 = .ok (.iload_n 0, 1) := by decide +kernel
theorem dJ6_numberOfTrailingZeros_0f7a4_35 : decode cJ6_numberOfTrailingZeros_0f7a4 35 = .ok (.sipush 256, 3) := by decide +kernel
theorem dJ6_numberOfTrailingZeros_0f7a4_38 : decode cJ6_numberOfTrailingZeros_0f7a4 38 = .ok (.if_icmp .le 11, 3) := by decide +kernel
theorem dJ6_numberOfTrailingZeros_0f7a4_41 : decode cJ6_numberOfTrailingZeros_0f7a4 41 = .ok (.iinc 1 8, 3) := by decide +kernel
theorem dJ6_numberOfTrailingZeros_0f7a4_44 : decode cJ6_numberOfTrailingZeros_0f7a4 44 = .ok (.iload_n 0, 1) := by decide +kernel
theorem dJ6_numberOfTrailingZeros_0f7a4_45 : decode cJ6_numberOfTrailingZeros_0f7a4 45 = .ok (.bipush 8, 2) := by decide +kernel
theorem dJ6_numberOfTrailingZeros_0f7a4_47 : decode cJ6_numberOfTrailingZeros_0f7a4 47 = .ok (.iushr, 1) := by decide +kernel
theorem dJ6_numberOfTrailingZeros_0f7a4_48 : decode cJ6_numberOfTrailingZeros_0f7a4 48 = .ok (.istore_n 0, 1) := by decide +kernel
theorem dJ6_numberOfTrailingZeros_0f7a4_49 : decode cJ6_numberOfTrailingZeros_0f7a4 49 = .ok (.iload_n 0, 1) := by decide +kernel
theorem dJ6_numberOfTrailingZeros_0f7a4_50 : decode cJ6_numberOfTrailingZeros_0f7a4 50 = .ok (.bipush 16, 2) := by decide +kernel
theorem dJ6_numberOfTrailingZeros_0f7a4_52 : decode cJ6_numberOfTrailingZeros_0f7a4 52 = .ok (.if_icmp .le 10, 3) := by decide +kernel
theorem dJ6_numberOfTrailingZeros_0f7a4_55 : decode cJ6_numberOfTrailingZeros_0f7a4 55 = .ok (.iinc 1 4, 3) := by decide +kernel
theorem dJ6_numberOfTrailingZeros_0f7a4_58 : decode cJ6_numberOfTrailingZeros_0f7a4 58 = .ok (.iload_n 0, 1) := by decide +kernel
theorem dJ6_numberOfTrailingZeros_0f7a4_59 : decode cJ6_numberOfTrailingZeros_0f7a4 59 = .ok (.iconst 4, 1) := by decide +kernel
theorem dJ6_numberOfTrailingZeros_0f7a4_60 : decode cJ6_numberOfTrailingZeros_0f7a4 60 = .ok (.iushr, 1) := by decide +kernel
theorem dJ6_numberOfTrailingZeros_0f7a4_61 : decode cJ6_numberOfTrailingZeros_0f7a4 61 = .ok (.istore_n 0, 1) := by decide +kernel
theorem dJ6_numberOfTrailingZeros_0f7a4_62 : decode cJ6_numberOfTrailingZeros_0f7a4 62 = .ok (.iload_n 0, 1) := by decide +kernel
theorem dJ6_numberOfTrailingZeros_0f7a4_63 : decode cJ6_numberOfTrailingZeros_0f7a4 63 = .ok (.iconst 4, 1) := by decide +kernel
theorem dJ6_numberOfTrailingZeros_0f7a4_64 : decode cJ6_numberOfTrailingZeros_0f7a4 64 = .ok (.if_icmp .le 10, 3) := by decide +kernel
theorem dJ6_numberOfTrailingZeros_0f7a4_67 : decode cJ6_numberOfTrailingZeros_0f7a4 67 = .ok (.iinc 1 2, 3) := by decide +kernel
theorem dJ6_numberOfTrailingZeros_0f7a4_70 : decode cJ6_numberOfTrailingZeros_0f7a4 70 = .ok (.iload_n 0, 1) := by decide +kernel
theorem dJ6_numberOfTrailingZeros_0f7a4_71 : decode cJ6_numberOfTrailingZeros_0f7a4 71 = .ok (.iconst 2, 1) := by decide +kernel
theorem dJ6_numberOfTrailingZeros_0f7a4_72 : decode cJ6_numberOfTrailingZeros_0f7a4 72 = .ok (.iushr, 1) := by decide +kernel
theorem dJ6_numberOfTrailingZeros_0f7a4_73 : decode cJ6_numberOfTrailingZeros_0f7a4 73 = .ok (.istore_n 0, 1) := by decide +kernel
theorem dJ6_numberOfTrailingZeros_0f7a4_74 : decode cJ6_numberOfTrailingZeros_0f7a4 74 = .ok (.iload_n 1, 1) := by decide +kernel
theorem dJ6_numberOfTrailingZeros_0f7a4_75 : decode cJ6_numberOfTrailingZeros_0f7a4 75 = .ok (.iload_n 0, 1) := by decide +kernel
theorem dJ6_numberOfTrailingZeros_0f7a4_76 : decode cJ6_numberOfTrailingZeros_0f7a4 76 = .ok (.iconst 1, 1) := by decide +kernel
theorem dJ6_numberOfTrailingZeros_0f7a4_77 : decode cJ6_numberOfTrailingZeros_0f7a4 77 = .ok (.iushr, 1) := by decide +kernel
theorem dJ6_numberOfTrailingZeros_0f7a4_78 : decode cJ6_numberOfTrailingZeros_0f7a4 78 = .ok (.iadd, 1) := by decide +kernel
theorem dJ6_numberOfTrailingZeros_0f7a4_79 : decode cJ6_numberOfTrailingZeros_0f7a4 79 = .ok (.ireturn, 1) := by decide +kernel
theorem dJ6_bitCount_0f7a4_0 : decode cJ6_bitCount_0f7a4 0 = .ok (.iload_n 0, 1) := by decide +kernel
theorem dJ6_bitCount_0f7a4_1 : decode cJ6_bitCount_0f7a4 1 = .ok (.iload_n 0, 1) := by decide +kernel
theorem dJ6_bitCount_0f7a4_2 : decode cJ6_bitCount_0f7a4 2 = .ok (.iconst 1, 1) := by decide +kernel
theorem dJ6_bitCount_0f7a4_3 : decode cJ6_bitCount_0f7a4 3 = .ok (.iushr, 1) := by decide +kernel
theorem dJ6_bitCount_0f7a4_4 : decode cJ6_bitCount_0f7a4 4 = .ok (.ldc_w 265, 3) := by decide +kernel
theorem dJ6_bitCount_0f7a4_7 : decode cJ6_bitCount_0f7a4 7 = .ok (.iand, 1) := by decide +kernel
theorem dJ6_bitCount_0f7a4_8 : decode cJ6_bitCount_0f7a4 8 = .ok (.isub, 1) := by decide +kernel
theorem dJ6_bitCount_0f7a4_9 : decode cJ6_bitCount_0f7a4 9 = .ok (.istore_n 0, 1) := by decide +kernel
theorem dJ6_bitCount_0f7a4_10 : decode cJ6_bitCount_0f7a4 10 = .ok (.iload_n 0, 1) := by decide +kernel
theorem dJ6_bitCount_0f7a4_11 : decode cJ6_bitCount_0f7a4 11 = .ok (.ldc_w 266, 3) := by decide +kernel
theorem dJ6_bitCount_0f7a4_14 : decode cJ6_bitCount_0f7a4 14 = .ok (.iand, 1) := by decide +kernel
theorem dJ6_bitCount_0f7a4_15 : decode cJ6_bitCount_0f7a4 15 = .ok (.iload_n 0, 1) := by decide +kernel
theorem dJ6_bitCount_0f7a4_16 : decode cJ6_bitCount_0f7a4 16 = .ok (.iconst 2, 1) := by decide +kernel
theorem dJ6_bitCount_0f7a4_17 : decode cJ6_bitCount_0f7a4 17 = .ok (.iushr, 1) := by decide +kernel
theorem dJ6_bitCount_0f7a4_18 : decode cJ6_bitCount_0f7a4 18 = .ok (.ldc_w 266, 3) := by decide +kernel
theorem dJ6_bitCount_0f7a4_21 : decode cJ6_bitCount_0f7a4 21 = .ok (.iand, 1) := by decide +kernel
theorem dJ6_bitCount_0f7a4_22 : decode cJ6_bitCount_0f7a4 22 = .ok (.iadd, 1) := by decide +kernel
theorem dJ6_bitCount_0f7a4_23 : decode cJ6_bitCount_0f7a4 23 = .ok (.istore_n 0, 1) := by decide +kernel
theorem dJ6_bitCount_0f7a4_24 : decode cJ6_bitCount_0f7a4 24 = .ok (.iload_n 0, 1) := by decide +kernel
theorem dJ6_bitCount_0f7a4_25 : decode cJ6_bitCount_0f7a4 25 = .ok (.iload_n 0, 1) := by decide +kernel
theorem dJ6_bitCount_0f7a4_26 : decode cJ6_bitCount_0f7a4 26 = .ok (.iconst 4, 1) := by decide +kernel
theorem dJ6_bitCount_0f7a4_27 : decode cJ6_bitCount_0f7a4 27 = .ok (.iushr, 1) := by decide +kernel
theorem dJ6_bitCount_0f7a4_28 : decode cJ6_bitCount_0f7a4 28 = .ok (.iadd, 1) := by decide +kernel
theorem dJ6_bitCount_0f7a4_29 : decode cJ6_bitCount_0f7a4 29 = .ok (.ldc_w 267, 3) := by decide +kernel
theorem dJ6_bitCount_0f7a4_32 : decode cJ6_bitCount_0f7a4 32 = .ok (.iand, 1) := by decide +kernel
theorem dJ6_bitCount_0f7a4_33 : decode cJ6_bitCount_0f7a4 33 = .ok (.istore_n 0, 1) := by decide +kernel
theorem dJ6_bitCount_0f7a4_34 : decode cJ6_bitCount_0f7a4 34 = .ok (.iload_n 0, 1) := by decide +kernel
theorem dJ6_bitCount_0f7a4_35 : decode cJ6_bitCount_0f7a4 35 = .ok (.iload_n 0, 1) := by decide +kernel
theorem dJ6_bitCount_0f7a4_36 : decode cJ6_bitCount_0f7a4 36 = .ok (.bipush 8, 2) := by decide +kernel
theorem dJ6_bitCount_0f7a4_38 : decode cJ6_bitCount_0f7a4 38 = .ok (.iushr, 1) := by decide +kernel
theorem dJ6_bitCount_0f7a4_39 : decode cJ6_bitCount_0f7a4 39 = .ok (.iadd, 1) := by decide +kernel
theorem dJ6_bitCount_0f7a4_40 : decode cJ6_bitCount_0f7a4 40 = .ok (.istore_n 0, 1) := by decide +kernel
theorem dJ6_bitCount_0f7a4_41 : decode cJ6_bitCount_0f7a4 41 = .ok (.iload_n 0, 1) := by decide +kernel
theorem dJ6_bitCount_0f7a4_42 : decode cJ6_bitCount_0f7a4 42 = .ok (.iload_n 0, 1) := by decide +kernel
theorem dJ6_bitCount_0f7a4_43 : decode cJ6_bitCount_0f7a4 43 = .ok (.bipush 16, 2) := by decide +kernel
theorem dJ6_bitCount_0f7a4_45 : decode cJ6_bitCount_0f7a4 45 = .ok (.iushr, 1) := by decide +kernel
theorem dJ6_bitCount_0f7a4_46 : decode cJ6_bitCount_0f7a4 46 = .ok (.iadd, 1) := by decide +kernel
theorem dJ6_bitCount_0f7a4_47 : decode cJ6_bitCount_0f7a4 47 = .ok (.istore_n 0, 1) := by decide +kernel
theorem dJ6_bitCount_0f7a4_48 : decode cJ6_bitCount_0f7a4 48 = .ok (.iload_n 0, 1) := by decide +kernel
theorem dJ6_bitCount_0f7a4_49 : decode cJ6_bitCount_0f7a4 49 = .ok (.bipush 63, 2) := by decide +kernel
theorem dJ6_bitCount_0f7a4_51 : decode cJ6_bitCount_0f7a4 51 = .ok (.iand, 1) := by decide +kernel
theorem dJ6_bitCount_0f7a4_52 : decode cJ6_bitCount_0f7a4 52 = .ok (.ireturn, 1) := by decide +kernel
theorem dJ13_bitCount_95d88_0 : decode cJ13_bitCount_95d88 0 = .ok (.lload_n 0, 1) := by decide +kernel
theorem dJ13_bitCount_95d88_1 : decode cJ13_bitCount_95d88 1 = .ok (.lload_n 0, 1) := by decide +kernel
theorem dJ13_bitCount_95d88_2 : decode cJ13_bitCount_95d88 2 = .ok (.iconst 1, 1) := by decide +kernel
theorem dJ13_bitCount_95d88_3 : decode cJ13_bitCount_95d88 3 = .ok (.lushr, 1) := by decide +kernel
theorem dJ13_bitCount_95d88_4 : decode cJ13_bitCount_95d88 4 = .ok (.ldc2_w 314, 3) := by decide +kernel
theorem dJ13_bitCount_95d88_7 : decode cJ13_bitCount_95d88 7 = .ok (.land, 1) := by decide +kernel
theorem dJ13_bitCount_95d88_8 : decode cJ13_bitCount_95d88 8 = .ok (.lsub, 1) := by decide +kernel
theorem dJ13_bitCount_95d88_9 : decode cJ13_bitCount_95d88 9 = .ok (.lstore_n 0, 1) := by decide +kernel
theorem dJ13_bitCount_95d88_10 : decode cJ13_bitCount_95d88 10 = .ok (.lload_n 0, 1) := by decide +kernel
theorem dJ13_bitCount_95d88_11 : decode cJ13_bitCount_95d88 11 = .ok (.ldc2_w 316, 3) := by decide +kernel
theorem dJ13_bitCount_95d88_14 : decode cJ13_bitCount_95d88 14 = .ok (.land, 1) := by decide +kernel
theorem dJ13_bitCount_95d88_15 : decode cJ13_bitCount_95d88 15 = .ok (.lload_n 0, 1) := by decide +kernel
theorem dJ13_bitCount_95d88_16 : decode cJ13_bitCount_95d88 16 = .ok (.iconst 2, 1) := by decide +kernel
theorem dJ13_bitCount_95d88_17 : decode cJ13_bitCount_95d88 17 = .ok (.lushr, 1) := by decide +kernel
theorem dJ13_bitCount_95d88_18 : decode cJ13_bitCount_95d88 18 = .ok (.ldc2_w 316, 3) := by decide +kernel
theorem dJ13_bitCount_95d88_21 : decode cJ13_bitCount_95d88 21 = .ok (.land, 1) := by decide +kernel
theorem dJ13_bitCount_95d88_22 : decode cJ13_bitCount_95d88 22 = .ok (.ladd, 1) := by decide +kernel
theorem dJ13_bitCount_95d88_23 : decode cJ13_bitCount_95d88 23 = .ok (.lstore_n 0, 1) := by decide +kernel
theorem dJ13_bitCount_95d88_24 : decode cJ13_bitCount_95d88 24 = .ok (.lload_n 0, 1) := by decide +kernel
theorem dJ13_bitCount_95d88_25 : decode cJ13_bitCount_95d88 25 = .ok (.lload_n 0, 1) := by decide +kernel
theorem dJ13_bitCount_95d88_26 : decode cJ13_bitCount_95d88 26 = .ok (.iconst 4, 1) := by decide +kernel
theorem dJ13_bitCount_95d88_27 : decode cJ13_bitCount_95d88 27 = .ok (.lushr, 1) := by decide +kernel
theorem dJ13_bitCount_95d88_28 : decode cJ13_bitCount_95d88 28 = .ok (.ladd, 1) := by decide +kernel
theorem dJ13_bitCount_95d88_29 : decode cJ13_bitCount_95d88 29 = .ok (.ldc2_w 318, 3) := by decide +kernel
theorem dJ13_bitCount_95d88_32 : decode cJ13_bitCount_95d88 32 = .ok (.land, 1) := by decide +kernel
theorem dJ13_bitCount_95d88_33 : decode cJ13_bitCount_95d88 33 = .ok (.lstore_n 0, 1) := by decide +kernel
theorem dJ13_bitCount_95d88_34 : decode cJ13_bitCount_95d88 34 = .ok (.lload_n 0, 1) := by decide +kernel
theorem dJ13_bitCount_95d88_35 : decode cJ13_bitCount_95d88 35 = .ok (.lload_n 0, 1) := by decide +kernel
theorem dJ13_bitCount_95d88_36 : decode cJ13_bitCount_95d88 36 = .ok (.bipush 8, 2) := by decide +kernel
theorem dJ13_bitCount_95d88_38 : decode cJ13_bitCount_95d88 38 = .ok (.lushr, 1) := by decide +kernel
theorem dJ13_bitCount_95d88_39 : decode cJ13_bitCount_95d88 39 = .ok (.ladd, 1) := by decide +kernel
theorem dJ13_bitCount_95d88_40 : decode cJ13_bitCount_95d88 40 = .ok (.lstore_n 0, 1) := by decide +kernel
theorem dJ13_bitCount_95d88_41 : decode cJ13_bitCount_95d88 41 = .ok (.lload_n 0, 1) := by decide +kernel
theorem dJ13_bitCount_95d88_42 : decode cJ13_bitCount_95d88 42 = .ok (.lload_n 0, 1) := by decide +kernel
theorem dJ13_bitCount_95d88_43 : decode cJ13_bitCount_95d88 43 = .ok (.bipush 16, 2) := by decide +kernel
theorem dJ13_bitCount_95d88_45 : decode cJ13_bitCount_95d88 45 = .ok (.lushr, 1) := by decide +kernel
theorem dJ13_bitCount_95d88_46 : decode cJ13_bitCount_95d88 46 = .ok (.ladd, 1) := by decide +kernel
theorem dJ13_bitCount_95d88_47 : decode cJ13_bitCount_95d88 47 = .ok (.lstore_n 0, 1) := by decide +kernel
theorem dJ13_bitCount_95d88_48 : decode cJ13_bitCount_95d88 48 = .ok (.lload_n 0, 1) := by decide +kernel
theorem dJ13_bitCount_95d88_49 : decode cJ13_bitCount_95d88 49 = .ok (.lload_n 0, 1) := by decide +kernel
theorem dJ13_bitCount_95d88_50 : decode cJ13_bitCount_95d88 50 = .ok (.bipush 32, 2) := by decide +kernel
theorem dJ13_bitCount_95d88_52 : decode cJ13_bitCount_95d88 52 = .ok (.lushr, 1) := by decide +kernel
theorem dJ13_bitCount_95d88_53 : decode cJ13_bitCount_95d88 53 = .ok (.ladd, 1) := by decide +kernel
theorem dJ13_bitCount_95d88_54 : decode cJ13_bitCount_95d88 54 = .ok (.lstore_n 0, 1) := by decide +kernel
theorem dJ13_bitCount_95d88_55 : decode cJ13_bitCount_95d88 55 = .ok (.lload_n 0, 1) := by decide +kernel
theorem dJ13_bitCount_95d88_56 : decode cJ13_bitCount_95d88 56 = .ok (.l2i, 1) := by decide +kernel
theorem dJ13_bitCount_95d88_57 : decode cJ13_bitCount_95d88 57 = .ok (.bipush 127, 2) := by decide +kernel
theorem dJ13_bitCount_95d88_59 : decode cJ13_bitCount_95d88 59 = .ok (.iand, 1) := by decide +kernel
theorem dJ13_bitCount_95d88_60 : decode cJ13_bitCount_95d88 60 = .ok (.ireturn, 1) := by decide +kernel
theorem dJ9_max_7cf53_0 : decode cJ9_max_7cf53 0 = .ok (.iload_n 0, 1) := by decide +kernel
