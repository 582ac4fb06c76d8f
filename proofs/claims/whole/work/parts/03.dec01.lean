theorem dX0_init_0 : decode cX0_init 0 = .ok (.aload_n 0, 1) := by decide +kernel
theorem dX0_init_1 : decode cX0_init 1 = .ok (.invokespecial 1, 3) := by decide +kernel
theorem dX0_init_4 : decode cX0_init 4 = .ok (.aload_n 0, 1) := by decide +kernel
theorem dX0_init_5 : decode cX0_init 5 = .ok (.bipush 12, 2) := by decide +kernel
theorem dX0_init_7 : decode cX0_init 7 = .ok (.newarray .long, 2) := by decide +kernel
theorem dX0_init_9 : decode cX0_init 9 = .ok (.putfield 9, 3) := by decide +kernel
theorem dX0_init_12 : decode cX0_init 12 = .ok (.aload_n 0, 1) := by decide +kernel
theorem dX0_init_13 : decode cX0_init 13 = .ok (.iconst 0, 1) := by decide +kernel
theorem dX0_init_14 : decode cX0_init 14 = .ok (.putfield 13, 3) := by decide +kernel
theorem dX0_init_17 : decode cX0_init 17 = .ok (.return_, 1) := by decide +kernel
theorem dX0_push_0 : decode cX0_push 0 = .ok (.aload_n 0, 1) := by decide +kernel
theorem dX0_push_1 : decode cX0_push 1 = .ok (.getfield 13, 3) := by decide +kernel
theorem dX0_push_4 : decode cX0_push 4 = .ok (.bipush 12, 2) := by decide +kernel
theorem dX0_push_6 : decode cX0_push 6 = .ok (.if_icmp .ne 24, 3) := by decide +kernel
theorem dX0_push_9 : decode cX0_push 9 = .ok (.aload_n 0, 1) := by decide +kernel
theorem dX0_push_10 : decode cX0_push 10 = .ok (.getfield 9, 3) := by decide +kernel
theorem dX0_push_13 : decode cX0_push 13 = .ok (.iconst 1, 1) := by decide +kernel
theorem dX0_push_14 : decode cX0_push 14 = .ok (.aload_n 0, 1) := by decide +kernel
theorem dX0_push_15 : decode cX0_push 15 = .ok (.getfield 9, 3) := by decide +kernel
theorem dX0_push_18 : decode cX0_push 18 = .ok (.iconst 0, 1) := by decide +kernel
theorem dX0_push_19 : decode cX0_push 19 = .ok (.bipush 11, 2) := by decide +kernel
theorem dX0_push_21 : decode cX0_push 21 = .ok (.invokestatic 17, 3) := by decide +kernel
theorem dX0_push_24 : decode cX0_push 24 = .ok (.aload_n 0, 1) := by decide +kernel
theorem dX0_push_25 : decode cX0_push 25 = .ok (.bipush 11, 2) := by decide +kernel
theorem dX0_push_27 : decode cX0_push 27 = .ok (.putfield 13, 3) := by decide +kernel
theorem dX0_push_30 : decode cX0_push 30 = .ok (.aload_n 0, 1) := by decide +kernel
theorem dX0_push_31 : decode cX0_push 31 = .ok (.getfield 9, 3) := by decide +kernel
theorem dX0_push_34 : decode cX0_push 34 = .ok (.aload_n 0, 1) := by decide +kernel
theorem dX0_push_35 : decode cX0_push 35 = .ok (.getfield 13, 3) := by decide +kernel
theorem dX0_push_38 : decode cX0_push 38 = .ok (.lload_n 1, 1) := by decide +kernel
theorem dX0_push_39 : decode cX0_push 39 = .ok (.lastore, 1) := by decide +kernel
theorem dX0_push_40 : decode cX0_push 40 = .ok (.aload_n 0, 1) := by decide +kernel
theorem dX0_push_41 : decode cX0_push 41 = .ok (.dup, 1) := by decide +kernel
theorem dX0_push_42 : decode cX0_push 42 = .ok (.getfield 13, 3) := by decide +kernel
theorem dX0_push_45 : decode cX0_push 45 = .ok (.iconst 1, 1) := by decide +kernel
theorem dX0_push_46 : decode cX0_push 46 = .ok (.iadd, 1) := by decide +kernel
theorem dX0_push_47 : decode cX0_push 47 = .ok (.putfield 13, 3) := by decide +kernel
theorem dX0_push_50 : decode cX0_push 50 = .ok (.return_, 1) := by decide +kernel
theorem dX0_pop_0 : decode cX0_pop 0 = .ok (.aload_n 0, 1) := by decide +kernel
theorem dX0_pop_1 : decode cX0_pop 1 = .ok (.getfield 13, 3) := by decide +kernel
theorem dX0_pop_4 : decode cX0_pop 4 = .ok (.ifCond .ne 5, 3) := by decide +kernel
theorem dX0_pop_7 : decode cX0_pop 7 = .ok (.lconst 0, 1) := by decide +kernel
theorem dX0_pop_8 : decode cX0_pop 8 = .ok (.lreturn, 1) := by decide +kernel
theorem dX0_pop_9 : decode cX0_pop 9 = .ok (.aload_n 0, 1) := by decide +kernel
theorem dX0_pop_10 : decode cX0_pop 10 = .ok (.dup, 1) := by decide +kernel
theorem dX0_pop_11 : decode cX0_pop 11 = .ok (.getfield 13, 3) := by decide +kernel
theorem dX0_pop_14 : decode cX0_pop 14 = .ok (.iconst 1, 1) := by decide +kernel
theorem dX0_pop_15 : decode cX0_pop 15 = .ok (.isub, 1) := by decide +kernel
theorem dX0_pop_16 : decode cX0_pop 16 = .ok (.putfield 13, 3) := by decide +kernel
theorem dX0_pop_19 : decode cX0_pop 19 = .ok (.aload_n 0, 1) := by decide +kernel
theorem dX0_pop_20 : decode cX0_pop 20 = .ok (.getfield 9, 3) := by decide +kernel
theorem dX0_pop_23 : decode cX0_pop 23 = .ok (.aload_n 0, 1) := by decide +kernel
theorem dX0_pop_24 : decode cX0_pop 24 = .ok (.getfield 13, 3) := by decide +kernel
theorem dX0_pop_27 : decode cX0_pop 27 = .ok (.laload, 1) := by decide +kernel
theorem dX0_pop_28 : decode cX0_pop 28 = .ok (.lreturn, 1) := by decide +kernel
theorem dX1_init_0 : decode cX1_init 0 = .ok (.aload_n 0, 1) := by decide +kernel
theorem dX1_init_1 : decode cX1_init 1 = .ok (.invokespecial 3, 3) := by decide +kernel
theorem dX1_init_4 : decode cX1_init 4 = .ok (.aload_n 0, 1) := by decide +kernel
theorem dX1_init_5 : decode cX1_init 5 = .ok (.iconst 4, 1) := by decide +kernel
theorem dX1_init_6 : decode cX1_init 6 = .ok (.putfield 9, 3) := by decide +kernel
theorem dX1_init_9 : decode cX1_init 9 = .ok (.aload_n 0, 1) := by decide +kernel
theorem dX1_init_10 : decode cX1_init 10 = .ok (.lconst 0, 1) := by decide +kernel
theorem dX1_init_11 : decode cX1_init 11 = .ok (.putfield 15, 3) := by decide +kernel
theorem dX1_init_14 : decode cX1_init 14 = .ok (.aload_n 0, 1) := by decide +kernel
theorem dX1_init_15 : decode cX1_init 15 = .ok (.new 19, 3) := by decide +kernel
theorem dX1_init_18 : decode cX1_init 18 = .ok (.dup, 1) := by decide +kernel
theorem dX1_init_19 : decode cX1_init 19 = .ok (.bipush 7, 2) := by decide +kernel
theorem dX1_init_21 : decode cX1_init 21 = .ok (.invokespecial 21, 3) := by decide +kernel
theorem dX1_init_24 : decode cX1_init 24 = .ok (.putfield 24, 3) := by decide +kernel
theorem dX1_init_27 : decode cX1_init 27 = .ok (.return_, 1) := by decide +kernel
theorem dX1_edgeBits_0 : decode cX1_edgeBits 0 = .ok (.lconst 1, 1) := by decide +kernel
theorem dX1_edgeBits_1 : decode cX1_edgeBits 1 = .ok (.bipush 7, 2) := by decide +kernel
theorem dX1_edgeBits_3 : decode cX1_edgeBits 3 = .ok (.iload_n 0, 1) := by decide +kernel
theorem dX1_edgeBits_4 : decode cX1_edgeBits 4 = .ok (.imul, 1) := by decide +kernel
theorem dX1_edgeBits_5 : decode cX1_edgeBits 5 = .ok (.iload_n 1, 1) := by decide +kernel
theorem dX1_edgeBits_6 : decode cX1_edgeBits 6 = .ok (.iadd, 1) := by decide +kernel
theorem dX1_edgeBits_7 : decode cX1_edgeBits 7 = .ok (.lshl, 1) := by decide +kernel
theorem dX1_edgeBits_8 : decode cX1_edgeBits 8 = .ok (.lconst 1, 1) := by decide +kernel
theorem dX1_edgeBits_9 : decode cX1_edgeBits 9 = .ok (.bipush 7, 2) := by decide +kernel
theorem dX1_edgeBits_11 : decode cX1_edgeBits 11 = .ok (.iload_n 1, 1) := by decide +kernel
theorem dX1_edgeBits_12 : decode cX1_edgeBits 12 = .ok (.imul, 1) := by decide +kernel
theorem dX1_edgeBits_13 : decode cX1_edgeBits 13 = .ok (.iload_n 0, 1) := by decide +kernel
theorem dX1_edgeBits_14 : decode cX1_edgeBits 14 = .ok (.iadd, 1) := by decide +kernel
theorem dX1_edgeBits_15 : decode cX1_edgeBits 15 = .ok (.lshl, 1) := by decide +kernel
theorem dX1_edgeBits_16 : decode cX1_edgeBits 16 = .ok (.lor, 1) := by decide +kernel
theorem dX1_edgeBits_17 : decode cX1_edgeBits 17 = .ok (.lreturn, 1) := by decide +kernel
theorem dX1_neighborsIn_0 : decode cX1_neighborsIn 0 = .ok (.lload_n 0, 1) := by decide +kernel
theorem dX1_neighborsIn_1 : decode cX1_neighborsIn 1 = .ok (.bipush 7, 2) := by decide +kernel
theorem dX1_neighborsIn_3 : decode cX1_neighborsIn 3 = .ok (.iload_n 2, 1) := by decide +kernel
theorem dX1_neighborsIn_4 : decode cX1_neighborsIn 4 = .ok (.imul, 1) := by decide +kernel
theorem dX1_neighborsIn_5 : decode cX1_neighborsIn 5 = .ok (.lushr, 1) := by decide +kernel
theorem dX1_neighborsIn_6 : decode cX1_neighborsIn 6 = .ok (.l2i, 1) := by decide +kernel
theorem dX1_neighborsIn_7 : decode cX1_neighborsIn 7 = .ok (.bipush 127, 2) := by decide +kernel
theorem dX1_neighborsIn_9 : decode cX1_neighborsIn 9 = .ok (.iand, 1) := by decide +kernel
theorem dX1_neighborsIn_10 : decode cX1_neighborsIn 10 = .ok (.ireturn, 1) := by decide +kernel
theorem dX1_allVertices_0 : decode cX1_allVertices 0 = .ok (.iconst 1, 1) := by decide +kernel
theorem dX1_allVertices_1 : decode cX1_allVertices 1 = .ok (.aload_n 0, 1) := by decide +kernel
theorem dX1_allVertices_2 : decode cX1_allVertices 2 = .ok (.getfield 9, 3) := by decide +kernel
theorem dX1_allVertices_5 : decode cX1_allVertices 5 = .ok (.ishl, 1) := by decide +kernel
theorem dX1_allVertices_6 : decode cX1_allVertices 6 = .ok (.iconst 1, 1) := by decide +kernel
theorem dX1_allVertices_7 : decode cX1_allVertices 7 = .ok (.isub, 1) := by decide +kernel
theorem dX1_allVertices_8 : decode cX1_allVertices 8 = .ok (.ireturn, 1) := by decide +kernel
theorem dX1_greatestCode_0 : decode cX1_greatestCode 0 = .ok (.iconst 1, 1) := by decide +kernel
theorem dX1_greatestCode_1 : decode cX1_greatestCode 1 = .ok (.iconst 2, 1) := by decide +kernel
theorem dX1_greatestCode_2 : decode cX1_greatestCode 2 = .ok (.aload_n 0, 1) := by decide +kernel
theorem dX1_greatestCode_3 : decode cX1_greatestCode 3 = .ok (.getfield 9, 3) := by decide +kernel
theorem dX1_greatestCode_6 : decode cX1_greatestCode 6 = .ok (.imul, 1) := by decide +kernel
theorem dX1_greatestCode_7 : decode cX1_greatestCode 7 = .ok (.ishl, 1) := by decide +kernel
theorem dX1_greatestCode_8 : decode cX1_greatestCode 8 = .ok (.iconst 1, 1) := by decide +kernel
theorem dX1_greatestCode_9 : decode cX1_greatestCode 9 = .ok (.isub, 1) := by decide +kernel
theorem dX1_greatestCode_10 : decode cX1_greatestCode 10 = .ok (.ireturn, 1) := by decide +kernel
theorem dX1_edgeTotal_0 : decode cX1_edgeTotal 0 = .ok (.aload_n 0, 1) := by decide +kernel
theorem dX1_edgeTotal_1 : decode cX1_edgeTotal 1 = .ok (.getfield 15, 3) := by decide +kernel
theorem dX1_edgeTotal_4 : decode cX1_edgeTotal 4 = .ok (.invokestatic 28, 3) := by decide +kernel
theorem dX1_edgeTotal_7 : decode cX1_edgeTotal 7 = .ok (.iconst 2, 1) := by decide +kernel
theorem dX1_edgeTotal_8 : decode cX1_edgeTotal 8 = .ok (.idiv, 1) := by decide +kernel
theorem dX1_edgeTotal_9 : decode cX1_edgeTotal 9 = .ok (.ireturn, 1) := by decide +kernel
theorem dX1_matrixOfKind_0 : decode cX1_matrixOfKind 0 = .ok (.iload_n 1, 1) := by decide +kernel
theorem dX1_matrixOfKind_1 : decode cX1_matrixOfKind 1 = .ok (.tableswitch 80 1 5 #[35, 51, 56, 61, 66], 35) := by decide +kernel
theorem dX1_matrixOfKind_36 : decode cX1_matrixOfKind 36 = .ok (.aload_n 0, 1) := by decide +kernel
theorem dX1_matrixOfKind_37 : decode cX1_matrixOfKind 37 = .ok (.invokevirtual 34, 3) := by decide +kernel
theorem dX1_matrixOfKind_40 : decode cX1_matrixOfKind 40 = .ok (.iconst 0, 1) := by decide +kernel
theorem dX1_matrixOfKind_41 : decode cX1_matrixOfKind 41 = .ok (.aload_n 0, 1) := by decide +kernel
theorem dX1_matrixOfKind_42 : decode cX1_matrixOfKind 42 = .ok (.getfield 9, 3) := by decide +kernel
theorem dX1_matrixOfKind_45 : decode cX1_matrixOfKind 45 = .ok (.iconst 1, 1) := by decide +kernel
theorem dX1_matrixOfKind_46 : decode cX1_matrixOfKind 46 = .ok (.isub, 1) := by decide +kernel
theorem dX1_matrixOfKind_47 : decode cX1_matrixOfKind 47 = .ok (.invokestatic 38, 3) := by decide +kernel
theorem dX1_matrixOfKind_50 : decode cX1_matrixOfKind 50 = .ok (.lor, 1) := by decide +kernel
theorem dX1_matrixOfKind_51 : decode cX1_matrixOfKind 51 = .ok (.lreturn, 1) := by decide +kernel
theorem dX1_matrixOfKind_52 : decode cX1_matrixOfKind 52 = .ok (.aload_n 0, 1) := by decide +kernel
theorem dX1_matrixOfKind_53 : decode cX1_matrixOfKind 53 = .ok (.invokevirtual 34, 3) := by decide +kernel
theorem dX1_matrixOfKind_56 : decode cX1_matrixOfKind 56 = .ok (.lreturn, 1) := by decide +kernel
theorem dX1_matrixOfKind_57 : decode cX1_matrixOfKind 57 = .ok (.aload_n 0, 1) := by decide +kernel
theorem dX1_matrixOfKind_58 : decode cX1_matrixOfKind 58 = .ok (.invokevirtual 42, 3) := by decide +kernel
theorem dX1_matrixOfKind_61 : decode cX1_matrixOfKind 61 = .ok (.lreturn, 1) := by decide +kernel
theorem dX1_matrixOfKind_62 : decode cX1_matrixOfKind 62 = .ok (.aload_n 0, 1) := by decide +kernel
theorem dX1_matrixOfKind_63 : decode cX1_matrixOfKind 63 = .ok (.invokevirtual 45, 3) := by decide +kernel
theorem dX1_matrixOfKind_66 : decode cX1_matrixOfKind 66 = .ok (.lreturn, 1) := by decide +kernel
theorem dX1_matrixOfKind_67 : decode cX1_matrixOfKind 67 = .ok (.aload_n 0, 1) := by decide +kernel
theorem dX1_matrixOfKind_68 : decode cX1_matrixOfKind 68 = .ok (.invokevirtual 42, 3) := by decide +kernel
theorem dX1_matrixOfKind_71 : decode cX1_matrixOfKind 71 = .ok (.aload_n 0, 1) := by decide +kernel
theorem dX1_matrixOfKind_72 : decode cX1_matrixOfKind 72 = .ok (.getfield 15, 3) := by decide +kernel
theorem dX1_matrixOfKind_75 : decode cX1_matrixOfKind 75 = .ok (.ldc2_w 48, 3) := by decide +kernel
theorem dX1_matrixOfKind_78 : decode cX1_matrixOfKind 78 = .ok (.lxor, 1) := by decide +kernel
theorem dX1_matrixOfKind_79 : decode cX1_matrixOfKind 79 = .ok (.land, 1) := by decide +kernel
theorem dX1_matrixOfKind_80 : decode cX1_matrixOfKind 80 = .ok (.lreturn, 1) := by decide +kernel
theorem dX1_matrixOfKind_81 : decode cX1_matrixOfKind 81 = .ok (.lconst 0, 1) := by decide +kernel
theorem dX1_matrixOfKind_82 : decode cX1_matrixOfKind 82 = .ok (.lreturn, 1) := by decide +kernel
theorem dX1_pathMatrix_0 : decode cX1_pathMatrix 0 = .ok (.lconst 0, 1) := by decide +kernel
theorem dX1_pathMatrix_1 : decode cX1_pathMatrix 1 = .ok (.lstore_n 1, 1) := by decide +kernel
theorem dX1_pathMatrix_2 : decode cX1_pathMatrix 2 = .ok (.iconst 1, 1) := by decide +kernel
theorem dX1_pathMatrix_3 : decode cX1_pathMatrix 3 = .ok (.istore_n 3, 1) := by decide +kernel
theorem dX1_pathMatrix_4 : decode cX1_pathMatrix 4 = .ok (.iload_n 3, 1) := by decide +kernel
theorem dX1_pathMatrix_5 : decode cX1_pathMatrix 5 = .ok (.aload_n 0, 1) := by decide +kernel
theorem dX1_pathMatrix_6 : decode cX1_pathMatrix 6 = .ok (.getfield 9, 3) := by decide +kernel
theorem dX1_pathMatrix_9 : decode cX1_pathMatrix 9 = .ok (.if_icmp .ge 19, 3) := by decide +kernel
theorem dX1_pathMatrix_12 : decode cX1_pathMatrix 12 = .ok (.lload_n 1, 1) := by decide +kernel
theorem dX1_pathMatrix_13 : decode cX1_pathMatrix 13 = .ok (.iload_n 3, 1) := by decide +kernel
theorem dX1_pathMatrix_14 : decode cX1_pathMatrix 14 = .ok (.iconst 1, 1) := by decide +kernel
theorem dX1_pathMatrix_15 : decode cX1_pathMatrix 15 = .ok (.isub, 1) := by decide +kernel
theorem dX1_pathMatrix_16 : decode cX1_pathMatrix 16 = .ok (.iload_n 3, 1) := by decide +kernel
theorem dX1_pathMatrix_17 : decode cX1_pathMatrix 17 = .ok (.invokestatic 38, 3) := by decide +kernel
theorem dX1_pathMatrix_20 : decode cX1_pathMatrix 20 = .ok (.lor, 1) := by decide +kernel
theorem dX1_pathMatrix_21 : decode cX1_pathMatrix 21 = .ok (.lstore_n 1, 1) := by decide +kernel
theorem dX1_pathMatrix_22 : decode cX1_pathMatrix 22 = .ok (.iinc 3 1, 3) := by decide +kernel
theorem dX1_pathMatrix_25 : decode cX1_pathMatrix 25 = .ok (.goto (-21), 3) := by decide +kernel
theorem dX1_pathMatrix_28 : decode cX1_pathMatrix 28 = .ok (.lload_n 1, 1) := by decide +kernel
theorem dX1_pathMatrix_29 : decode cX1_pathMatrix 29 = .ok (.lreturn, 1) := by decide +kernel
theorem dX1_starMatrix_0 : decode cX1_starMatrix 0 = .ok (.lconst 0, 1) := by decide +kernel
theorem dX1_starMatrix_1 : decode cX1_starMatrix 1 = .ok (.lstore_n 1, 1) := by decide +kernel
theorem dX1_starMatrix_2 : decode cX1_starMatrix 2 = .ok (.iconst 1, 1) := by decide +kernel
theorem dX1_starMatrix_3 : decode cX1_starMatrix 3 = .ok (.istore_n 3, 1) := by decide +kernel
theorem dX1_starMatrix_4 : decode cX1_starMatrix 4 = .ok (.iload_n 3, 1) := by decide +kernel
theorem dX1_starMatrix_5 : decode cX1_starMatrix 5 = .ok (.aload_n 0, 1) := by decide +kernel
theorem dX1_starMatrix_6 : decode cX1_starMatrix 6 = .ok (.getfield 9, 3) := by decide +kernel
theorem dX1_starMatrix_9 : decode cX1_starMatrix 9 = .ok (.if_icmp .ge 17, 3) := by decide +kernel
theorem dX1_starMatrix_12 : decode cX1_starMatrix 12 = .ok (.lload_n 1, 1) := by decide +kernel
theorem dX1_starMatrix_13 : decode cX1_starMatrix 13 = .ok (.iconst 0, 1) := by decide +kernel
theorem dX1_starMatrix_14 : decode cX1_starMatrix 14 = .ok (.iload_n 3, 1) := by decide +kernel
theorem dX1_starMatrix_15 : decode cX1_starMatrix 15 = .ok (.invokestatic 38, 3) := by decide +kernel
theorem dX1_starMatrix_18 : decode cX1_starMatrix 18 = .ok (.lor, 1) := by decide +kernel
theorem dX1_starMatrix_19 : decode cX1_starMatrix 19 = .ok (.lstore_n 1, 1) := by decide +kernel
theorem dX1_starMatrix_20 : decode cX1_starMatrix 20 = .ok (.iinc 3 1, 3) := by decide +kernel
theorem dX1_starMatrix_23 : decode cX1_starMatrix 23 = .ok (.goto (-19), 3) := by decide +kernel
theorem dX1_starMatrix_26 : decode cX1_starMatrix 26 = .ok (.lload_n 1, 1) := by decide +kernel
theorem dX1_starMatrix_27 : decode cX1_starMatrix 27 = .ok (.lreturn, 1) := by decide +kernel
theorem dX1_completeMatrix_0 : decode cX1_completeMatrix 0 = .ok (.lconst 0, 1) := by decide +kernel
theorem dX1_completeMatrix_1 : decode cX1_completeMatrix 1 = .ok (.lstore_n 1, 1) := by decide +kernel
theorem dX1_completeMatrix_2 : decode cX1_completeMatrix 2 = .ok (.iconst 1, 1) := by decide +kernel
theorem dX1_completeMatrix_3 : decode cX1_completeMatrix 3 = .ok (.istore_n 3, 1) := by decide +kernel
theorem dX1_completeMatrix_4 : decode cX1_completeMatrix 4 = .ok (.iload_n 3, 1) := by decide +kernel
theorem dX1_completeMatrix_5 : decode cX1_completeMatrix 5 = .ok (.aload_n 0, 1) := by decide +kernel
theorem dX1_completeMatrix_6 : decode cX1_completeMatrix 6 = .ok (.getfield 9, 3) := by decide +kernel
theorem dX1_completeMatrix_9 : decode cX1_completeMatrix 9 = .ok (.if_icmp .ge 33, 3) := by decide +kernel
theorem dX1_completeMatrix_12 : decode cX1_completeMatrix 12 = .ok (.iconst 0, 1) := by decide +kernel
theorem dX1_completeMatrix_13 : decode cX1_completeMatrix 13 = .ok (.istore 4, 2) := by decide +kernel
theorem dX1_completeMatrix_15 : decode cX1_completeMatrix 15 = .ok (.iload 4, 2) := by decide +kernel
theorem dX1_completeMatrix_17 : decode cX1_completeMatrix 17 = .ok (.iload_n 3, 1) := by decide +kernel
theorem dX1_completeMatrix_18 : decode cX1_completeMatrix 18 = .ok (.if_icmp .ge 18, 3) := by decide +kernel
theorem dX1_completeMatrix_21 : decode cX1_completeMatrix 21 = .ok (.lload_n 1, 1) := by decide +kernel
theorem dX1_completeMatrix_22 : decode cX1_completeMatrix 22 = .ok (.iload 4, 2) := by decide +kernel
theorem dX1_completeMatrix_24 : decode cX1_completeMatrix 24 = .ok (.iload_n 3, 1) := by decide +kernel
theorem dX1_completeMatrix_25 : decode cX1_completeMatrix 25 = .ok (.invokestatic 38, 3) := by decide +kernel
theorem dX1_completeMatrix_28 : decode cX1_completeMatrix 28 = .ok (.lor, 1) := by decide +kernel
theorem dX1_completeMatrix_29 : decode cX1_completeMatrix 29 = .ok (.lstore_n 1, 1) := by decide +kernel
theorem dX1_completeMatrix_30 : decode cX1_completeMatrix 30 = .ok (.iinc 4 1, 3) := by decide +kernel
theorem dX1_completeMatrix_33 : decode cX1_completeMatrix 33 = .ok (.goto (-18), 3) := by decide +kernel
theorem dX1_completeMatrix_36 : decode cX1_completeMatrix 36 = .ok (.iinc 3 1, 3) := by decide +kernel
theorem dX1_completeMatrix_39 : decode cX1_completeMatrix 39 = .ok (.goto (-35), 3) := by decide +kernel
theorem dX1_completeMatrix_42 : decode cX1_completeMatrix 42 = .ok (.lload_n 1, 1) := by decide +kernel
theorem dX1_completeMatrix_43 : decode cX1_completeMatrix 43 = .ok (.lreturn, 1) := by decide +kernel
theorem dX1_componentTotal_0 : decode cX1_componentTotal 0 = .ok (.aload_n 0, 1) := by decide +kernel
theorem dX1_componentTotal_1 : decode cX1_componentTotal 1 = .ok (.invokevirtual 50, 3) := by decide +kernel
theorem dX1_componentTotal_4 : decode cX1_componentTotal 4 = .ok (.istore_n 1, 1) := by decide +kernel
theorem dX1_componentTotal_5 : decode cX1_componentTotal 5 = .ok (.iconst 0, 1) := by decide +kernel
theorem dX1_componentTotal_6 : decode cX1_componentTotal 6 = .ok (.istore_n 2, 1) := by decide +kernel
theorem dX1_componentTotal_7 : decode cX1_componentTotal 7 = .ok (.iconst 0, 1) := by decide +kernel
theorem dX1_componentTotal_8 : decode cX1_componentTotal 8 = .ok (.istore_n 3, 1) := by decide +kernel
theorem dX1_componentTotal_9 : decode cX1_componentTotal 9 = .ok (.iload_n 3, 1) := by decide +kernel
theorem dX1_componentTotal_10 : decode cX1_componentTotal 10 = .ok (.aload_n 0, 1) := by decide +kernel
theorem dX1_componentTotal_11 : decode cX1_componentTotal 11 = .ok (.getfield 9, 3) := by decide +kernel
theorem dX1_componentTotal_14 : decode cX1_componentTotal 14 = .ok (.if_icmp .ge 30, 3) := by decide +kernel
theorem dX1_componentTotal_17 : decode cX1_componentTotal 17 = .ok (.iload_n 1, 1) := by decide +kernel
theorem dX1_componentTotal_18 : decode cX1_componentTotal 18 = .ok (.iload_n 3, 1) := by decide +kernel
theorem dX1_componentTotal_19 : decode cX1_componentTotal 19 = .ok (.ishr, 1) := by decide +kernel
theorem dX1_componentTotal_20 : decode cX1_componentTotal 20 = .ok (.iconst 1, 1) := by decide +kernel
theorem dX1_componentTotal_21 : decode cX1_componentTotal 21 = .ok (.iand, 1) := by decide +kernel
theorem dX1_componentTotal_22 : decode cX1_componentTotal 22 = .ok (.ifCond .eq 16, 3) := by decide +kernel
theorem dX1_componentTotal_25 : decode cX1_componentTotal 25 = .ok (.iinc 2 1, 3) := by decide +kernel
theorem dX1_componentTotal_28 : decode cX1_componentTotal 28 = .ok (.iload_n 1, 1) := by decide +kernel
theorem dX1_componentTotal_29 : decode cX1_componentTotal 29 = .ok (.aload_n 0, 1) := by decide +kernel
theorem dX1_componentTotal_30 : decode cX1_componentTotal 30 = .ok (.iload_n 3, 1) := by decide +kernel
theorem dX1_componentTotal_31 : decode cX1_componentTotal 31 = .ok (.invokevirtual 54, 3) := by decide +kernel
theorem dX1_componentTotal_34 : decode cX1_componentTotal 34 = .ok (.iconst (-1), 1) := by decide +kernel
theorem dX1_componentTotal_35 : decode cX1_componentTotal 35 = .ok (.ixor, 1) := by decide +kernel
theorem dX1_componentTotal_36 : decode cX1_componentTotal 36 = .ok (.iand, 1) := by decide +kernel
theorem dX1_componentTotal_37 : decode cX1_componentTotal 37 = .ok (.istore_n 1, 1) := by decide +kernel
theorem dX1_componentTotal_38 : decode cX1_componentTotal 38 = .ok (.iinc 3 1, 3) := by decide +kernel
theorem dX1_componentTotal_41 : decode cX1_componentTotal 41 = .ok (.goto (-32), 3) := by decide +kernel
theorem dX1_componentTotal_44 : decode cX1_componentTotal 44 = .ok (.iload_n 2, 1) := by decide +kernel
theorem dX1_componentTotal_45 : decode cX1_componentTotal 45 = .ok (.ireturn, 1) := by decide +kernel
theorem dX1_componentOf_0 : decode cX1_componentOf 0 = .ok (.iconst 1, 1) := by decide +kernel
theorem dX1_componentOf_1 : decode cX1_componentOf 1 = .ok (.iload_n 1, 1) := by decide +kernel
theorem dX1_componentOf_2 : decode cX1_componentOf 2 = .ok (.ishl, 1) := by decide +kernel
theorem dX1_componentOf_3 : decode cX1_componentOf 3 = .ok (.istore_n 2, 1) := by decide +kernel
theorem dX1_componentOf_4 : decode cX1_componentOf 4 = .ok (.iconst 1, 1) := by decide +kernel
theorem dX1_componentOf_5 : decode cX1_componentOf 5 = .ok (.istore_n 3, 1) := by decide +kernel
theorem dX1_componentOf_6 : decode cX1_componentOf 6 = .ok (.iload_n 3, 1) := by decide +kernel
theorem dX1_componentOf_7 : decode cX1_componentOf 7 = .ok (.aload_n 0, 1) := by decide +kernel
theorem dX1_componentOf_8 : decode cX1_componentOf 8 = .ok (.getfield 9, 3) := by decide +kernel
theorem dX1_componentOf_11 : decode cX1_componentOf 11 = .ok (.if_icmp .ge 56, 3) := by decide +kernel
theorem dX1_componentOf_14 : decode cX1_componentOf 14 = .ok (.iload_n 2, 1) := by decide +kernel
theorem dX1_componentOf_15 : decode cX1_componentOf 15 = .ok (.istore 4, 2) := by decide +kernel
theorem dX1_componentOf_17 : decode cX1_componentOf 17 = .ok (.iconst 0, 1) := by decide +kernel
theorem dX1_componentOf_18 : decode cX1_componentOf 18 = .ok (.istore 5, 2) := by decide +kernel
theorem dX1_componentOf_20 : decode cX1_componentOf 20 = .ok (.iload 5, 2) := by decide +kernel
theorem dX1_componentOf_22 : decode cX1_componentOf 22 = .ok (.aload_n 0, 1) := by decide +kernel
theorem dX1_componentOf_23 : decode cX1_componentOf 23 = .ok (.getfield 9, 3) := by decide +kernel
theorem dX1_componentOf_26 : decode cX1_componentOf 26 = .ok (.if_icmp .ge 32, 3) := by decide +kernel
theorem dX1_componentOf_29 : decode cX1_componentOf 29 = .ok (.iload_n 2, 1) := by decide +kernel
theorem dX1_componentOf_30 : decode cX1_componentOf 30 = .ok (.iload 5, 2) := by decide +kernel
theorem dX1_componentOf_32 : decode cX1_componentOf 32 = .ok (.ishr, 1) := by decide +kernel
theorem dX1_componentOf_33 : decode cX1_componentOf 33 = .ok (.iconst 1, 1) := by decide +kernel
theorem dX1_componentOf_34 : decode cX1_componentOf 34 = .ok (.iand, 1) := by decide +kernel
theorem dX1_componentOf_35 : decode cX1_componentOf 35 = .ok (.ifCond .eq 17, 3) := by decide +kernel
theorem dX1_componentOf_38 : decode cX1_componentOf 38 = .ok (.iload 4, 2) := by decide +kernel
theorem dX1_componentOf_40 : decode cX1_componentOf 40 = .ok (.aload_n 0, 1) := by decide +kernel
theorem dX1_componentOf_41 : decode cX1_componentOf 41 = .ok (.getfield 15, 3) := by decide +kernel
theorem dX1_componentOf_44 : decode cX1_componentOf 44 = .ok (.iload 5, 2) := by decide +kernel
theorem dX1_componentOf_46 : decode cX1_componentOf 46 = .ok (.invokestatic 58, 3) := by decide +kernel
theorem dX1_componentOf_49 : decode cX1_componentOf 49 = .ok (.ior, 1) := by decide +kernel
theorem dX1_componentOf_50 : decode cX1_componentOf 50 = .ok (.istore 4, 2) := by decide +kernel
theorem dX1_componentOf_52 : decode cX1_componentOf 52 = .ok (.iinc 5 1, 3) := by decide +kernel
theorem dX1_componentOf_55 : decode cX1_componentOf 55 = .ok (.goto (-35), 3) := by decide +kernel
theorem dX1_componentOf_58 : decode cX1_componentOf 58 = .ok (.iload 4, 2) := by decide +kernel
theorem dX1_componentOf_60 : decode cX1_componentOf 60 = .ok (.istore_n 2, 1) := by decide +kernel
theorem dX1_componentOf_61 : decode cX1_componentOf 61 = .ok (.iinc 3 1, 3) := by decide +kernel
theorem dX1_componentOf_64 : decode cX1_componentOf 64 = .ok (.goto (-58), 3) := by decide +kernel
theorem dX1_componentOf_67 : decode cX1_componentOf 67 = .ok (.iload_n 2, 1) := by decide +kernel
theorem dX1_componentOf_68 : decode cX1_componentOf 68 = .ok (.ireturn, 1) := by decide +kernel
theorem dX1_isBipartite_0 : decode cX1_isBipartite 0 = .ok (.aload_n 0, 1) := by decide +kernel
theorem dX1_isBipartite_1 : decode cX1_isBipartite 1 = .ok (.invokevirtual 50, 3) := by decide +kernel
theorem dX1_isBipartite_4 : decode cX1_isBipartite 4 = .ok (.istore_n 1, 1) := by decide +kernel
theorem dX1_isBipartite_5 : decode cX1_isBipartite 5 = .ok (.iconst 0, 1) := by decide +kernel
theorem dX1_isBipartite_6 : decode cX1_isBipartite 6 = .ok (.istore_n 2, 1) := by decide +kernel
theorem dX1_isBipartite_7 : decode cX1_isBipartite 7 = .ok (.iload_n 2, 1) := by decide +kernel
theorem dX1_isBipartite_8 : decode cX1_isBipartite 8 = .ok (.iload_n 1, 1) := by decide +kernel
theorem dX1_isBipartite_9 : decode cX1_isBipartite 9 = .ok (.if_icmp .gt 31, 3) := by decide +kernel
theorem dX1_isBipartite_12 : decode cX1_isBipartite 12 = .ok (.aload_n 0, 1) := by decide +kernel
theorem dX1_isBipartite_13 : decode cX1_isBipartite 13 = .ok (.iload_n 2, 1) := by decide +kernel
theorem dX1_isBipartite_14 : decode cX1_isBipartite 14 = .ok (.invokevirtual 62, 3) := by decide +kernel
theorem dX1_isBipartite_17 : decode cX1_isBipartite 17 = .ok (.ifCond .eq 17, 3) := by decide +kernel
theorem dX1_isBipartite_20 : decode cX1_isBipartite 20 = .ok (.aload_n 0, 1) := by decide +kernel
theorem dX1_isBipartite_21 : decode cX1_isBipartite 21 = .ok (.iload_n 1, 1) := by decide +kernel
theorem dX1_isBipartite_22 : decode cX1_isBipartite 22 = .ok (.iload_n 2, 1) := by decide +kernel
theorem dX1_isBipartite_23 : decode cX1_isBipartite 23 = .ok (.iconst (-1), 1) := by decide +kernel
theorem dX1_isBipartite_24 : decode cX1_isBipartite 24 = .ok (.ixor, 1) := by decide +kernel
theorem dX1_isBipartite_25 : decode cX1_isBipartite 25 = .ok (.iand, 1) := by decide +kernel
theorem dX1_isBipartite_26 : decode cX1_isBipartite 26 = .ok (.invokevirtual 62, 3) := by decide +kernel
theorem dX1_isBipartite_29 : decode cX1_isBipartite 29 = .ok (.ifCond .eq 5, 3) := by decide +kernel
theorem dX1_isBipartite_32 : decode cX1_isBipartite 32 = .ok (.iconst 1, 1) := by decide +kernel
theorem dX1_isBipartite_33 : decode cX1_isBipartite 33 = .ok (.ireturn, 1) := by decide +kernel
theorem dX1_isBipartite_34 : decode cX1_isBipartite 34 = .ok (.iinc 2 1, 3) := by decide +kernel
theorem dX1_isBipartite_37 : decode cX1_isBipartite 37 = .ok (.goto (-30), 3) := by decide +kernel
theorem dX1_isBipartite_40 : decode cX1_isBipartite 40 = .ok (.iconst 0, 1) := by decide +kernel
theorem dX1_isBipartite_41 : decode cX1_isBipartite 41 = .ok (.ireturn, 1) := by decide +kernel
theorem dX1_isIndependent_0 : decode cX1_isIndependent 0 = .ok (.iconst 0, 1) := by decide +kernel
theorem dX1_isIndependent_1 : decode cX1_isIndependent 1 = .ok (.istore_n 2, 1) := by decide +kernel
theorem dX1_isIndependent_2 : decode cX1_isIndependent 2 = .ok (.iload_n 2, 1) := by decide +kernel
theorem dX1_isIndependent_3 : decode cX1_isIndependent 3 = .ok (.aload_n 0, 1) := by decide +kernel
theorem dX1_isIndependent_4 : decode cX1_isIndependent 4 = .ok (.getfield 9, 3) := by decide +kernel
theorem dX1_isIndependent_7 : decode cX1_isIndependent 7 = .ok (.if_icmp .ge 32, 3) := by decide +kernel
theorem dX1_isIndependent_10 : decode cX1_isIndependent 10 = .ok (.iload_n 1, 1) := by decide +kernel
theorem dX1_isIndependent_11 : decode cX1_isIndependent 11 = .ok (.iload_n 2, 1) := by decide +kernel
theorem dX1_isIndependent_12 : decode cX1_isIndependent 12 = .ok (.ishr, 1) := by decide +kernel
theorem dX1_isIndependent_13 : decode cX1_isIndependent 13 = .ok (.iconst 1, 1) := by decide +kernel
theorem dX1_isIndependent_14 : decode cX1_isIndependent 14 = .ok (.iand, 1) := by decide +kernel
theorem dX1_isIndependent_15 : decode cX1_isIndependent 15 = .ok (.ifCond .eq 18, 3) := by decide +kernel
theorem dX1_isIndependent_18 : decode cX1_isIndependent 18 = .ok (.aload_n 0, 1) := by decide +kernel
theorem dX1_isIndependent_19 : decode cX1_isIndependent 19 = .ok (.getfield 15, 3) := by decide +kernel
theorem dX1_isIndependent_22 : decode cX1_isIndependent 22 = .ok (.iload_n 2, 1) := by decide +kernel
theorem dX1_isIndependent_23 : decode cX1_isIndependent 23 = .ok (.invokestatic 58, 3) := by decide +kernel
theorem dX1_isIndependent_26 : decode cX1_isIndependent 26 = .ok (.iload_n 1, 1) := by decide +kernel
theorem dX1_isIndependent_27 : decode cX1_isIndependent 27 = .ok (.iand, 1) := by decide +kernel
theorem dX1_isIndependent_28 : decode cX1_isIndependent 28 = .ok (.ifCond .eq 5, 3) := by decide +kernel
theorem dX1_isIndependent_31 : decode cX1_isIndependent 31 = .ok (.iconst 0, 1) := by decide +kernel
theorem dX1_isIndependent_32 : decode cX1_isIndependent 32 = .ok (.ireturn, 1) := by decide +kernel
theorem dX1_isIndependent_33 : decode cX1_isIndependent 33 = .ok (.iinc 2 1, 3) := by decide +kernel
theorem dX1_isIndependent_36 : decode cX1_isIndependent 36 = .ok (.goto (-34), 3) := by decide +kernel
theorem dX1_isIndependent_39 : decode cX1_isIndependent 39 = .ok (.iconst 1, 1) := by decide +kernel
theorem dX1_isIndependent_40 : decode cX1_isIndependent 40 = .ok (.ireturn, 1) := by decide +kernel
theorem dX1_isMinimalCover_0 : decode cX1_isMinimalCover 0 = .ok (.iconst 0, 1) := by decide +kernel
theorem dX1_isMinimalCover_1 : decode cX1_isMinimalCover 1 = .ok (.istore_n 2, 1) := by decide +kernel
theorem dX1_isMinimalCover_2 : decode cX1_isMinimalCover 2 = .ok (.iload_n 2, 1) := by decide +kernel
theorem dX1_isMinimalCover_3 : decode cX1_isMinimalCover 3 = .ok (.aload_n 0, 1) := by decide +kernel
theorem dX1_isMinimalCover_4 : decode cX1_isMinimalCover 4 = .ok (.getfield 9, 3) := by decide +kernel
theorem dX1_isMinimalCover_7 : decode cX1_isMinimalCover 7 = .ok (.if_icmp .ge 53, 3) := by decide +kernel
theorem dX1_isMinimalCover_10 : decode cX1_isMinimalCover 10 = .ok (.iload_n 1, 1) := by decide +kernel
theorem dX1_isMinimalCover_11 : decode cX1_isMinimalCover 11 = .ok (.iload_n 2, 1) := by decide +kernel
theorem dX1_isMinimalCover_12 : decode cX1_isMinimalCover 12 = .ok (.ishr, 1) := by decide +kernel
theorem dX1_isMinimalCover_13 : decode cX1_isMinimalCover 13 = .ok (.iconst 1, 1) := by decide +kernel
theorem dX1_isMinimalCover_14 : decode cX1_isMinimalCover 14 = .ok (.iand, 1) := by decide +kernel
theorem dX1_isMinimalCover_15 : decode cX1_isMinimalCover 15 = .ok (.ifCond .eq 7, 3) := by decide +kernel
theorem dX1_isMinimalCover_18 : decode cX1_isMinimalCover 18 = .ok (.iconst 1, 1) := by decide +kernel
theorem dX1_isMinimalCover_19 : decode cX1_isMinimalCover 19 = .ok (.goto 4, 3) := by decide +kernel
theorem dX1_isMinimalCover_22 : decode cX1_isMinimalCover 22 = .ok (.iconst 0, 1) := by decide +kernel
theorem dX1_isMinimalCover_23 : decode cX1_isMinimalCover 23 = .ok (.istore_n 3, 1) := by decide +kernel
theorem dX1_isMinimalCover_24 : decode cX1_isMinimalCover 24 = .ok (.aload_n 0, 1) := by decide +kernel
theorem dX1_isMinimalCover_25 : decode cX1_isMinimalCover 25 = .ok (.getfield 15, 3) := by decide +kernel
theorem dX1_isMinimalCover_28 : decode cX1_isMinimalCover 28 = .ok (.iload_n 2, 1) := by decide +kernel
theorem dX1_isMinimalCover_29 : decode cX1_isMinimalCover 29 = .ok (.invokestatic 58, 3) := by decide +kernel
theorem dX1_isMinimalCover_32 : decode cX1_isMinimalCover 32 = .ok (.iload_n 1, 1) := by decide +kernel
theorem dX1_isMinimalCover_33 : decode cX1_isMinimalCover 33 = .ok (.iconst (-1), 1) := by decide +kernel
theorem dX1_isMinimalCover_34 : decode cX1_isMinimalCover 34 = .ok (.ixor, 1) := by decide +kernel
theorem dX1_isMinimalCover_35 : decode cX1_isMinimalCover 35 = .ok (.iand, 1) := by decide +kernel
theorem dX1_isMinimalCover_36 : decode cX1_isMinimalCover 36 = .ok (.ifCond .eq 7, 3) := by decide +kernel
theorem dX1_isMinimalCover_39 : decode cX1_isMinimalCover 39 = .ok (.iconst 1, 1) := by decide +kernel
theorem dX1_isMinimalCover_40 : decode cX1_isMinimalCover 40 = .ok (.goto 4, 3) := by decide +kernel
theorem dX1_isMinimalCover_43 : decode cX1_isMinimalCover 43 = .ok (.iconst 0, 1) := by decide +kernel
theorem dX1_isMinimalCover_44 : decode cX1_isMinimalCover 44 = .ok (.istore 4, 2) := by decide +kernel
theorem dX1_isMinimalCover_46 : decode cX1_isMinimalCover 46 = .ok (.iload_n 3, 1) := by decide +kernel
theorem dX1_isMinimalCover_47 : decode cX1_isMinimalCover 47 = .ok (.iload 4, 2) := by decide +kernel
theorem dX1_isMinimalCover_49 : decode cX1_isMinimalCover 49 = .ok (.if_icmp .eq 5, 3) := by decide +kernel
theorem dX1_isMinimalCover_52 : decode cX1_isMinimalCover 52 = .ok (.iconst 0, 1) := by decide +kernel
theorem dX1_isMinimalCover_53 : decode cX1_isMinimalCover 53 = .ok (.ireturn, 1) := by decide +kernel
theorem dX1_isMinimalCover_54 : decode cX1_isMinimalCover 54 = .ok (.iinc 2 1, 3) := by decide +kernel
theorem dX1_isMinimalCover_57 : decode cX1_isMinimalCover 57 = .ok (.goto (-55), 3) := by decide +kernel
theorem dX1_isMinimalCover_60 : decode cX1_isMinimalCover 60 = .ok (.iconst 1, 1) := by decide +kernel
theorem dX1_isMinimalCover_61 : decode cX1_isMinimalCover 61 = .ok (.ireturn, 1) := by decide +kernel
theorem dX1_elimination_0 : decode cX1_elimination 0 = .ok (.iload_n 1, 1) := by decide +kernel
theorem dX1_elimination_1 : decode cX1_elimination 1 = .ok (.iconst 1, 1) := by decide +kernel
theorem dX1_elimination_2 : decode cX1_elimination 2 = .ok (.if_icmp .ne 11, 3) := by decide +kernel
theorem dX1_elimination_5 : decode cX1_elimination 5 = .ok (.aload_n 0, 1) := by decide +kernel
theorem dX1_elimination_6 : decode cX1_elimination 6 = .ok (.iconst 5, 1) := by decide +kernel
theorem dX1_elimination_7 : decode cX1_elimination 7 = .ok (.invokevirtual 66, 3) := by decide +kernel
theorem dX1_elimination_10 : decode cX1_elimination 10 = .ok (.goto 7, 3) := by decide +kernel
theorem dX1_elimination_13 : decode cX1_elimination 13 = .ok (.aload_n 0, 1) := by decide +kernel
theorem dX1_elimination_14 : decode cX1_elimination 14 = .ok (.getfield 15, 3) := by decide +kernel
theorem dX1_elimination_17 : decode cX1_elimination 17 = .ok (.lstore_n 2, 1) := by decide +kernel
theorem dX1_elimination_18 : decode cX1_elimination 18 = .ok (.aload_n 0, 1) := by decide +kernel
theorem dX1_elimination_19 : decode cX1_elimination 19 = .ok (.invokevirtual 50, 3) := by decide +kernel
theorem dX1_elimination_22 : decode cX1_elimination 22 = .ok (.istore 4, 2) := by decide +kernel
theorem dX1_elimination_24 : decode cX1_elimination 24 = .ok (.aload_n 0, 1) := by decide +kernel
theorem dX1_elimination_25 : decode cX1_elimination 25 = .ok (.getfield 24, 3) := by decide +kernel
theorem dX1_elimination_28 : decode cX1_elimination 28 = .ok (.iconst 0, 1) := by decide +kernel
theorem dX1_elimination_29 : decode cX1_elimination 29 = .ok (.putfield 70, 3) := by decide +kernel
theorem dX1_elimination_32 : decode cX1_elimination 32 = .ok (.iconst 0, 1) := by decide +kernel
theorem dX1_elimination_33 : decode cX1_elimination 33 = .ok (.istore 5, 2) := by decide +kernel
theorem dX1_elimination_35 : decode cX1_elimination 35 = .ok (.iload 5, 2) := by decide +kernel
theorem dX1_elimination_37 : decode cX1_elimination 37 = .ok (.aload_n 0, 1) := by decide +kernel
theorem dX1_elimination_38 : decode cX1_elimination 38 = .ok (.getfield 9, 3) := by decide +kernel
theorem dX1_elimination_41 : decode cX1_elimination 41 = .ok (.if_icmp .ge 51, 3) := by decide +kernel
theorem dX1_elimination_44 : decode cX1_elimination 44 = .ok (.aload_n 0, 1) := by decide +kernel
theorem dX1_elimination_45 : decode cX1_elimination 45 = .ok (.lload_n 2, 1) := by decide +kernel
theorem dX1_elimination_46 : decode cX1_elimination 46 = .ok (.iload 4, 2) := by decide +kernel
theorem dX1_elimination_48 : decode cX1_elimination 48 = .ok (.invokevirtual 73, 3) := by decide +kernel
theorem dX1_elimination_51 : decode cX1_elimination 51 = .ok (.istore 6, 2) := by decide +kernel
theorem dX1_elimination_53 : decode cX1_elimination 53 = .ok (.iload 6, 2) := by decide +kernel
theorem dX1_elimination_55 : decode cX1_elimination 55 = .ok (.bipush (-2), 2) := by decide +kernel
theorem dX1_elimination_57 : decode cX1_elimination 57 = .ok (.if_icmp .ne 8, 3) := by decide +kernel
theorem dX1_elimination_60 : decode cX1_elimination 60 = .ok (.aload_n 0, 1) := by decide +kernel
theorem dX1_elimination_61 : decode cX1_elimination 61 = .ok (.getfield 24, 3) := by decide +kernel
theorem dX1_elimination_64 : decode cX1_elimination 64 = .ok (.areturn, 1) := by decide +kernel
theorem dX1_elimination_65 : decode cX1_elimination 65 = .ok (.aload_n 0, 1) := by decide +kernel
theorem dX1_elimination_66 : decode cX1_elimination 66 = .ok (.getfield 24, 3) := by decide +kernel
theorem dX1_elimination_69 : decode cX1_elimination 69 = .ok (.iload 6, 2) := by decide +kernel
theorem dX1_elimination_71 : decode cX1_elimination 71 = .ok (.invokevirtual 76, 3) := by decide +kernel
theorem dX1_elimination_74 : decode cX1_elimination 74 = .ok (.pop, 1) := by decide +kernel
theorem dX1_elimination_75 : decode cX1_elimination 75 = .ok (.iload 4, 2) := by decide +kernel
theorem dX1_elimination_77 : decode cX1_elimination 77 = .ok (.iconst 1, 1) := by decide +kernel
theorem dX1_elimination_78 : decode cX1_elimination 78 = .ok (.iload 6, 2) := by decide +kernel
theorem dX1_elimination_80 : decode cX1_elimination 80 = .ok (.ishl, 1) := by decide +kernel
theorem dX1_elimination_81 : decode cX1_elimination 81 = .ok (.iconst (-1), 1) := by decide +kernel
theorem dX1_elimination_82 : decode cX1_elimination 82 = .ok (.ixor, 1) := by decide +kernel
theorem dX1_elimination_83 : decode cX1_elimination 83 = .ok (.iand, 1) := by decide +kernel
theorem dX1_elimination_84 : decode cX1_elimination 84 = .ok (.istore 4, 2) := by decide +kernel
theorem dX1_elimination_86 : decode cX1_elimination 86 = .ok (.iinc 5 1, 3) := by decide +kernel
theorem dX1_elimination_89 : decode cX1_elimination 89 = .ok (.goto (-54), 3) := by decide +kernel
theorem dX1_elimination_92 : decode cX1_elimination 92 = .ok (.aload_n 0, 1) := by decide +kernel
theorem dX1_elimination_93 : decode cX1_elimination 93 = .ok (.getfield 24, 3) := by decide +kernel
theorem dX1_elimination_96 : decode cX1_elimination 96 = .ok (.areturn, 1) := by decide +kernel
theorem dX1_firstSimplicial_0 : decode cX1_firstSimplicial 0 = .ok (.iconst 0, 1) := by decide +kernel
theorem dX1_firstSimplicial_1 : decode cX1_firstSimplicial 1 = .ok (.istore 4, 2) := by decide +kernel
theorem dX1_firstSimplicial_3 : decode cX1_firstSimplicial 3 = .ok (.iload 4, 2) := by decide +kernel
theorem dX1_firstSimplicial_5 : decode cX1_firstSimplicial 5 = .ok (.aload_n 0, 1) := by decide +kernel
theorem dX1_firstSimplicial_6 : decode cX1_firstSimplicial 6 = .ok (.getfield 9, 3) := by decide +kernel
theorem dX1_firstSimplicial_9 : decode cX1_firstSimplicial 9 = .ok (.if_icmp .ge 37, 3) := by decide +kernel
theorem dX1_firstSimplicial_12 : decode cX1_firstSimplicial 12 = .ok (.iload_n 3, 1) := by decide +kernel
theorem dX1_firstSimplicial_13 : decode cX1_firstSimplicial 13 = .ok (.iload 4, 2) := by decide +kernel
theorem dX1_firstSimplicial_15 : decode cX1_firstSimplicial 15 = .ok (.ishr, 1) := by decide +kernel
theorem dX1_firstSimplicial_16 : decode cX1_firstSimplicial 16 = .ok (.iconst 1, 1) := by decide +kernel
theorem dX1_firstSimplicial_17 : decode cX1_firstSimplicial 17 = .ok (.iand, 1) := by decide +kernel
theorem dX1_firstSimplicial_18 : decode cX1_firstSimplicial 18 = .ok (.ifCond .eq 22, 3) := by decide +kernel
theorem dX1_firstSimplicial_21 : decode cX1_firstSimplicial 21 = .ok (.aload_n 0, 1) := by decide +kernel
theorem dX1_firstSimplicial_22 : decode cX1_firstSimplicial 22 = .ok (.lload_n 1, 1) := by decide +kernel
theorem dX1_firstSimplicial_23 : decode cX1_firstSimplicial 23 = .ok (.lload_n 1, 1) := by decide +kernel
theorem dX1_firstSimplicial_24 : decode cX1_firstSimplicial 24 = .ok (.iload 4, 2) := by decide +kernel
theorem dX1_firstSimplicial_26 : decode cX1_firstSimplicial 26 = .ok (.invokestatic 58, 3) := by decide +kernel
theorem dX1_firstSimplicial_29 : decode cX1_firstSimplicial 29 = .ok (.iload_n 3, 1) := by decide +kernel
theorem dX1_firstSimplicial_30 : decode cX1_firstSimplicial 30 = .ok (.iand, 1) := by decide +kernel
theorem dX1_firstSimplicial_31 : decode cX1_firstSimplicial 31 = .ok (.invokevirtual 79, 3) := by decide +kernel
theorem dX1_firstSimplicial_34 : decode cX1_firstSimplicial 34 = .ok (.ifCond .eq 6, 3) := by decide +kernel
theorem dX1_firstSimplicial_37 : decode cX1_firstSimplicial 37 = .ok (.iload 4, 2) := by decide +kernel
theorem dX1_firstSimplicial_39 : decode cX1_firstSimplicial 39 = .ok (.ireturn, 1) := by decide +kernel
theorem dX1_firstSimplicial_40 : decode cX1_firstSimplicial 40 = .ok (.iinc 4 1, 3) := by decide +kernel
theorem dX1_firstSimplicial_43 : decode cX1_firstSimplicial 43 = .ok (.goto (-40), 3) := by decide +kernel
theorem dX1_firstSimplicial_46 : decode cX1_firstSimplicial 46 = .ok (.bipush (-2), 2) := by decide +kernel
theorem dX1_firstSimplicial_48 : decode cX1_firstSimplicial 48 = .ok (.ireturn, 1) := by decide +kernel
theorem dX1_isClique_0 : decode cX1_isClique 0 = .ok (.iconst 0, 1) := by decide +kernel
theorem dX1_isClique_1 : decode cX1_isClique 1 = .ok (.istore 4, 2) := by decide +kernel
theorem dX1_isClique_3 : decode cX1_isClique 3 = .ok (.iload 4, 2) := by decide +kernel
theorem dX1_isClique_5 : decode cX1_isClique 5 = .ok (.aload_n 0, 1) := by decide +kernel
theorem dX1_isClique_6 : decode cX1_isClique 6 = .ok (.getfield 9, 3) := by decide +kernel
theorem dX1_isClique_9 : decode cX1_isClique 9 = .ok (.if_icmp .ge 37, 3) := by decide +kernel
theorem dX1_isClique_12 : decode cX1_isClique 12 = .ok (.iload_n 3, 1) := by decide +kernel
theorem dX1_isClique_13 : decode cX1_isClique 13 = .ok (.iload 4, 2) := by decide +kernel
theorem dX1_isClique_15 : decode cX1_isClique 15 = .ok (.ishr, 1) := by decide +kernel
theorem dX1_isClique_16 : decode cX1_isClique 16 = .ok (.iconst 1, 1) := by decide +kernel
theorem dX1_isClique_17 : decode cX1_isClique 17 = .ok (.iand, 1) := by decide +kernel
theorem dX1_isClique_18 : decode cX1_isClique 18 = .ok (.ifCond .eq 22, 3) := by decide +kernel
theorem dX1_isClique_21 : decode cX1_isClique 21 = .ok (.iload_n 3, 1) := by decide +kernel
theorem dX1_isClique_22 : decode cX1_isClique 22 = .ok (.lload_n 1, 1) := by decide +kernel
theorem dX1_isClique_23 : decode cX1_isClique 23 = .ok (.iload 4, 2) := by decide +kernel
theorem dX1_isClique_25 : decode cX1_isClique 25 = .ok (.invokestatic 58, 3) := by decide +kernel
theorem dX1_isClique_28 : decode cX1_isClique 28 = .ok (.iconst (-1), 1) := by decide +kernel
theorem dX1_isClique_29 : decode cX1_isClique 29 = .ok (.ixor, 1) := by decide +kernel
theorem dX1_isClique_30 : decode cX1_isClique 30 = .ok (.iand, 1) := by decide +kernel
theorem dX1_isClique_31 : decode cX1_isClique 31 = .ok (.iconst 1, 1) := by decide +kernel
theorem dX1_isClique_32 : decode cX1_isClique 32 = .ok (.iload 4, 2) := by decide +kernel
theorem dX1_isClique_34 : decode cX1_isClique 34 = .ok (.ishl, 1) := by decide +kernel
theorem dX1_isClique_35 : decode cX1_isClique 35 = .ok (.if_icmp .eq 5, 3) := by decide +kernel
theorem dX1_isClique_38 : decode cX1_isClique 38 = .ok (.iconst 0, 1) := by decide +kernel
theorem dX1_isClique_39 : decode cX1_isClique 39 = .ok (.ireturn, 1) := by decide +kernel
theorem dX1_isClique_40 : decode cX1_isClique 40 = .ok (.iinc 4 1, 3) := by decide +kernel
theorem dX1_isClique_43 : decode cX1_isClique 43 = .ok (.goto (-40), 3) := by decide +kernel
theorem dX1_isClique_46 : decode cX1_isClique 46 = .ok (.iconst 1, 1) := by decide +kernel
theorem dX1_isClique_47 : decode cX1_isClique 47 = .ok (.ireturn, 1) := by decide +kernel
theorem dX2_init_0 : decode cX2_init 0 = .ok (.aload_n 0, 1) := by decide +kernel
theorem dX2_init_1 : decode cX2_init 1 = .ok (.invokespecial 3, 3) := by decide +kernel
theorem dX2_init_4 : decode cX2_init 4 = .ok (.aload_n 0, 1) := by decide +kernel
theorem dX2_init_5 : decode cX2_init 5 = .ok (.aload_n 1, 1) := by decide +kernel
theorem dX2_init_6 : decode cX2_init 6 = .ok (.putfield 9, 3) := by decide +kernel
theorem dX2_init_9 : decode cX2_init 9 = .ok (.aload_n 0, 1) := by decide +kernel
theorem dX2_init_10 : decode cX2_init 10 = .ok (.sipush 16384, 3) := by decide +kernel
theorem dX2_init_13 : decode cX2_init 13 = .ok (.newarray .int, 2) := by decide +kernel
theorem dX2_init_15 : decode cX2_init 15 = .ok (.putfield 17, 3) := by decide +kernel
theorem dX2_init_18 : decode cX2_init 18 = .ok (.aload_n 0, 1) := by decide +kernel
theorem dX2_init_19 : decode cX2_init 19 = .ok (.new 21, 3) := by decide +kernel
theorem dX2_init_22 : decode cX2_init 22 = .ok (.dup, 1) := by decide +kernel
theorem dX2_init_23 : decode cX2_init 23 = .ok (.bipush 35, 2) := by decide +kernel
theorem dX2_init_25 : decode cX2_init 25 = .ok (.invokespecial 23, 3) := by decide +kernel
theorem dX2_init_28 : decode cX2_init 28 = .ok (.putfield 26, 3) := by decide +kernel
theorem dX2_init_31 : decode cX2_init 31 = .ok (.aload_n 0, 1) := by decide +kernel
theorem dX2_init_32 : decode cX2_init 32 = .ok (.new 21, 3) := by decide +kernel
theorem dX2_init_35 : decode cX2_init 35 = .ok (.dup, 1) := by decide +kernel
theorem dX2_init_36 : decode cX2_init 36 = .ok (.bipush 35, 2) := by decide +kernel
theorem dX2_init_38 : decode cX2_init 38 = .ok (.invokespecial 23, 3) := by decide +kernel
theorem dX2_init_41 : decode cX2_init 41 = .ok (.putfield 30, 3) := by decide +kernel
theorem dX2_init_44 : decode cX2_init 44 = .ok (.aload_n 0, 1) := by decide +kernel
theorem dX2_init_45 : decode cX2_init 45 = .ok (.iconst 3, 1) := by decide +kernel
theorem dX2_init_46 : decode cX2_init 46 = .ok (.anewarray 21, 3) := by decide +kernel
theorem dX2_init_49 : decode cX2_init 49 = .ok (.putfield 33, 3) := by decide +kernel
theorem dX2_init_52 : decode cX2_init 52 = .ok (.aload_n 0, 1) := by decide +kernel
theorem dX2_init_53 : decode cX2_init 53 = .ok (.iconst 3, 1) := by decide +kernel
theorem dX2_init_54 : decode cX2_init 54 = .ok (.newarray .boolean, 2) := by decide +kernel
theorem dX2_init_56 : decode cX2_init 56 = .ok (.putfield 37, 3) := by decide +kernel
theorem dX2_init_59 : decode cX2_init 59 = .ok (.aload_n 0, 1) := by decide +kernel
theorem dX2_init_60 : decode cX2_init 60 = .ok (.iconst 3, 1) := by decide +kernel
theorem dX2_init_61 : decode cX2_init 61 = .ok (.anewarray 21, 3) := by decide +kernel
theorem dX2_init_64 : decode cX2_init 64 = .ok (.putfield 41, 3) := by decide +kernel
theorem dX2_init_67 : decode cX2_init 67 = .ok (.aload_n 0, 1) := by decide +kernel
theorem dX2_init_68 : decode cX2_init 68 = .ok (.iconst 3, 1) := by decide +kernel
theorem dX2_init_69 : decode cX2_init 69 = .ok (.newarray .boolean, 2) := by decide +kernel
theorem dX2_init_71 : decode cX2_init 71 = .ok (.putfield 44, 3) := by decide +kernel
theorem dX2_init_74 : decode cX2_init 74 = .ok (.iconst 0, 1) := by decide +kernel
theorem dX2_init_75 : decode cX2_init 75 = .ok (.istore_n 2, 1) := by decide +kernel
theorem dX2_init_76 : decode cX2_init 76 = .ok (.iload_n 2, 1) := by decide +kernel
theorem dX2_init_77 : decode cX2_init 77 = .ok (.iconst 3, 1) := by decide +kernel
theorem dX2_init_78 : decode cX2_init 78 = .ok (.if_icmp .ge 41, 3) := by decide +kernel
theorem dX2_init_81 : decode cX2_init 81 = .ok (.aload_n 0, 1) := by decide +kernel
theorem dX2_init_82 : decode cX2_init 82 = .ok (.getfield 33, 3) := by decide +kernel
theorem dX2_init_85 : decode cX2_init 85 = .ok (.iload_n 2, 1) := by decide +kernel
theorem dX2_init_86 : decode cX2_init 86 = .ok (.new 21, 3) := by decide +kernel
theorem dX2_init_89 : decode cX2_init 89 = .ok (.dup, 1) := by decide +kernel
theorem dX2_init_90 : decode cX2_init 90 = .ok (.sipush 728, 3) := by decide +kernel
theorem dX2_init_93 : decode cX2_init 93 = .ok (.invokespecial 23, 3) := by decide +kernel
theorem dX2_init_96 : decode cX2_init 96 = .ok (.aastore, 1) := by decide +kernel
theorem dX2_init_97 : decode cX2_init 97 = .ok (.aload_n 0, 1) := by decide +kernel
theorem dX2_init_98 : decode cX2_init 98 = .ok (.getfield 41, 3) := by decide +kernel
theorem dX2_init_101 : decode cX2_init 101 = .ok (.iload_n 2, 1) := by decide +kernel
theorem dX2_init_102 : decode cX2_init 102 = .ok (.new 21, 3) := by decide +kernel
theorem dX2_init_105 : decode cX2_init 105 = .ok (.dup, 1) := by decide +kernel
theorem dX2_init_106 : decode cX2_init 106 = .ok (.sipush 2128, 3) := by decide +kernel
theorem dX2_init_109 : decode cX2_init 109 = .ok (.invokespecial 23, 3) := by decide +kernel
theorem dX2_init_112 : decode cX2_init 112 = .ok (.aastore, 1) := by decide +kernel
theorem dX2_init_113 : decode cX2_init 113 = .ok (.iinc 2 1, 3) := by decide +kernel
theorem dX2_init_116 : decode cX2_init 116 = .ok (.goto (-40), 3) := by decide +kernel
theorem dX2_init_119 : decode cX2_init 119 = .ok (.return_, 1) := by decide +kernel
theorem dX2_forget_0 : decode cX2_forget 0 = .ok (.aload_n 0, 1) := by decide +kernel
theorem dX2_forget_1 : decode cX2_forget 1 = .ok (.iconst 0, 1) := by decide +kernel
theorem dX2_forget_2 : decode cX2_forget 2 = .ok (.putfield 47, 3) := by decide +kernel
theorem dX2_forget_5 : decode cX2_forget 5 = .ok (.aload_n 0, 1) := by decide +kernel
theorem dX2_forget_6 : decode cX2_forget 6 = .ok (.iconst 0, 1) := by decide +kernel
theorem dX2_forget_7 : decode cX2_forget 7 = .ok (.putfield 51, 3) := by decide +kernel
theorem dX2_forget_10 : decode cX2_forget 10 = .ok (.iconst 0, 1) := by decide +kernel
theorem dX2_forget_11 : decode cX2_forget 11 = .ok (.istore_n 1, 1) := by decide +kernel
theorem dX2_forget_12 : decode cX2_forget 12 = .ok (.iload_n 1, 1) := by decide +kernel
theorem dX2_forget_13 : decode cX2_forget 13 = .ok (.iconst 3, 1) := by decide +kernel
theorem dX2_forget_14 : decode cX2_forget 14 = .ok (.if_icmp .ge 23, 3) := by decide +kernel
theorem dX2_forget_17 : decode cX2_forget 17 = .ok (.aload_n 0, 1) := by decide +kernel
theorem dX2_forget_18 : decode cX2_forget 18 = .ok (.getfield 37, 3) := by decide +kernel
theorem dX2_forget_21 : decode cX2_forget 21 = .ok (.iload_n 1, 1) := by decide +kernel
theorem dX2_forget_22 : decode cX2_forget 22 = .ok (.iconst 0, 1) := by decide +kernel
theorem dX2_forget_23 : decode cX2_forget 23 = .ok (.bastore, 1) := by decide +kernel
theorem dX2_forget_24 : decode cX2_forget 24 = .ok (.aload_n 0, 1) := by decide +kernel
theorem dX2_forget_25 : decode cX2_forget 25 = .ok (.getfield 44, 3) := by decide +kernel
theorem dX2_forget_28 : decode cX2_forget 28 = .ok (.iload_n 1, 1) := by decide +kernel
theorem dX2_forget_29 : decode cX2_forget 29 = .ok (.iconst 0, 1) := by decide +kernel
theorem dX2_forget_30 : decode cX2_forget 30 = .ok (.bastore, 1) := by decide +kernel
theorem dX2_forget_31 : decode cX2_forget 31 = .ok (.iinc 1 1, 3) := by decide +kernel
theorem dX2_forget_34 : decode cX2_forget 34 = .ok (.goto (-22), 3) := by decide +kernel
theorem dX2_forget_37 : decode cX2_forget 37 = .ok (.return_, 1) := by decide +kernel
theorem dX2_powerOrderOf_0 : decode cX2_powerOrderOf 0 = .ok (.aload_n 0, 1) := by decide +kernel
theorem dX2_powerOrderOf_1 : decode cX2_powerOrderOf 1 = .ok (.getfield 47, 3) := by decide +kernel
theorem dX2_powerOrderOf_4 : decode cX2_powerOrderOf 4 = .ok (.istore_n 2, 1) := by decide +kernel
theorem dX2_powerOrderOf_5 : decode cX2_powerOrderOf 5 = .ok (.iload_n 2, 1) := by decide +kernel
theorem dX2_powerOrderOf_6 : decode cX2_powerOrderOf 6 = .ok (.iload_n 1, 1) := by decide +kernel
theorem dX2_powerOrderOf_7 : decode cX2_powerOrderOf 7 = .ok (.if_icmp .gt 20, 3) := by decide +kernel
theorem dX2_powerOrderOf_10 : decode cX2_powerOrderOf 10 = .ok (.aload_n 0, 1) := by decide +kernel
theorem dX2_powerOrderOf_11 : decode cX2_powerOrderOf 11 = .ok (.getfield 17, 3) := by decide +kernel
theorem dX2_powerOrderOf_14 : decode cX2_powerOrderOf 14 = .ok (.iload_n 2, 1) := by decide +kernel
theorem dX2_powerOrderOf_15 : decode cX2_powerOrderOf 15 = .ok (.aload_n 0, 1) := by decide +kernel
theorem dX2_powerOrderOf_16 : decode cX2_powerOrderOf 16 = .ok (.iload_n 2, 1) := by decide +kernel
theorem dX2_powerOrderOf_17 : decode cX2_powerOrderOf 17 = .ok (.invokevirtual 55, 3) := by decide +kernel
theorem dX2_powerOrderOf_20 : decode cX2_powerOrderOf 20 = .ok (.iastore, 1) := by decide +kernel
theorem dX2_powerOrderOf_21 : decode cX2_powerOrderOf 21 = .ok (.iinc 2 1, 3) := by decide +kernel
theorem dX2_powerOrderOf_24 : decode cX2_powerOrderOf 24 = .ok (.goto (-19), 3) := by decide +kernel
theorem dX2_powerOrderOf_27 : decode cX2_powerOrderOf 27 = .ok (.aload_n 0, 1) := by decide +kernel
theorem dX2_powerOrderOf_28 : decode cX2_powerOrderOf 28 = .ok (.aload_n 0, 1) := by decide +kernel
theorem dX2_powerOrderOf_29 : decode cX2_powerOrderOf 29 = .ok (.getfield 47, 3) := by decide +kernel
theorem dX2_powerOrderOf_32 : decode cX2_powerOrderOf 32 = .ok (.iload_n 1, 1) := by decide +kernel
theorem dX2_powerOrderOf_33 : decode cX2_powerOrderOf 33 = .ok (.iconst 1, 1) := by decide +kernel
theorem dX2_powerOrderOf_34 : decode cX2_powerOrderOf 34 = .ok (.iadd, 1) := by decide +kernel
theorem dX2_powerOrderOf_35 : decode cX2_powerOrderOf 35 = .ok (.invokestatic 59, 3) := by decide +kernel
theorem dX2_powerOrderOf_38 : decode cX2_powerOrderOf 38 = .ok (.putfield 47, 3) := by decide +kernel
theorem dX2_powerOrderOf_41 : decode cX2_powerOrderOf 41 = .ok (.aload_n 0, 1) := by decide +kernel
theorem dX2_powerOrderOf_42 : decode cX2_powerOrderOf 42 = .ok (.getfield 17, 3) := by decide +kernel
theorem dX2_powerOrderOf_45 : decode cX2_powerOrderOf 45 = .ok (.iload_n 1, 1) := by decide +kernel
theorem dX2_powerOrderOf_46 : decode cX2_powerOrderOf 46 = .ok (.iaload, 1) := by decide +kernel
theorem dX2_powerOrderOf_47 : decode cX2_powerOrderOf 47 = .ok (.ireturn, 1) := by decide +kernel
theorem dX2_orderFromLowerCodes_0 : decode cX2_orderFromLowerCodes 0 = .ok (.iload_n 1, 1) := by decide +kernel
theorem dX2_orderFromLowerCodes_1 : decode cX2_orderFromLowerCodes 1 = .ok (.ifCond .ne 5, 3) := by decide +kernel
theorem dX2_orderFromLowerCodes_4 : decode cX2_orderFromLowerCodes 4 = .ok (.iconst 0, 1) := by decide +kernel
theorem dX2_orderFromLowerCodes_5 : decode cX2_orderFromLowerCodes 5 = .ok (.ireturn, 1) := by decide +kernel
theorem dX2_orderFromLowerCodes_6 : decode cX2_orderFromLowerCodes 6 = .ok (.iload_n 1, 1) := by decide +kernel
theorem dX2_orderFromLowerCodes_7 : decode cX2_orderFromLowerCodes 7 = .ok (.invokestatic 65, 3) := by decide +kernel
theorem dX2_orderFromLowerCodes_10 : decode cX2_orderFromLowerCodes 10 = .ok (.iconst 2, 1) := by decide +kernel
theorem dX2_orderFromLowerCodes_11 : decode cX2_orderFromLowerCodes 11 = .ok (.idiv, 1) := by decide +kernel
theorem dX2_orderFromLowerCodes_12 : decode cX2_orderFromLowerCodes 12 = .ok (.istore_n 2, 1) := by decide +kernel
theorem dX2_orderFromLowerCodes_13 : decode cX2_orderFromLowerCodes 13 = .ok (.iload_n 1, 1) := by decide +kernel
theorem dX2_orderFromLowerCodes_14 : decode cX2_orderFromLowerCodes 14 = .ok (.iload_n 2, 1) := by decide +kernel
theorem dX2_orderFromLowerCodes_15 : decode cX2_orderFromLowerCodes 15 = .ok (.invokestatic 70, 3) := by decide +kernel
theorem dX2_orderFromLowerCodes_18 : decode cX2_orderFromLowerCodes 18 = .ok (.isub, 1) := by decide +kernel
theorem dX2_orderFromLowerCodes_19 : decode cX2_orderFromLowerCodes 19 = .ok (.istore_n 3, 1) := by decide +kernel
theorem dX2_orderFromLowerCodes_20 : decode cX2_orderFromLowerCodes 20 = .ok (.aload_n 0, 1) := by decide +kernel
theorem dX2_orderFromLowerCodes_21 : decode cX2_orderFromLowerCodes 21 = .ok (.getfield 9, 3) := by decide +kernel
theorem dX2_orderFromLowerCodes_24 : decode cX2_orderFromLowerCodes 24 = .ok (.getfield 73, 3) := by decide +kernel
theorem dX2_orderFromLowerCodes_27 : decode cX2_orderFromLowerCodes 27 = .ok (.iload_n 2, 1) := by decide +kernel
theorem dX2_orderFromLowerCodes_28 : decode cX2_orderFromLowerCodes 28 = .ok (.invokestatic 79, 3) := by decide +kernel
theorem dX2_orderFromLowerCodes_31 : decode cX2_orderFromLowerCodes 31 = .ok (.istore 4, 2) := by decide +kernel
theorem dX2_orderFromLowerCodes_33 : decode cX2_orderFromLowerCodes 33 = .ok (.iload_n 2, 1) := by decide +kernel
theorem dX2_orderFromLowerCodes_34 : decode cX2_orderFromLowerCodes 34 = .ok (.iconst 1, 1) := by decide +kernel
theorem dX2_orderFromLowerCodes_35 : decode cX2_orderFromLowerCodes 35 = .ok (.iadd, 1) := by decide +kernel
theorem dX2_orderFromLowerCodes_36 : decode cX2_orderFromLowerCodes 36 = .ok (.istore 5, 2) := by decide +kernel
theorem dX2_orderFromLowerCodes_38 : decode cX2_orderFromLowerCodes 38 = .ok (.iload 5, 2) := by decide +kernel
theorem dX2_orderFromLowerCodes_40 : decode cX2_orderFromLowerCodes 40 = .ok (.aload_n 0, 1) := by decide +kernel
theorem dX2_orderFromLowerCodes_41 : decode cX2_orderFromLowerCodes 41 = .ok (.getfield 9, 3) := by decide +kernel
theorem dX2_orderFromLowerCodes_44 : decode cX2_orderFromLowerCodes 44 = .ok (.getfield 83, 3) := by decide +kernel
theorem dX2_orderFromLowerCodes_47 : decode cX2_orderFromLowerCodes 47 = .ok (.if_icmp .ge 58, 3) := by decide +kernel
theorem dX2_orderFromLowerCodes_50 : decode cX2_orderFromLowerCodes 50 = .ok (.iload 4, 2) := by decide +kernel
theorem dX2_orderFromLowerCodes_52 : decode cX2_orderFromLowerCodes 52 = .ok (.iload 5, 2) := by decide +kernel
theorem dX2_orderFromLowerCodes_54 : decode cX2_orderFromLowerCodes 54 = .ok (.ishr, 1) := by decide +kernel
theorem dX2_orderFromLowerCodes_55 : decode cX2_orderFromLowerCodes 55 = .ok (.iconst 1, 1) := by decide +kernel
theorem dX2_orderFromLowerCodes_56 : decode cX2_orderFromLowerCodes 56 = .ok (.iand, 1) := by decide +kernel
theorem dX2_orderFromLowerCodes_57 : decode cX2_orderFromLowerCodes 57 = .ok (.ifCond .eq 42, 3) := by decide +kernel
theorem dX2_orderFromLowerCodes_60 : decode cX2_orderFromLowerCodes 60 = .ok (.iload_n 3, 1) := by decide +kernel
theorem dX2_orderFromLowerCodes_61 : decode cX2_orderFromLowerCodes 61 = .ok (.iload 5, 2) := by decide +kernel
theorem dX2_orderFromLowerCodes_63 : decode cX2_orderFromLowerCodes 63 = .ok (.invokestatic 86, 3) := by decide +kernel
theorem dX2_orderFromLowerCodes_66 : decode cX2_orderFromLowerCodes 66 = .ok (.ifCond .le 33, 3) := by decide +kernel
theorem dX2_orderFromLowerCodes_69 : decode cX2_orderFromLowerCodes 69 = .ok (.aload_n 0, 1) := by decide +kernel
theorem dX2_orderFromLowerCodes_70 : decode cX2_orderFromLowerCodes 70 = .ok (.getfield 17, 3) := by decide +kernel
theorem dX2_orderFromLowerCodes_73 : decode cX2_orderFromLowerCodes 73 = .ok (.iload_n 3, 1) := by decide +kernel
theorem dX2_orderFromLowerCodes_74 : decode cX2_orderFromLowerCodes 74 = .ok (.iload 5, 2) := by decide +kernel
theorem dX2_orderFromLowerCodes_76 : decode cX2_orderFromLowerCodes 76 = .ok (.invokestatic 70, 3) := by decide +kernel
theorem dX2_orderFromLowerCodes_79 : decode cX2_orderFromLowerCodes 79 = .ok (.isub, 1) := by decide +kernel
theorem dX2_orderFromLowerCodes_80 : decode cX2_orderFromLowerCodes 80 = .ok (.iaload, 1) := by decide +kernel
theorem dX2_orderFromLowerCodes_81 : decode cX2_orderFromLowerCodes 81 = .ok (.aload_n 0, 1) := by decide +kernel
theorem dX2_orderFromLowerCodes_82 : decode cX2_orderFromLowerCodes 82 = .ok (.getfield 17, 3) := by decide +kernel
theorem dX2_orderFromLowerCodes_85 : decode cX2_orderFromLowerCodes 85 = .ok (.iload_n 3, 1) := by decide +kernel
theorem dX2_orderFromLowerCodes_86 : decode cX2_orderFromLowerCodes 86 = .ok (.iaload, 1) := by decide +kernel
theorem dX2_orderFromLowerCodes_87 : decode cX2_orderFromLowerCodes 87 = .ok (.if_icmp .ne 12, 3) := by decide +kernel
theorem dX2_orderFromLowerCodes_90 : decode cX2_orderFromLowerCodes 90 = .ok (.aload_n 0, 1) := by decide +kernel
theorem dX2_orderFromLowerCodes_91 : decode cX2_orderFromLowerCodes 91 = .ok (.getfield 17, 3) := by decide +kernel
theorem dX2_orderFromLowerCodes_94 : decode cX2_orderFromLowerCodes 94 = .ok (.iload_n 3, 1) := by decide +kernel
theorem dX2_orderFromLowerCodes_95 : decode cX2_orderFromLowerCodes 95 = .ok (.iaload, 1) := by decide +kernel
theorem dX2_orderFromLowerCodes_96 : decode cX2_orderFromLowerCodes 96 = .ok (.iconst 1, 1) := by decide +kernel
theorem dX2_orderFromLowerCodes_97 : decode cX2_orderFromLowerCodes 97 = .ok (.iadd, 1) := by decide +kernel
theorem dX2_orderFromLowerCodes_98 : decode cX2_orderFromLowerCodes 98 = .ok (.ireturn, 1) := by decide +kernel
theorem dX2_orderFromLowerCodes_99 : decode cX2_orderFromLowerCodes 99 = .ok (.iinc 5 1, 3) := by decide +kernel
theorem dX2_orderFromLowerCodes_102 : decode cX2_orderFromLowerCodes 102 = .ok (.goto (-64), 3) := by decide +kernel
theorem dX2_orderFromLowerCodes_105 : decode cX2_orderFromLowerCodes 105 = .ok (.aload_n 0, 1) := by decide +kernel
theorem dX2_orderFromLowerCodes_106 : decode cX2_orderFromLowerCodes 106 = .ok (.getfield 17, 3) := by decide +kernel
theorem dX2_orderFromLowerCodes_109 : decode cX2_orderFromLowerCodes 109 = .ok (.iload_n 3, 1) := by decide +kernel
theorem dX2_orderFromLowerCodes_110 : decode cX2_orderFromLowerCodes 110 = .ok (.iaload, 1) := by decide +kernel
theorem dX2_orderFromLowerCodes_111 : decode cX2_orderFromLowerCodes 111 = .ok (.ireturn, 1) := by decide +kernel
theorem dX2_minimalCovers_0 : decode cX2_minimalCovers 0 = .ok (.aload_n 0, 1) := by decide +kernel
theorem dX2_minimalCovers_1 : decode cX2_minimalCovers 1 = .ok (.getfield 51, 3) := by decide +kernel
theorem dX2_minimalCovers_4 : decode cX2_minimalCovers 4 = .ok (.ifCond .ne 75, 3) := by decide +kernel
theorem dX2_minimalCovers_7 : decode cX2_minimalCovers 7 = .ok (.aload_n 0, 1) := by decide +kernel
theorem dX2_minimalCovers_8 : decode cX2_minimalCovers 8 = .ok (.getfield 26, 3) := by decide +kernel
theorem dX2_minimalCovers_11 : decode cX2_minimalCovers 11 = .ok (.iconst 0, 1) := by decide +kernel
theorem dX2_minimalCovers_12 : decode cX2_minimalCovers 12 = .ok (.putfield 89, 3) := by decide +kernel
theorem dX2_minimalCovers_15 : decode cX2_minimalCovers 15 = .ok (.aload_n 0, 1) := by decide +kernel
theorem dX2_minimalCovers_16 : decode cX2_minimalCovers 16 = .ok (.getfield 30, 3) := by decide +kernel
theorem dX2_minimalCovers_19 : decode cX2_minimalCovers 19 = .ok (.iconst 0, 1) := by decide +kernel
theorem dX2_minimalCovers_20 : decode cX2_minimalCovers 20 = .ok (.putfield 89, 3) := by decide +kernel
theorem dX2_minimalCovers_23 : decode cX2_minimalCovers 23 = .ok (.iconst 0, 1) := by decide +kernel
theorem dX2_minimalCovers_24 : decode cX2_minimalCovers 24 = .ok (.istore_n 1, 1) := by decide +kernel
theorem dX2_minimalCovers_25 : decode cX2_minimalCovers 25 = .ok (.iload_n 1, 1) := by decide +kernel
theorem dX2_minimalCovers_26 : decode cX2_minimalCovers 26 = .ok (.aload_n 0, 1) := by decide +kernel
theorem dX2_minimalCovers_27 : decode cX2_minimalCovers 27 = .ok (.getfield 9, 3) := by decide +kernel
theorem dX2_minimalCovers_30 : decode cX2_minimalCovers 30 = .ok (.invokevirtual 92, 3) := by decide +kernel
theorem dX2_minimalCovers_33 : decode cX2_minimalCovers 33 = .ok (.if_icmp .gt 41, 3) := by decide +kernel
theorem dX2_minimalCovers_36 : decode cX2_minimalCovers 36 = .ok (.aload_n 0, 1) := by decide +kernel
theorem dX2_minimalCovers_37 : decode cX2_minimalCovers 37 = .ok (.getfield 9, 3) := by decide +kernel
theorem dX2_minimalCovers_40 : decode cX2_minimalCovers 40 = .ok (.iload_n 1, 1) := by decide +kernel
theorem dX2_minimalCovers_41 : decode cX2_minimalCovers 41 = .ok (.invokevirtual 96, 3) := by decide +kernel
theorem dX2_minimalCovers_44 : decode cX2_minimalCovers 44 = .ok (.ifCond .eq 24, 3) := by decide +kernel
theorem dX2_minimalCovers_47 : decode cX2_minimalCovers 47 = .ok (.aload_n 0, 1) := by decide +kernel
theorem dX2_minimalCovers_48 : decode cX2_minimalCovers 48 = .ok (.getfield 26, 3) := by decide +kernel
theorem dX2_minimalCovers_51 : decode cX2_minimalCovers 51 = .ok (.iload_n 1, 1) := by decide +kernel
theorem dX2_minimalCovers_52 : decode cX2_minimalCovers 52 = .ok (.invokevirtual 100, 3) := by decide +kernel
theorem dX2_minimalCovers_55 : decode cX2_minimalCovers 55 = .ok (.pop, 1) := by decide +kernel
theorem dX2_minimalCovers_56 : decode cX2_minimalCovers 56 = .ok (.aload_n 0, 1) := by decide +kernel
theorem dX2_minimalCovers_57 : decode cX2_minimalCovers 57 = .ok (.getfield 30, 3) := by decide +kernel
theorem dX2_minimalCovers_60 : decode cX2_minimalCovers 60 = .ok (.iload_n 1, 1) := by decide +kernel
theorem dX2_minimalCovers_61 : decode cX2_minimalCovers 61 = .ok (.invokestatic 103, 3) := by decide +kernel
theorem dX2_minimalCovers_64 : decode cX2_minimalCovers 64 = .ok (.invokevirtual 100, 3) := by decide +kernel
theorem dX2_minimalCovers_67 : decode cX2_minimalCovers 67 = .ok (.pop, 1) := by decide +kernel
theorem dX2_minimalCovers_68 : decode cX2_minimalCovers 68 = .ok (.iinc 1 1, 3) := by decide +kernel
theorem dX2_minimalCovers_71 : decode cX2_minimalCovers 71 = .ok (.goto (-46), 3) := by decide +kernel
theorem dX2_minimalCovers_74 : decode cX2_minimalCovers 74 = .ok (.aload_n 0, 1) := by decide +kernel
theorem dX2_minimalCovers_75 : decode cX2_minimalCovers 75 = .ok (.iconst 1, 1) := by decide +kernel
theorem dX2_minimalCovers_76 : decode cX2_minimalCovers 76 = .ok (.putfield 51, 3) := by decide +kernel
theorem dX2_minimalCovers_79 : decode cX2_minimalCovers 79 = .ok (.aload_n 0, 1) := by decide +kernel
theorem dX2_minimalCovers_80 : decode cX2_minimalCovers 80 = .ok (.getfield 26, 3) := by decide +kernel
theorem dX2_minimalCovers_83 : decode cX2_minimalCovers 83 = .ok (.areturn, 1) := by decide +kernel
theorem dX2_smallestCoverSize_0 : decode cX2_smallestCoverSize 0 = .ok (.bipush 7, 2) := by decide +kernel
theorem dX2_smallestCoverSize_2 : decode cX2_smallestCoverSize 2 = .ok (.istore_n 1, 1) := by decide +kernel
theorem dX2_smallestCoverSize_3 : decode cX2_smallestCoverSize 3 = .ok (.aload_n 0, 1) := by decide +kernel
theorem dX2_smallestCoverSize_4 : decode cX2_smallestCoverSize 4 = .ok (.invokevirtual 106, 3) := by decide +kernel
theorem dX2_smallestCoverSize_7 : decode cX2_smallestCoverSize 7 = .ok (.astore_n 2, 1) := by decide +kernel
theorem dX2_smallestCoverSize_8 : decode cX2_smallestCoverSize 8 = .ok (.iconst 0, 1) := by decide +kernel
theorem dX2_smallestCoverSize_9 : decode cX2_smallestCoverSize 9 = .ok (.istore_n 3, 1) := by decide +kernel
theorem dX2_smallestCoverSize_10 : decode cX2_smallestCoverSize 10 = .ok (.iload_n 3, 1) := by decide +kernel
theorem dX2_smallestCoverSize_11 : decode cX2_smallestCoverSize 11 = .ok (.aload_n 2, 1) := by decide +kernel
theorem dX2_smallestCoverSize_12 : decode cX2_smallestCoverSize 12 = .ok (.getfield 89, 3) := by decide +kernel
theorem dX2_smallestCoverSize_15 : decode cX2_smallestCoverSize 15 = .ok (.if_icmp .ge 23, 3) := by decide +kernel
theorem dX2_smallestCoverSize_18 : decode cX2_smallestCoverSize 18 = .ok (.iload_n 1, 1) := by decide +kernel
theorem dX2_smallestCoverSize_19 : decode cX2_smallestCoverSize 19 = .ok (.aload_n 2, 1) := by decide +kernel
theorem dX2_smallestCoverSize_20 : decode cX2_smallestCoverSize 20 = .ok (.getfield 110, 3) := by decide +kernel
theorem dX2_smallestCoverSize_23 : decode cX2_smallestCoverSize 23 = .ok (.iload_n 3, 1) := by decide +kernel
theorem dX2_smallestCoverSize_24 : decode cX2_smallestCoverSize 24 = .ok (.iaload, 1) := by decide +kernel
theorem dX2_smallestCoverSize_25 : decode cX2_smallestCoverSize 25 = .ok (.invokestatic 113, 3) := by decide +kernel
theorem dX2_smallestCoverSize_28 : decode cX2_smallestCoverSize 28 = .ok (.invokestatic 116, 3) := by decide +kernel
theorem dX2_smallestCoverSize_31 : decode cX2_smallestCoverSize 31 = .ok (.istore_n 1, 1) := by decide +kernel
theorem dX2_smallestCoverSize_32 : decode cX2_smallestCoverSize 32 = .ok (.iinc 3 1, 3) := by decide +kernel
theorem dX2_smallestCoverSize_35 : decode cX2_smallestCoverSize 35 = .ok (.goto (-25), 3) := by decide +kernel
theorem dX2_smallestCoverSize_38 : decode cX2_smallestCoverSize 38 = .ok (.iload_n 1, 1) := by decide +kernel
theorem dX2_smallestCoverSize_39 : decode cX2_smallestCoverSize 39 = .ok (.ireturn, 1) := by decide +kernel
theorem dX2_largestCoverSize_0 : decode cX2_largestCoverSize 0 = .ok (.iconst 0, 1) := by decide +kernel
theorem dX2_largestCoverSize_1 : decode cX2_largestCoverSize 1 = .ok (.istore_n 1, 1) := by decide +kernel
theorem dX2_largestCoverSize_2 : decode cX2_largestCoverSize 2 = .ok (.aload_n 0, 1) := by decide +kernel
theorem dX2_largestCoverSize_3 : decode cX2_largestCoverSize 3 = .ok (.invokevirtual 106, 3) := by decide +kernel
theorem dX2_largestCoverSize_6 : decode cX2_largestCoverSize 6 = .ok (.astore_n 2, 1) := by decide +kernel
theorem dX2_largestCoverSize_7 : decode cX2_largestCoverSize 7 = .ok (.iconst 0, 1) := by decide +kernel
theorem dX2_largestCoverSize_8 : decode cX2_largestCoverSize 8 = .ok (.istore_n 3, 1) := by decide +kernel
theorem dX2_largestCoverSize_9 : decode cX2_largestCoverSize 9 = .ok (.iload_n 3, 1) := by decide +kernel
theorem dX2_largestCoverSize_10 : decode cX2_largestCoverSize 10 = .ok (.aload_n 2, 1) := by decide +kernel
theorem dX2_largestCoverSize_11 : decode cX2_largestCoverSize 11 = .ok (.getfield 89, 3) := by decide +kernel
theorem dX2_largestCoverSize_14 : decode cX2_largestCoverSize 14 = .ok (.if_icmp .ge 23, 3) := by decide +kernel
theorem dX2_largestCoverSize_17 : decode cX2_largestCoverSize 17 = .ok (.iload_n 1, 1) := by decide +kernel
theorem dX2_largestCoverSize_18 : decode cX2_largestCoverSize 18 = .ok (.aload_n 2, 1) := by decide +kernel
theorem dX2_largestCoverSize_19 : decode cX2_largestCoverSize 19 = .ok (.getfield 110, 3) := by decide +kernel
theorem dX2_largestCoverSize_22 : decode cX2_largestCoverSize 22 = .ok (.iload_n 3, 1) := by decide +kernel
theorem dX2_largestCoverSize_23 : decode cX2_largestCoverSize 23 = .ok (.iaload, 1) := by decide +kernel
theorem dX2_largestCoverSize_24 : decode cX2_largestCoverSize 24 = .ok (.invokestatic 113, 3) := by decide +kernel
theorem dX2_largestCoverSize_27 : decode cX2_largestCoverSize 27 = .ok (.invokestatic 59, 3) := by decide +kernel
theorem dX2_largestCoverSize_30 : decode cX2_largestCoverSize 30 = .ok (.istore_n 1, 1) := by decide +kernel
theorem dX2_largestCoverSize_31 : decode cX2_largestCoverSize 31 = .ok (.iinc 3 1, 3) := by decide +kernel
theorem dX2_largestCoverSize_34 : decode cX2_largestCoverSize 34 = .ok (.goto (-25), 3) := by decide +kernel
theorem dX2_largestCoverSize_37 : decode cX2_largestCoverSize 37 = .ok (.iload_n 1, 1) := by decide +kernel
theorem dX2_largestCoverSize_38 : decode cX2_largestCoverSize 38 = .ok (.ireturn, 1) := by decide +kernel
theorem dX2_symbolicOrderOf_0 : decode cX2_symbolicOrderOf 0 = .ok (.bipush 21, 2) := by decide +kernel
theorem dX2_symbolicOrderOf_2 : decode cX2_symbolicOrderOf 2 = .ok (.istore_n 2, 1) := by decide +kernel
theorem dX2_symbolicOrderOf_3 : decode cX2_symbolicOrderOf 3 = .ok (.aload_n 0, 1) := by decide +kernel
theorem dX2_symbolicOrderOf_4 : decode cX2_symbolicOrderOf 4 = .ok (.invokevirtual 106, 3) := by decide +kernel
theorem dX2_symbolicOrderOf_7 : decode cX2_symbolicOrderOf 7 = .ok (.getfield 89, 3) := by decide +kernel
theorem dX2_symbolicOrderOf_10 : decode cX2_symbolicOrderOf 10 = .ok (.istore_n 3, 1) := by decide +kernel
theorem dX2_symbolicOrderOf_11 : decode cX2_symbolicOrderOf 11 = .ok (.iconst 0, 1) := by decide +kernel
theorem dX2_symbolicOrderOf_12 : decode cX2_symbolicOrderOf 12 = .ok (.istore 4, 2) := by decide +kernel
theorem dX2_symbolicOrderOf_14 : decode cX2_symbolicOrderOf 14 = .ok (.iload 4, 2) := by decide +kernel
theorem dX2_symbolicOrderOf_16 : decode cX2_symbolicOrderOf 16 = .ok (.iload_n 3, 1) := by decide +kernel
theorem dX2_symbolicOrderOf_17 : decode cX2_symbolicOrderOf 17 = .ok (.if_icmp .ge 29, 3) := by decide +kernel
theorem dX2_symbolicOrderOf_20 : decode cX2_symbolicOrderOf 20 = .ok (.iload_n 2, 1) := by decide +kernel
theorem dX2_symbolicOrderOf_21 : decode cX2_symbolicOrderOf 21 = .ok (.iload_n 1, 1) := by decide +kernel
theorem dX2_symbolicOrderOf_22 : decode cX2_symbolicOrderOf 22 = .ok (.aload_n 0, 1) := by decide +kernel
theorem dX2_symbolicOrderOf_23 : decode cX2_symbolicOrderOf 23 = .ok (.getfield 30, 3) := by decide +kernel
theorem dX2_symbolicOrderOf_26 : decode cX2_symbolicOrderOf 26 = .ok (.getfield 110, 3) := by decide +kernel
theorem dX2_symbolicOrderOf_29 : decode cX2_symbolicOrderOf 29 = .ok (.iload 4, 2) := by decide +kernel
theorem dX2_symbolicOrderOf_31 : decode cX2_symbolicOrderOf 31 = .ok (.iaload, 1) := by decide +kernel
theorem dX2_symbolicOrderOf_32 : decode cX2_symbolicOrderOf 32 = .ok (.iand, 1) := by decide +kernel
theorem dX2_symbolicOrderOf_33 : decode cX2_symbolicOrderOf 33 = .ok (.invokestatic 119, 3) := by decide +kernel
theorem dX2_symbolicOrderOf_36 : decode cX2_symbolicOrderOf 36 = .ok (.invokestatic 116, 3) := by decide +kernel
theorem dX2_symbolicOrderOf_39 : decode cX2_symbolicOrderOf 39 = .ok (.istore_n 2, 1) := by decide +kernel
theorem dX2_symbolicOrderOf_40 : decode cX2_symbolicOrderOf 40 = .ok (.iinc 4 1, 3) := by decide +kernel
theorem dX2_symbolicOrderOf_43 : decode cX2_symbolicOrderOf 43 = .ok (.goto (-29), 3) := by decide +kernel
theorem dX2_symbolicOrderOf_46 : decode cX2_symbolicOrderOf 46 = .ok (.iload_n 2, 1) := by decide +kernel
theorem dX2_symbolicOrderOf_47 : decode cX2_symbolicOrderOf 47 = .ok (.ireturn, 1) := by decide +kernel
theorem dX2_generators_0 : decode cX2_generators 0 = .ok (.aload_n 0, 1) := by decide +kernel
theorem dX2_generators_1 : decode cX2_generators 1 = .ok (.getfield 33, 3) := by decide +kernel
theorem dX2_generators_4 : decode cX2_generators 4 = .ok (.iload_n 1, 1) := by decide +kernel
theorem dX2_generators_5 : decode cX2_generators 5 = .ok (.iconst 1, 1) := by decide +kernel
theorem dX2_generators_6 : decode cX2_generators 6 = .ok (.isub, 1) := by decide +kernel
theorem dX2_generators_7 : decode cX2_generators 7 = .ok (.aaload, 1) := by decide +kernel
theorem dX2_generators_8 : decode cX2_generators 8 = .ok (.astore_n 2, 1) := by decide +kernel
theorem dX2_generators_9 : decode cX2_generators 9 = .ok (.aload_n 0, 1) := by decide +kernel
theorem dX2_generators_10 : decode cX2_generators 10 = .ok (.getfield 37, 3) := by decide +kernel
theorem dX2_generators_13 : decode cX2_generators 13 = .ok (.iload_n 1, 1) := by decide +kernel
theorem dX2_generators_14 : decode cX2_generators 14 = .ok (.iconst 1, 1) := by decide +kernel
theorem dX2_generators_15 : decode cX2_generators 15 = .ok (.isub, 1) := by decide +kernel
theorem dX2_generators_16 : decode cX2_generators 16 = .ok (.baload, 1) := by decide +kernel
theorem dX2_generators_17 : decode cX2_generators 17 = .ok (.ifCond .ne 60, 3) := by decide +kernel
theorem dX2_generators_20 : decode cX2_generators 20 = .ok (.aload_n 2, 1) := by decide +kernel
theorem dX2_generators_21 : decode cX2_generators 21 = .ok (.iconst 0, 1) := by decide +kernel
theorem dX2_generators_22 : decode cX2_generators 22 = .ok (.putfield 89, 3) := by decide +kernel
theorem dX2_generators_25 : decode cX2_generators 25 = .ok (.aload_n 0, 1) := by decide +kernel
theorem dX2_generators_26 : decode cX2_generators 26 = .ok (.getfield 9, 3) := by decide +kernel
theorem dX2_generators_29 : decode cX2_generators 29 = .ok (.invokevirtual 122, 3) := by decide +kernel
theorem dX2_generators_32 : decode cX2_generators 32 = .ok (.istore_n 3, 1) := by decide +kernel
theorem dX2_generators_33 : decode cX2_generators 33 = .ok (.iload_n 3, 1) := by decide +kernel
theorem dX2_generators_34 : decode cX2_generators 34 = .ok (.ifCond .lt 34, 3) := by decide +kernel
theorem dX2_generators_37 : decode cX2_generators 37 = .ok (.iload_n 3, 1) := by decide +kernel
theorem dX2_generators_38 : decode cX2_generators 38 = .ok (.invokestatic 119, 3) := by decide +kernel
theorem dX2_generators_41 : decode cX2_generators 41 = .ok (.iconst 2, 1) := by decide +kernel
theorem dX2_generators_42 : decode cX2_generators 42 = .ok (.iload_n 1, 1) := by decide +kernel
theorem dX2_generators_43 : decode cX2_generators 43 = .ok (.imul, 1) := by decide +kernel
theorem dX2_generators_44 : decode cX2_generators 44 = .ok (.if_icmp .ne 18, 3) := by decide +kernel
theorem dX2_generators_47 : decode cX2_generators 47 = .ok (.aload_n 0, 1) := by decide +kernel
theorem dX2_generators_48 : decode cX2_generators 48 = .ok (.iload_n 3, 1) := by decide +kernel
theorem dX2_generators_49 : decode cX2_generators 49 = .ok (.invokevirtual 125, 3) := by decide +kernel
theorem dX2_generators_52 : decode cX2_generators 52 = .ok (.iload_n 1, 1) := by decide +kernel
theorem dX2_generators_53 : decode cX2_generators 53 = .ok (.if_icmp .lt 9, 3) := by decide +kernel
theorem dX2_generators_56 : decode cX2_generators 56 = .ok (.aload_n 2, 1) := by decide +kernel
theorem dX2_generators_57 : decode cX2_generators 57 = .ok (.iload_n 3, 1) := by decide +kernel
theorem dX2_generators_58 : decode cX2_generators 58 = .ok (.invokevirtual 100, 3) := by decide +kernel
theorem dX2_generators_61 : decode cX2_generators 61 = .ok (.pop, 1) := by decide +kernel
theorem dX2_generators_62 : decode cX2_generators 62 = .ok (.iinc 3 (-1), 3) := by decide +kernel
theorem dX2_generators_65 : decode cX2_generators 65 = .ok (.goto (-32), 3) := by decide +kernel
theorem dX2_generators_68 : decode cX2_generators 68 = .ok (.aload_n 0, 1) := by decide +kernel
theorem dX2_generators_69 : decode cX2_generators 69 = .ok (.getfield 37, 3) := by decide +kernel
theorem dX2_generators_72 : decode cX2_generators 72 = .ok (.iload_n 1, 1) := by decide +kernel
theorem dX2_generators_73 : decode cX2_generators 73 = .ok (.iconst 1, 1) := by decide +kernel
theorem dX2_generators_74 : decode cX2_generators 74 = .ok (.isub, 1) := by decide +kernel
theorem dX2_generators_75 : decode cX2_generators 75 = .ok (.iconst 1, 1) := by decide +kernel
theorem dX2_generators_76 : decode cX2_generators 76 = .ok (.bastore, 1) := by decide +kernel
theorem dX2_generators_77 : decode cX2_generators 77 = .ok (.aload_n 2, 1) := by decide +kernel
theorem dX2_generators_78 : decode cX2_generators 78 = .ok (.areturn, 1) := by decide +kernel
theorem dX2_isListedGenerator_0 : decode cX2_isListedGenerator 0 = .ok (.iload_n 1, 1) := by decide +kernel
theorem dX2_isListedGenerator_1 : decode cX2_isListedGenerator 1 = .ok (.ifCond .lt 25, 3) := by decide +kernel
theorem dX2_isListedGenerator_4 : decode cX2_isListedGenerator 4 = .ok (.iload_n 1, 1) := by decide +kernel
theorem dX2_isListedGenerator_5 : decode cX2_isListedGenerator 5 = .ok (.aload_n 0, 1) := by decide +kernel
theorem dX2_isListedGenerator_6 : decode cX2_isListedGenerator 6 = .ok (.getfield 47, 3) := by decide +kernel
theorem dX2_isListedGenerator_9 : decode cX2_isListedGenerator 9 = .ok (.if_icmp .ge 17, 3) := by decide +kernel
theorem dX2_isListedGenerator_12 : decode cX2_isListedGenerator 12 = .ok (.aload_n 0, 1) := by decide +kernel
theorem dX2_isListedGenerator_13 : decode cX2_isListedGenerator 13 = .ok (.getfield 17, 3) := by decide +kernel
theorem dX2_isListedGenerator_16 : decode cX2_isListedGenerator 16 = .ok (.iload_n 1, 1) := by decide +kernel
theorem dX2_isListedGenerator_17 : decode cX2_isListedGenerator 17 = .ok (.iaload, 1) := by decide +kernel
theorem dX2_isListedGenerator_18 : decode cX2_isListedGenerator 18 = .ok (.iload_n 2, 1) := by decide +kernel
theorem dX2_isListedGenerator_19 : decode cX2_isListedGenerator 19 = .ok (.if_icmp .lt 7, 3) := by decide +kernel
theorem dX2_isListedGenerator_22 : decode cX2_isListedGenerator 22 = .ok (.iconst 1, 1) := by decide +kernel
theorem dX2_isListedGenerator_23 : decode cX2_isListedGenerator 23 = .ok (.goto 4, 3) := by decide +kernel
theorem dX2_isListedGenerator_26 : decode cX2_isListedGenerator 26 = .ok (.iconst 0, 1) := by decide +kernel
theorem dX2_isListedGenerator_27 : decode cX2_isListedGenerator 27 = .ok (.ireturn, 1) := by decide +kernel
theorem dX2_symbolicGenerators_0 : decode cX2_symbolicGenerators 0 = .ok (.aload_n 0, 1) := by decide +kernel
theorem dX2_symbolicGenerators_1 : decode cX2_symbolicGenerators 1 = .ok (.getfield 41, 3) := by decide +kernel
theorem dX2_symbolicGenerators_4 : decode cX2_symbolicGenerators 4 = .ok (.iload_n 1, 1) := by decide +kernel
theorem dX2_symbolicGenerators_5 : decode cX2_symbolicGenerators 5 = .ok (.iconst 1, 1) := by decide +kernel
theorem dX2_symbolicGenerators_6 : decode cX2_symbolicGenerators 6 = .ok (.isub, 1) := by decide +kernel
theorem dX2_symbolicGenerators_7 : decode cX2_symbolicGenerators 7 = .ok (.aaload, 1) := by decide +kernel
theorem dX2_symbolicGenerators_8 : decode cX2_symbolicGenerators 8 = .ok (.astore_n 2, 1) := by decide +kernel
theorem dX2_symbolicGenerators_9 : decode cX2_symbolicGenerators 9 = .ok (.aload_n 0, 1) := by decide +kernel
theorem dX2_symbolicGenerators_10 : decode cX2_symbolicGenerators 10 = .ok (.getfield 44, 3) := by decide +kernel
theorem dX2_symbolicGenerators_13 : decode cX2_symbolicGenerators 13 = .ok (.iload_n 1, 1) := by decide +kernel
theorem dX2_symbolicGenerators_14 : decode cX2_symbolicGenerators 14 = .ok (.iconst 1, 1) := by decide +kernel
theorem dX2_symbolicGenerators_15 : decode cX2_symbolicGenerators 15 = .ok (.isub, 1) := by decide +kernel
theorem dX2_symbolicGenerators_16 : decode cX2_symbolicGenerators 16 = .ok (.baload, 1) := by decide +kernel
theorem dX2_symbolicGenerators_17 : decode cX2_symbolicGenerators 17 = .ok (.ifCond .ne 55, 3) := by decide +kernel
theorem dX2_symbolicGenerators_20 : decode cX2_symbolicGenerators 20 = .ok (.aload_n 2, 1) := by decide +kernel
theorem dX2_symbolicGenerators_21 : decode cX2_symbolicGenerators 21 = .ok (.iconst 0, 1) := by decide +kernel
theorem dX2_symbolicGenerators_22 : decode cX2_symbolicGenerators 22 = .ok (.putfield 89, 3) := by decide +kernel
theorem dX2_symbolicGenerators_25 : decode cX2_symbolicGenerators 25 = .ok (.aload_n 0, 1) := by decide +kernel
theorem dX2_symbolicGenerators_26 : decode cX2_symbolicGenerators 26 = .ok (.invokevirtual 106, 3) := by decide +kernel
theorem dX2_symbolicGenerators_29 : decode cX2_symbolicGenerators 29 = .ok (.pop, 1) := by decide +kernel
theorem dX2_symbolicGenerators_30 : decode cX2_symbolicGenerators 30 = .ok (.aload_n 0, 1) := by decide +kernel
theorem dX2_symbolicGenerators_31 : decode cX2_symbolicGenerators 31 = .ok (.getfield 9, 3) := by decide +kernel
theorem dX2_symbolicGenerators_34 : decode cX2_symbolicGenerators 34 = .ok (.invokevirtual 122, 3) := by decide +kernel
theorem dX2_symbolicGenerators_37 : decode cX2_symbolicGenerators 37 = .ok (.istore_n 3, 1) := by decide +kernel
theorem dX2_symbolicGenerators_38 : decode cX2_symbolicGenerators 38 = .ok (.iload_n 3, 1) := by decide +kernel
theorem dX2_symbolicGenerators_39 : decode cX2_symbolicGenerators 39 = .ok (.ifCond .lt 24, 3) := by decide +kernel
theorem dX2_symbolicGenerators_42 : decode cX2_symbolicGenerators 42 = .ok (.aload_n 0, 1) := by decide +kernel
theorem dX2_symbolicGenerators_43 : decode cX2_symbolicGenerators 43 = .ok (.iload_n 3, 1) := by decide +kernel
theorem dX2_symbolicGenerators_44 : decode cX2_symbolicGenerators 44 = .ok (.iload_n 1, 1) := by decide +kernel
theorem dX2_symbolicGenerators_45 : decode cX2_symbolicGenerators 45 = .ok (.invokevirtual 128, 3) := by decide +kernel
theorem dX2_symbolicGenerators_48 : decode cX2_symbolicGenerators 48 = .ok (.ifCond .eq 9, 3) := by decide +kernel
theorem dX2_symbolicGenerators_51 : decode cX2_symbolicGenerators 51 = .ok (.aload_n 2, 1) := by decide +kernel
theorem dX2_symbolicGenerators_52 : decode cX2_symbolicGenerators 52 = .ok (.iload_n 3, 1) := by decide +kernel
theorem dX2_symbolicGenerators_53 : decode cX2_symbolicGenerators 53 = .ok (.invokevirtual 100, 3) := by decide +kernel
theorem dX2_symbolicGenerators_56 : decode cX2_symbolicGenerators 56 = .ok (.pop, 1) := by decide +kernel
theorem dX2_symbolicGenerators_57 : decode cX2_symbolicGenerators 57 = .ok (.iinc 3 (-1), 3) := by decide +kernel
theorem dX2_symbolicGenerators_60 : decode cX2_symbolicGenerators 60 = .ok (.goto (-22), 3) := by decide +kernel
theorem dX2_symbolicGenerators_63 : decode cX2_symbolicGenerators 63 = .ok (.aload_n 0, 1) := by decide +kernel
theorem dX2_symbolicGenerators_64 : decode cX2_symbolicGenerators 64 = .ok (.getfield 44, 3) := by decide +kernel
theorem dX2_symbolicGenerators_67 : decode cX2_symbolicGenerators 67 = .ok (.iload_n 1, 1) := by decide +kernel
theorem dX2_symbolicGenerators_68 : decode cX2_symbolicGenerators 68 = .ok (.iconst 1, 1) := by decide +kernel
theorem dX2_symbolicGenerators_69 : decode cX2_symbolicGenerators 69 = .ok (.isub, 1) := by decide +kernel
theorem dX2_symbolicGenerators_70 : decode cX2_symbolicGenerators 70 = .ok (.iconst 1, 1) := by decide +kernel
theorem dX2_symbolicGenerators_71 : decode cX2_symbolicGenerators 71 = .ok (.bastore, 1) := by decide +kernel
theorem dX2_symbolicGenerators_72 : decode cX2_symbolicGenerators 72 = .ok (.aload_n 2, 1) := by decide +kernel
theorem dX2_symbolicGenerators_73 : decode cX2_symbolicGenerators 73 = .ok (.areturn, 1) := by decide +kernel
theorem dX2_isSymbolicGenerator_0 : decode cX2_isSymbolicGenerator 0 = .ok (.iconst 0, 1) := by decide +kernel
theorem dX2_isSymbolicGenerator_1 : decode cX2_isSymbolicGenerator 1 = .ok (.istore_n 3, 1) := by decide +kernel
theorem dX2_isSymbolicGenerator_2 : decode cX2_isSymbolicGenerator 2 = .ok (.iconst 0, 1) := by decide +kernel
theorem dX2_isSymbolicGenerator_3 : decode cX2_isSymbolicGenerator 3 = .ok (.istore 4, 2) := by decide +kernel
theorem dX2_isSymbolicGenerator_5 : decode cX2_isSymbolicGenerator 5 = .ok (.iload 4, 2) := by decide +kernel
theorem dX2_isSymbolicGenerator_7 : decode cX2_isSymbolicGenerator 7 = .ok (.aload_n 0, 1) := by decide +kernel
theorem dX2_isSymbolicGenerator_8 : decode cX2_isSymbolicGenerator 8 = .ok (.getfield 30, 3) := by decide +kernel
theorem dX2_isSymbolicGenerator_11 : decode cX2_isSymbolicGenerator 11 = .ok (.getfield 89, 3) := by decide +kernel
theorem dX2_isSymbolicGenerator_14 : decode cX2_isSymbolicGenerator 14 = .ok (.if_icmp .ge 53, 3) := by decide +kernel
theorem dX2_isSymbolicGenerator_17 : decode cX2_isSymbolicGenerator 17 = .ok (.iload_n 1, 1) := by decide +kernel
theorem dX2_isSymbolicGenerator_18 : decode cX2_isSymbolicGenerator 18 = .ok (.aload_n 0, 1) := by decide +kernel
theorem dX2_isSymbolicGenerator_19 : decode cX2_isSymbolicGenerator 19 = .ok (.getfield 30, 3) := by decide +kernel
theorem dX2_isSymbolicGenerator_22 : decode cX2_isSymbolicGenerator 22 = .ok (.getfield 110, 3) := by decide +kernel
theorem dX2_isSymbolicGenerator_25 : decode cX2_isSymbolicGenerator 25 = .ok (.iload 4, 2) := by decide +kernel
theorem dX2_isSymbolicGenerator_27 : decode cX2_isSymbolicGenerator 27 = .ok (.iaload, 1) := by decide +kernel
theorem dX2_isSymbolicGenerator_28 : decode cX2_isSymbolicGenerator 28 = .ok (.iand, 1) := by decide +kernel
theorem dX2_isSymbolicGenerator_29 : decode cX2_isSymbolicGenerator 29 = .ok (.invokestatic 119, 3) := by decide +kernel
theorem dX2_isSymbolicGenerator_32 : decode cX2_isSymbolicGenerator 32 = .ok (.istore 5, 2) := by decide +kernel
theorem dX2_isSymbolicGenerator_34 : decode cX2_isSymbolicGenerator 34 = .ok (.iload 5, 2) := by decide +kernel
theorem dX2_isSymbolicGenerator_36 : decode cX2_isSymbolicGenerator 36 = .ok (.iload_n 2, 1) := by decide +kernel
theorem dX2_isSymbolicGenerator_37 : decode cX2_isSymbolicGenerator 37 = .ok (.if_icmp .ge 5, 3) := by decide +kernel
theorem dX2_isSymbolicGenerator_40 : decode cX2_isSymbolicGenerator 40 = .ok (.iconst 0, 1) := by decide +kernel
theorem dX2_isSymbolicGenerator_41 : decode cX2_isSymbolicGenerator 41 = .ok (.ireturn, 1) := by decide +kernel
theorem dX2_isSymbolicGenerator_42 : decode cX2_isSymbolicGenerator 42 = .ok (.iload 5, 2) := by decide +kernel
theorem dX2_isSymbolicGenerator_44 : decode cX2_isSymbolicGenerator 44 = .ok (.iload_n 2, 1) := by decide +kernel
theorem dX2_isSymbolicGenerator_45 : decode cX2_isSymbolicGenerator 45 = .ok (.if_icmp .ne 16, 3) := by decide +kernel
theorem dX2_isSymbolicGenerator_48 : decode cX2_isSymbolicGenerator 48 = .ok (.iload_n 3, 1) := by decide +kernel
theorem dX2_isSymbolicGenerator_49 : decode cX2_isSymbolicGenerator 49 = .ok (.aload_n 0, 1) := by decide +kernel
theorem dX2_isSymbolicGenerator_50 : decode cX2_isSymbolicGenerator 50 = .ok (.getfield 30, 3) := by decide +kernel
theorem dX2_isSymbolicGenerator_53 : decode cX2_isSymbolicGenerator 53 = .ok (.getfield 110, 3) := by decide +kernel
theorem dX2_isSymbolicGenerator_56 : decode cX2_isSymbolicGenerator 56 = .ok (.iload 4, 2) := by decide +kernel
theorem dX2_isSymbolicGenerator_58 : decode cX2_isSymbolicGenerator 58 = .ok (.iaload, 1) := by decide +kernel
theorem dX2_isSymbolicGenerator_59 : decode cX2_isSymbolicGenerator 59 = .ok (.ior, 1) := by decide +kernel
theorem dX2_isSymbolicGenerator_60 : decode cX2_isSymbolicGenerator 60 = .ok (.istore_n 3, 1) := by decide +kernel
theorem dX2_isSymbolicGenerator_61 : decode cX2_isSymbolicGenerator 61 = .ok (.iinc 4 1, 3) := by decide +kernel
theorem dX2_isSymbolicGenerator_64 : decode cX2_isSymbolicGenerator 64 = .ok (.goto (-59), 3) := by decide +kernel
theorem dX2_isSymbolicGenerator_67 : decode cX2_isSymbolicGenerator 67 = .ok (.iload_n 1, 1) := by decide +kernel
theorem dX2_isSymbolicGenerator_68 : decode cX2_isSymbolicGenerator 68 = .ok (.iload_n 3, 1) := by decide +kernel
theorem dX2_isSymbolicGenerator_69 : decode cX2_isSymbolicGenerator 69 = .ok (.iconst (-1), 1) := by decide +kernel
theorem dX2_isSymbolicGenerator_70 : decode cX2_isSymbolicGenerator 70 = .ok (.ixor, 1) := by decide +kernel
theorem dX2_isSymbolicGenerator_71 : decode cX2_isSymbolicGenerator 71 = .ok (.iand, 1) := by decide +kernel
theorem dX2_isSymbolicGenerator_72 : decode cX2_isSymbolicGenerator 72 = .ok (.ifCond .ne 7, 3) := by decide +kernel
theorem dX2_isSymbolicGenerator_75 : decode cX2_isSymbolicGenerator 75 = .ok (.iconst 1, 1) := by decide +kernel
theorem dX2_isSymbolicGenerator_76 : decode cX2_isSymbolicGenerator 76 = .ok (.goto 4, 3) := by decide +kernel
theorem dX2_isSymbolicGenerator_79 : decode cX2_isSymbolicGenerator 79 = .ok (.iconst 0, 1) := by decide +kernel
theorem dX2_isSymbolicGenerator_80 : decode cX2_isSymbolicGenerator 80 = .ok (.ireturn, 1) := by decide +kernel
theorem dX2_lowestOnlySymbolic_0 : decode cX2_lowestOnlySymbolic 0 = .ok (.aload_n 0, 1) := by decide +kernel
theorem dX2_lowestOnlySymbolic_1 : decode cX2_lowestOnlySymbolic 1 = .ok (.iload_n 1, 1) := by decide +kernel
theorem dX2_lowestOnlySymbolic_2 : decode cX2_lowestOnlySymbolic 2 = .ok (.invokevirtual 132, 3) := by decide +kernel
theorem dX2_lowestOnlySymbolic_5 : decode cX2_lowestOnlySymbolic 5 = .ok (.astore_n 2, 1) := by decide +kernel
theorem dX2_lowestOnlySymbolic_6 : decode cX2_lowestOnlySymbolic 6 = .ok (.aload_n 2, 1) := by decide +kernel
theorem dX2_lowestOnlySymbolic_7 : decode cX2_lowestOnlySymbolic 7 = .ok (.getfield 89, 3) := by decide +kernel
theorem dX2_lowestOnlySymbolic_10 : decode cX2_lowestOnlySymbolic 10 = .ok (.iconst 1, 1) := by decide +kernel
theorem dX2_lowestOnlySymbolic_11 : decode cX2_lowestOnlySymbolic 11 = .ok (.isub, 1) := by decide +kernel
theorem dX2_lowestOnlySymbolic_12 : decode cX2_lowestOnlySymbolic 12 = .ok (.istore_n 3, 1) := by decide +kernel
theorem dX2_lowestOnlySymbolic_13 : decode cX2_lowestOnlySymbolic 13 = .ok (.iload_n 3, 1) := by decide +kernel
theorem dX2_lowestOnlySymbolic_14 : decode cX2_lowestOnlySymbolic 14 = .ok (.ifCond .lt 30, 3) := by decide +kernel
theorem dX2_lowestOnlySymbolic_17 : decode cX2_lowestOnlySymbolic 17 = .ok (.aload_n 0, 1) := by decide +kernel
theorem dX2_lowestOnlySymbolic_18 : decode cX2_lowestOnlySymbolic 18 = .ok (.aload_n 2, 1) := by decide +kernel
theorem dX2_lowestOnlySymbolic_19 : decode cX2_lowestOnlySymbolic 19 = .ok (.getfield 110, 3) := by decide +kernel
theorem dX2_lowestOnlySymbolic_22 : decode cX2_lowestOnlySymbolic 22 = .ok (.iload_n 3, 1) := by decide +kernel
theorem dX2_lowestOnlySymbolic_23 : decode cX2_lowestOnlySymbolic 23 = .ok (.iaload, 1) := by decide +kernel
theorem dX2_lowestOnlySymbolic_24 : decode cX2_lowestOnlySymbolic 24 = .ok (.invokevirtual 125, 3) := by decide +kernel
theorem dX2_lowestOnlySymbolic_27 : decode cX2_lowestOnlySymbolic 27 = .ok (.iload_n 1, 1) := by decide +kernel
theorem dX2_lowestOnlySymbolic_28 : decode cX2_lowestOnlySymbolic 28 = .ok (.if_icmp .ge 10, 3) := by decide +kernel
theorem dX2_lowestOnlySymbolic_31 : decode cX2_lowestOnlySymbolic 31 = .ok (.aload_n 2, 1) := by decide +kernel
theorem dX2_lowestOnlySymbolic_32 : decode cX2_lowestOnlySymbolic 32 = .ok (.getfield 110, 3) := by decide +kernel
theorem dX2_lowestOnlySymbolic_35 : decode cX2_lowestOnlySymbolic 35 = .ok (.iload_n 3, 1) := by decide +kernel
theorem dX2_lowestOnlySymbolic_36 : decode cX2_lowestOnlySymbolic 36 = .ok (.iaload, 1) := by decide +kernel
theorem dX2_lowestOnlySymbolic_37 : decode cX2_lowestOnlySymbolic 37 = .ok (.ireturn, 1) := by decide +kernel
theorem dX2_lowestOnlySymbolic_38 : decode cX2_lowestOnlySymbolic 38 = .ok (.iinc 3 (-1), 3) := by decide +kernel
theorem dX2_lowestOnlySymbolic_41 : decode cX2_lowestOnlySymbolic 41 = .ok (.goto (-28), 3) := by decide +kernel
theorem dX2_lowestOnlySymbolic_44 : decode cX2_lowestOnlySymbolic 44 = .ok (.bipush (-2), 2) := by decide +kernel
theorem dX2_lowestOnlySymbolic_46 : decode cX2_lowestOnlySymbolic 46 = .ok (.ireturn, 1) := by decide +kernel
theorem dX3_init_0 : decode cX3_init 0 = .ok (.aload_n 0, 1) := by decide +kernel
theorem dX3_init_1 : decode cX3_init 1 = .ok (.invokespecial 3, 3) := by decide +kernel
theorem dX3_init_4 : decode cX3_init 4 = .ok (.aload_n 0, 1) := by decide +kernel
theorem dX3_init_5 : decode cX3_init 5 = .ok (.new 9, 3) := by decide +kernel
theorem dX3_init_8 : decode cX3_init 8 = .ok (.dup, 1) := by decide +kernel
theorem dX3_init_9 : decode cX3_init 9 = .ok (.bipush 60, 2) := by decide +kernel
theorem dX3_init_11 : decode cX3_init 11 = .ok (.invokespecial 11, 3) := by decide +kernel
theorem dX3_init_14 : decode cX3_init 14 = .ok (.putfield 14, 3) := by decide +kernel
theorem dX3_init_17 : decode cX3_init 17 = .ok (.aload_n 0, 1) := by decide +kernel
theorem dX3_init_18 : decode cX3_init 18 = .ok (.new 9, 3) := by decide +kernel
theorem dX3_init_21 : decode cX3_init 21 = .ok (.dup, 1) := by decide +kernel
theorem dX3_init_22 : decode cX3_init 22 = .ok (.bipush 24, 2) := by decide +kernel
theorem dX3_init_24 : decode cX3_init 24 = .ok (.invokespecial 11, 3) := by decide +kernel
theorem dX3_init_27 : decode cX3_init 27 = .ok (.putfield 20, 3) := by decide +kernel
theorem dX3_init_30 : decode cX3_init 30 = .ok (.aload_n 0, 1) := by decide +kernel
theorem dX3_init_31 : decode cX3_init 31 = .ok (.iconst 0, 1) := by decide +kernel
theorem dX3_init_32 : decode cX3_init 32 = .ok (.putfield 23, 3) := by decide +kernel
theorem dX3_init_35 : decode cX3_init 35 = .ok (.return_, 1) := by decide +kernel
theorem dX3_read_0 : decode cX3_read 0 = .ok (.aload_n 0, 1) := by decide +kernel
theorem dX3_read_1 : decode cX3_read 1 = .ok (.getfield 20, 3) := by decide +kernel
theorem dX3_read_4 : decode cX3_read 4 = .ok (.iconst 0, 1) := by decide +kernel
theorem dX3_read_5 : decode cX3_read 5 = .ok (.putfield 27, 3) := by decide +kernel
theorem dX3_read_8 : decode cX3_read 8 = .ok (.aload_n 0, 1) := by decide +kernel
theorem dX3_read_9 : decode cX3_read 9 = .ok (.iconst 0, 1) := by decide +kernel
theorem dX3_read_10 : decode cX3_read 10 = .ok (.putfield 23, 3) := by decide +kernel
theorem dX3_read_13 : decode cX3_read 13 = .ok (.iconst 0, 1) := by decide +kernel
theorem dX3_read_14 : decode cX3_read 14 = .ok (.istore_n 1, 1) := by decide +kernel
theorem dX3_read_15 : decode cX3_read 15 = .ok (.iload_n 1, 1) := by decide +kernel
theorem dX3_read_16 : decode cX3_read 16 = .ok (.aload_n 0, 1) := by decide +kernel
theorem dX3_read_17 : decode cX3_read 17 = .ok (.getfield 14, 3) := by decide +kernel
theorem dX3_read_20 : decode cX3_read 20 = .ok (.getfield 27, 3) := by decide +kernel
theorem dX3_read_23 : decode cX3_read 23 = .ok (.if_icmp .ge 27, 3) := by decide +kernel
theorem dX3_read_26 : decode cX3_read 26 = .ok (.aload_n 0, 1) := by decide +kernel
theorem dX3_read_27 : decode cX3_read 27 = .ok (.aload_n 0, 1) := by decide +kernel
theorem dX3_read_28 : decode cX3_read 28 = .ok (.getfield 14, 3) := by decide +kernel
theorem dX3_read_31 : decode cX3_read 31 = .ok (.getfield 30, 3) := by decide +kernel
theorem dX3_read_34 : decode cX3_read 34 = .ok (.iload_n 1, 1) := by decide +kernel
theorem dX3_read_35 : decode cX3_read 35 = .ok (.iaload, 1) := by decide +kernel
theorem dX3_read_36 : decode cX3_read 36 = .ok (.invokevirtual 34, 3) := by decide +kernel
theorem dX3_read_39 : decode cX3_read 39 = .ok (.ifCond .ne 5, 3) := by decide +kernel
theorem dX3_read_42 : decode cX3_read 42 = .ok (.iload_n 1, 1) := by decide +kernel
theorem dX3_read_43 : decode cX3_read 43 = .ok (.ireturn, 1) := by decide +kernel
theorem dX3_read_44 : decode cX3_read 44 = .ok (.iinc 1 1, 3) := by decide +kernel
theorem dX3_read_47 : decode cX3_read 47 = .ok (.goto (-32), 3) := by decide +kernel
theorem dX3_read_50 : decode cX3_read 50 = .ok (.aload_n 0, 1) := by decide +kernel
theorem dX3_read_51 : decode cX3_read 51 = .ok (.getfield 23, 3) := by decide +kernel
theorem dX3_read_54 : decode cX3_read 54 = .ok (.ifCond .ne 11, 3) := by decide +kernel
theorem dX3_read_57 : decode cX3_read 57 = .ok (.aload_n 0, 1) := by decide +kernel
theorem dX3_read_58 : decode cX3_read 58 = .ok (.getfield 14, 3) := by decide +kernel
theorem dX3_read_61 : decode cX3_read 61 = .ok (.getfield 27, 3) := by decide +kernel
theorem dX3_read_64 : decode cX3_read 64 = .ok (.ireturn, 1) := by decide +kernel
theorem dX3_read_65 : decode cX3_read 65 = .ok (.aload_n 0, 1) := by decide +kernel
theorem dX3_read_66 : decode cX3_read 66 = .ok (.getfield 20, 3) := by decide +kernel
theorem dX3_read_69 : decode cX3_read 69 = .ok (.aload_n 0, 1) := by decide +kernel
theorem dX3_read_70 : decode cX3_read 70 = .ok (.getfield 38, 3) := by decide +kernel
theorem dX3_read_73 : decode cX3_read 73 = .ok (.invokevirtual 41, 3) := by decide +kernel
theorem dX3_read_76 : decode cX3_read 76 = .ok (.pop, 1) := by decide +kernel
theorem dX3_read_77 : decode cX3_read 77 = .ok (.bipush (-2), 2) := by decide +kernel
theorem dX3_read_79 : decode cX3_read 79 = .ok (.ireturn, 1) := by decide +kernel
theorem dX3_take_0 : decode cX3_take 0 = .ok (.iload_n 1, 1) := by decide +kernel
theorem dX3_take_1 : decode cX3_take 1 = .ok (.bipush 44, 2) := by decide +kernel
theorem dX3_take_3 : decode cX3_take 3 = .ok (.if_icmp .ne 8, 3) := by decide +kernel
theorem dX3_take_6 : decode cX3_take 6 = .ok (.aload_n 0, 1) := by decide +kernel
theorem dX3_take_7 : decode cX3_take 7 = .ok (.invokevirtual 44, 3) := by decide +kernel
theorem dX3_take_10 : decode cX3_take 10 = .ok (.ireturn, 1) := by decide +kernel
theorem dX3_take_11 : decode cX3_take 11 = .ok (.iload_n 1, 1) := by decide +kernel
theorem dX3_take_12 : decode cX3_take 12 = .ok (.bipush 49, 2) := by decide +kernel
theorem dX3_take_14 : decode cX3_take 14 = .ok (.if_icmp .ne 8, 3) := by decide +kernel
theorem dX3_take_17 : decode cX3_take 17 = .ok (.aload_n 0, 1) := by decide +kernel
theorem dX3_take_18 : decode cX3_take 18 = .ok (.invokevirtual 48, 3) := by decide +kernel
theorem dX3_take_21 : decode cX3_take 21 = .ok (.ireturn, 1) := by decide +kernel
theorem dX3_take_22 : decode cX3_take 22 = .ok (.iload_n 1, 1) := by decide +kernel
theorem dX3_take_23 : decode cX3_take 23 = .ok (.bipush 50, 2) := by decide +kernel
theorem dX3_take_25 : decode cX3_take 25 = .ok (.if_icmp .eq 9, 3) := by decide +kernel
theorem dX3_take_28 : decode cX3_take 28 = .ok (.iload_n 1, 1) := by decide +kernel
theorem dX3_take_29 : decode cX3_take 29 = .ok (.bipush 51, 2) := by decide +kernel
theorem dX3_take_31 : decode cX3_take 31 = .ok (.if_icmp .ne 12, 3) := by decide +kernel
theorem dX3_take_34 : decode cX3_take 34 = .ok (.aload_n 0, 1) := by decide +kernel
theorem dX3_take_35 : decode cX3_take 35 = .ok (.iload_n 1, 1) := by decide +kernel
theorem dX3_take_36 : decode cX3_take 36 = .ok (.bipush 48, 2) := by decide +kernel
theorem dX3_take_38 : decode cX3_take 38 = .ok (.isub, 1) := by decide +kernel
theorem dX3_take_39 : decode cX3_take 39 = .ok (.invokevirtual 51, 3) := by decide +kernel
theorem dX3_take_42 : decode cX3_take 42 = .ok (.ireturn, 1) := by decide +kernel
theorem dX3_take_43 : decode cX3_take 43 = .ok (.iload_n 1, 1) := by decide +kernel
theorem dX3_take_44 : decode cX3_take 44 = .ok (.bipush 97, 2) := by decide +kernel
theorem dX3_take_46 : decode cX3_take 46 = .ok (.if_icmp .lt 24, 3) := by decide +kernel
theorem dX3_take_49 : decode cX3_take 49 = .ok (.iload_n 1, 1) := by decide +kernel
theorem dX3_take_50 : decode cX3_take 50 = .ok (.bipush 103, 2) := by decide +kernel
theorem dX3_take_52 : decode cX3_take 52 = .ok (.if_icmp .gt 18, 3) := by decide +kernel
theorem dX3_take_55 : decode cX3_take 55 = .ok (.aload_n 0, 1) := by decide +kernel
theorem dX3_take_56 : decode cX3_take 56 = .ok (.iload_n 1, 1) := by decide +kernel
theorem dX3_take_57 : decode cX3_take 57 = .ok (.bipush 97, 2) := by decide +kernel
theorem dX3_take_59 : decode cX3_take 59 = .ok (.isub, 1) := by decide +kernel
theorem dX3_take_60 : decode cX3_take 60 = .ok (.invokevirtual 54, 3) := by decide +kernel
theorem dX3_take_63 : decode cX3_take 63 = .ok (.ifCond .eq 7, 3) := by decide +kernel
theorem dX3_take_66 : decode cX3_take 66 = .ok (.iconst 1, 1) := by decide +kernel
theorem dX3_take_67 : decode cX3_take 67 = .ok (.goto 4, 3) := by decide +kernel
theorem dX3_take_70 : decode cX3_take 70 = .ok (.iconst 0, 1) := by decide +kernel
theorem dX3_take_71 : decode cX3_take 71 = .ok (.ireturn, 1) := by decide +kernel
theorem dX3_takeComma_0 : decode cX3_takeComma 0 = .ok (.aload_n 0, 1) := by decide +kernel
theorem dX3_takeComma_1 : decode cX3_takeComma 1 = .ok (.getfield 23, 3) := by decide +kernel
theorem dX3_takeComma_4 : decode cX3_takeComma 4 = .ok (.ifCond .eq 15, 3) := by decide +kernel
theorem dX3_takeComma_7 : decode cX3_takeComma 7 = .ok (.aload_n 0, 1) := by decide +kernel
theorem dX3_takeComma_8 : decode cX3_takeComma 8 = .ok (.getfield 20, 3) := by decide +kernel
theorem dX3_takeComma_11 : decode cX3_takeComma 11 = .ok (.getfield 27, 3) := by decide +kernel
theorem dX3_takeComma_14 : decode cX3_takeComma 14 = .ok (.bipush 23, 2) := by decide +kernel
theorem dX3_takeComma_16 : decode cX3_takeComma 16 = .ok (.if_icmp .ne 5, 3) := by decide +kernel
theorem dX3_takeComma_19 : decode cX3_takeComma 19 = .ok (.iconst 0, 1) := by decide +kernel
theorem dX3_takeComma_20 : decode cX3_takeComma 20 = .ok (.ireturn, 1) := by decide +kernel
theorem dX3_takeComma_21 : decode cX3_takeComma 21 = .ok (.aload_n 0, 1) := by decide +kernel
theorem dX3_takeComma_22 : decode cX3_takeComma 22 = .ok (.getfield 20, 3) := by decide +kernel
theorem dX3_takeComma_25 : decode cX3_takeComma 25 = .ok (.aload_n 0, 1) := by decide +kernel
theorem dX3_takeComma_26 : decode cX3_takeComma 26 = .ok (.getfield 38, 3) := by decide +kernel
theorem dX3_takeComma_29 : decode cX3_takeComma 29 = .ok (.invokevirtual 41, 3) := by decide +kernel
theorem dX3_takeComma_32 : decode cX3_takeComma 32 = .ok (.pop, 1) := by decide +kernel
theorem dX3_takeComma_33 : decode cX3_takeComma 33 = .ok (.aload_n 0, 1) := by decide +kernel
theorem dX3_takeComma_34 : decode cX3_takeComma 34 = .ok (.iconst 0, 1) := by decide +kernel
theorem dX3_takeComma_35 : decode cX3_takeComma 35 = .ok (.putfield 23, 3) := by decide +kernel
theorem dX3_takeComma_38 : decode cX3_takeComma 38 = .ok (.iconst 1, 1) := by decide +kernel
theorem dX3_takeComma_39 : decode cX3_takeComma 39 = .ok (.ireturn, 1) := by decide +kernel
theorem dX3_takeOne_0 : decode cX3_takeOne 0 = .ok (.aload_n 0, 1) := by decide +kernel
theorem dX3_takeOne_1 : decode cX3_takeOne 1 = .ok (.getfield 23, 3) := by decide +kernel
theorem dX3_takeOne_4 : decode cX3_takeOne 4 = .ok (.ifCond .eq 5, 3) := by decide +kernel
theorem dX3_takeOne_7 : decode cX3_takeOne 7 = .ok (.iconst 0, 1) := by decide +kernel
theorem dX3_takeOne_8 : decode cX3_takeOne 8 = .ok (.ireturn, 1) := by decide +kernel
theorem dX3_takeOne_9 : decode cX3_takeOne 9 = .ok (.aload_n 0, 1) := by decide +kernel
theorem dX3_takeOne_10 : decode cX3_takeOne 10 = .ok (.iconst 0, 1) := by decide +kernel
theorem dX3_takeOne_11 : decode cX3_takeOne 11 = .ok (.putfield 38, 3) := by decide +kernel
theorem dX3_takeOne_14 : decode cX3_takeOne 14 = .ok (.aload_n 0, 1) := by decide +kernel
theorem dX3_takeOne_15 : decode cX3_takeOne 15 = .ok (.iconst 1, 1) := by decide +kernel
theorem dX3_takeOne_16 : decode cX3_takeOne 16 = .ok (.putfield 23, 3) := by decide +kernel
theorem dX3_takeOne_19 : decode cX3_takeOne 19 = .ok (.iconst 1, 1) := by decide +kernel
theorem dX3_takeOne_20 : decode cX3_takeOne 20 = .ok (.ireturn, 1) := by decide +kernel
theorem dX3_takeDigit_0 : decode cX3_takeDigit 0 = .ok (.aload_n 0, 1) := by decide +kernel
theorem dX3_takeDigit_1 : decode cX3_takeDigit 1 = .ok (.getfield 23, 3) := by decide +kernel
theorem dX3_takeDigit_4 : decode cX3_takeDigit 4 = .ok (.iconst 2, 1) := by decide +kernel
theorem dX3_takeDigit_5 : decode cX3_takeDigit 5 = .ok (.if_icmp .eq 5, 3) := by decide +kernel
theorem dX3_takeDigit_8 : decode cX3_takeDigit 8 = .ok (.iconst 0, 1) := by decide +kernel
theorem dX3_takeDigit_9 : decode cX3_takeDigit 9 = .ok (.ireturn, 1) := by decide +kernel
theorem dX3_takeDigit_10 : decode cX3_takeDigit 10 = .ok (.aload_n 0, 1) := by decide +kernel
theorem dX3_takeDigit_11 : decode cX3_takeDigit 11 = .ok (.dup, 1) := by decide +kernel
theorem dX3_takeDigit_12 : decode cX3_takeDigit 12 = .ok (.getfield 38, 3) := by decide +kernel
theorem dX3_takeDigit_15 : decode cX3_takeDigit 15 = .ok (.iload_n 1, 1) := by decide +kernel
theorem dX3_takeDigit_16 : decode cX3_takeDigit 16 = .ok (.iconst 1, 1) := by decide +kernel
theorem dX3_takeDigit_17 : decode cX3_takeDigit 17 = .ok (.isub, 1) := by decide +kernel
theorem dX3_takeDigit_18 : decode cX3_takeDigit 18 = .ok (.aload_n 0, 1) := by decide +kernel
theorem dX3_takeDigit_19 : decode cX3_takeDigit 19 = .ok (.getfield 57, 3) := by decide +kernel
theorem dX3_takeDigit_22 : decode cX3_takeDigit 22 = .ok (.invokestatic 60, 3) := by decide +kernel
theorem dX3_takeDigit_25 : decode cX3_takeDigit 25 = .ok (.imul, 1) := by decide +kernel
theorem dX3_takeDigit_26 : decode cX3_takeDigit 26 = .ok (.iadd, 1) := by decide +kernel
theorem dX3_takeDigit_27 : decode cX3_takeDigit 27 = .ok (.putfield 38, 3) := by decide +kernel
theorem dX3_takeDigit_30 : decode cX3_takeDigit 30 = .ok (.aload_n 0, 1) := by decide +kernel
theorem dX3_takeDigit_31 : decode cX3_takeDigit 31 = .ok (.iconst 3, 1) := by decide +kernel
theorem dX3_takeDigit_32 : decode cX3_takeDigit 32 = .ok (.putfield 23, 3) := by decide +kernel
theorem dX3_takeDigit_35 : decode cX3_takeDigit 35 = .ok (.iconst 1, 1) := by decide +kernel
theorem dX3_takeDigit_36 : decode cX3_takeDigit 36 = .ok (.ireturn, 1) := by decide +kernel
theorem dX3_takeLetter_0 : decode cX3_takeLetter 0 = .ok (.aload_n 0, 1) := by decide +kernel
theorem dX3_takeLetter_1 : decode cX3_takeLetter 1 = .ok (.getfield 23, 3) := by decide +kernel
theorem dX3_takeLetter_4 : decode cX3_takeLetter 4 = .ok (.ifCond .ne 11, 3) := by decide +kernel
theorem dX3_takeLetter_7 : decode cX3_takeLetter 7 = .ok (.aload_n 0, 1) := by decide +kernel
theorem dX3_takeLetter_8 : decode cX3_takeLetter 8 = .ok (.iconst 0, 1) := by decide +kernel
theorem dX3_takeLetter_9 : decode cX3_takeLetter 9 = .ok (.putfield 38, 3) := by decide +kernel
theorem dX3_takeLetter_12 : decode cX3_takeLetter 12 = .ok (.goto 21, 3) := by decide +kernel
theorem dX3_takeLetter_15 : decode cX3_takeLetter 15 = .ok (.aload_n 0, 1) := by decide +kernel
theorem dX3_takeLetter_16 : decode cX3_takeLetter 16 = .ok (.getfield 23, 3) := by decide +kernel
theorem dX3_takeLetter_19 : decode cX3_takeLetter 19 = .ok (.iconst 1, 1) := by decide +kernel
theorem dX3_takeLetter_20 : decode cX3_takeLetter 20 = .ok (.if_icmp .eq 11, 3) := by decide +kernel
theorem dX3_takeLetter_23 : decode cX3_takeLetter 23 = .ok (.iload_n 1, 1) := by decide +kernel
theorem dX3_takeLetter_24 : decode cX3_takeLetter 24 = .ok (.aload_n 0, 1) := by decide +kernel
theorem dX3_takeLetter_25 : decode cX3_takeLetter 25 = .ok (.getfield 57, 3) := by decide +kernel
theorem dX3_takeLetter_28 : decode cX3_takeLetter 28 = .ok (.if_icmp .gt 5, 3) := by decide +kernel
theorem dX3_takeLetter_31 : decode cX3_takeLetter 31 = .ok (.iconst 0, 1) := by decide +kernel
theorem dX3_takeLetter_32 : decode cX3_takeLetter 32 = .ok (.ireturn, 1) := by decide +kernel
theorem dX3_takeLetter_33 : decode cX3_takeLetter 33 = .ok (.aload_n 0, 1) := by decide +kernel
theorem dX3_takeLetter_34 : decode cX3_takeLetter 34 = .ok (.dup, 1) := by decide +kernel
theorem dX3_takeLetter_35 : decode cX3_takeLetter 35 = .ok (.getfield 38, 3) := by decide +kernel
theorem dX3_takeLetter_38 : decode cX3_takeLetter 38 = .ok (.iload_n 1, 1) := by decide +kernel
theorem dX3_takeLetter_39 : decode cX3_takeLetter 39 = .ok (.invokestatic 60, 3) := by decide +kernel
theorem dX3_takeLetter_42 : decode cX3_takeLetter 42 = .ok (.iadd, 1) := by decide +kernel
theorem dX3_takeLetter_43 : decode cX3_takeLetter 43 = .ok (.putfield 38, 3) := by decide +kernel
theorem dX3_takeLetter_46 : decode cX3_takeLetter 46 = .ok (.aload_n 0, 1) := by decide +kernel
theorem dX3_takeLetter_47 : decode cX3_takeLetter 47 = .ok (.iload_n 1, 1) := by decide +kernel
theorem dX3_takeLetter_48 : decode cX3_takeLetter 48 = .ok (.putfield 57, 3) := by decide +kernel
theorem dX3_takeLetter_51 : decode cX3_takeLetter 51 = .ok (.aload_n 0, 1) := by decide +kernel
theorem dX3_takeLetter_52 : decode cX3_takeLetter 52 = .ok (.iconst 2, 1) := by decide +kernel
theorem dX3_takeLetter_53 : decode cX3_takeLetter 53 = .ok (.putfield 23, 3) := by decide +kernel
theorem dX3_takeLetter_56 : decode cX3_takeLetter 56 = .ok (.iconst 1, 1) := by decide +kernel
theorem dX3_takeLetter_57 : decode cX3_takeLetter 57 = .ok (.ireturn, 1) := by decide +kernel
theorem dX4_init_0 : decode cX4_init 0 = .ok (.aload_n 0, 1) := by decide +kernel
theorem dX4_init_1 : decode cX4_init 1 = .ok (.invokespecial 3, 3) := by decide +kernel
theorem dX4_init_4 : decode cX4_init 4 = .ok (.aload_n 0, 1) := by decide +kernel
theorem dX4_init_5 : decode cX4_init 5 = .ok (.aload_n 1, 1) := by decide +kernel
theorem dX4_init_6 : decode cX4_init 6 = .ok (.putfield 9, 3) := by decide +kernel
theorem dX4_init_9 : decode cX4_init 9 = .ok (.aload_n 0, 1) := by decide +kernel
theorem dX4_init_10 : decode cX4_init 10 = .ok (.aload_n 2, 1) := by decide +kernel
theorem dX4_init_11 : decode cX4_init 11 = .ok (.putfield 15, 3) := by decide +kernel
theorem dX4_init_14 : decode cX4_init 14 = .ok (.aload_n 0, 1) := by decide +kernel
theorem dX4_init_15 : decode cX4_init 15 = .ok (.bipush 7, 2) := by decide +kernel
theorem dX4_init_17 : decode cX4_init 17 = .ok (.newarray .int, 2) := by decide +kernel
theorem dX4_init_19 : decode cX4_init 19 = .ok (.putfield 19, 3) := by decide +kernel
theorem dX4_init_22 : decode cX4_init 22 = .ok (.aload_n 0, 1) := by decide +kernel
theorem dX4_init_23 : decode cX4_init 23 = .ok (.new 23, 3) := by decide +kernel
theorem dX4_init_26 : decode cX4_init 26 = .ok (.dup, 1) := by decide +kernel
theorem dX4_init_27 : decode cX4_init 27 = .ok (.sipush 728, 3) := by decide +kernel
theorem dX4_init_30 : decode cX4_init 30 = .ok (.invokespecial 27, 3) := by decide +kernel
theorem dX4_init_33 : decode cX4_init 33 = .ok (.putfield 30, 3) := by decide +kernel
theorem dX4_init_36 : decode cX4_init 36 = .ok (.aload_n 0, 1) := by decide +kernel
theorem dX4_init_37 : decode cX4_init 37 = .ok (.new 23, 3) := by decide +kernel
theorem dX4_init_40 : decode cX4_init 40 = .ok (.dup, 1) := by decide +kernel
theorem dX4_init_41 : decode cX4_init 41 = .ok (.sipush 728, 3) := by decide +kernel
theorem dX4_init_44 : decode cX4_init 44 = .ok (.invokespecial 27, 3) := by decide +kernel
theorem dX4_init_47 : decode cX4_init 47 = .ok (.putfield 34, 3) := by decide +kernel
theorem dX4_init_50 : decode cX4_init 50 = .ok (.aload_n 0, 1) := by decide +kernel
theorem dX4_init_51 : decode cX4_init 51 = .ok (.iconst 0, 1) := by decide +kernel
theorem dX4_init_52 : decode cX4_init 52 = .ok (.putfield 37, 3) := by decide +kernel
theorem dX4_init_55 : decode cX4_init 55 = .ok (.return_, 1) := by decide +kernel
theorem dX4_forget_0 : decode cX4_forget 0 = .ok (.aload_n 0, 1) := by decide +kernel
theorem dX4_forget_1 : decode cX4_forget 1 = .ok (.iconst 0, 1) := by decide +kernel
theorem dX4_forget_2 : decode cX4_forget 2 = .ok (.putfield 37, 3) := by decide +kernel
theorem dX4_forget_5 : decode cX4_forget 5 = .ok (.return_, 1) := by decide +kernel
theorem dX4_prepare_0 : decode cX4_prepare 0 = .ok (.aload_n 0, 1) := by decide +kernel
theorem dX4_prepare_1 : decode cX4_prepare 1 = .ok (.getfield 37, 3) := by decide +kernel
theorem dX4_prepare_4 : decode cX4_prepare 4 = .ok (.iload_n 1, 1) := by decide +kernel
theorem dX4_prepare_5 : decode cX4_prepare 5 = .ok (.if_icmp .ne 13, 3) := by decide +kernel
theorem dX4_prepare_8 : decode cX4_prepare 8 = .ok (.aload_n 0, 1) := by decide +kernel
theorem dX4_prepare_9 : decode cX4_prepare 9 = .ok (.getfield 41, 3) := by decide +kernel
theorem dX4_prepare_12 : decode cX4_prepare 12 = .ok (.iload_n 2, 1) := by decide +kernel
theorem dX4_prepare_13 : decode cX4_prepare 13 = .ok (.if_icmp .ne 5, 3) := by decide +kernel
theorem dX4_prepare_16 : decode cX4_prepare 16 = .ok (.iconst 1, 1) := by decide +kernel
theorem dX4_prepare_17 : decode cX4_prepare 17 = .ok (.ireturn, 1) := by decide +kernel
theorem dX4_prepare_18 : decode cX4_prepare 18 = .ok (.aload_n 0, 1) := by decide +kernel
theorem dX4_prepare_19 : decode cX4_prepare 19 = .ok (.iconst 0, 1) := by decide +kernel
theorem dX4_prepare_20 : decode cX4_prepare 20 = .ok (.putfield 37, 3) := by decide +kernel
theorem dX4_prepare_23 : decode cX4_prepare 23 = .ok (.aload_n 0, 1) := by decide +kernel
theorem dX4_prepare_24 : decode cX4_prepare 24 = .ok (.iload_n 2, 1) := by decide +kernel
theorem dX4_prepare_25 : decode cX4_prepare 25 = .ok (.invokevirtual 44, 3) := by decide +kernel
theorem dX4_prepare_28 : decode cX4_prepare 28 = .ok (.ifCond .ne 5, 3) := by decide +kernel
theorem dX4_prepare_31 : decode cX4_prepare 31 = .ok (.iconst 0, 1) := by decide +kernel
theorem dX4_prepare_32 : decode cX4_prepare 32 = .ok (.ireturn, 1) := by decide +kernel
theorem dX4_prepare_33 : decode cX4_prepare 33 = .ok (.aload_n 0, 1) := by decide +kernel
theorem dX4_prepare_34 : decode cX4_prepare 34 = .ok (.getfield 30, 3) := by decide +kernel
theorem dX4_prepare_37 : decode cX4_prepare 37 = .ok (.aload_n 0, 1) := by decide +kernel
theorem dX4_prepare_38 : decode cX4_prepare 38 = .ok (.getfield 15, 3) := by decide +kernel
theorem dX4_prepare_41 : decode cX4_prepare 41 = .ok (.iload_n 1, 1) := by decide +kernel
theorem dX4_prepare_42 : decode cX4_prepare 42 = .ok (.invokevirtual 48, 3) := by decide +kernel
theorem dX4_prepare_45 : decode cX4_prepare 45 = .ok (.invokevirtual 52, 3) := by decide +kernel
theorem dX4_prepare_48 : decode cX4_prepare 48 = .ok (.aload_n 0, 1) := by decide +kernel
theorem dX4_prepare_49 : decode cX4_prepare 49 = .ok (.invokevirtual 56, 3) := by decide +kernel
theorem dX4_prepare_52 : decode cX4_prepare 52 = .ok (.aload_n 0, 1) := by decide +kernel
theorem dX4_prepare_53 : decode cX4_prepare 53 = .ok (.iload_n 1, 1) := by decide +kernel
theorem dX4_prepare_54 : decode cX4_prepare 54 = .ok (.putfield 37, 3) := by decide +kernel
theorem dX4_prepare_57 : decode cX4_prepare 57 = .ok (.aload_n 0, 1) := by decide +kernel
theorem dX4_prepare_58 : decode cX4_prepare 58 = .ok (.iload_n 2, 1) := by decide +kernel
theorem dX4_prepare_59 : decode cX4_prepare 59 = .ok (.putfield 41, 3) := by decide +kernel
theorem dX4_prepare_62 : decode cX4_prepare 62 = .ok (.iconst 1, 1) := by decide +kernel
theorem dX4_prepare_63 : decode cX4_prepare 63 = .ok (.ireturn, 1) := by decide +kernel
theorem dX4_readSequence_0 : decode cX4_readSequence 0 = .ok (.iload_n 1, 1) := by decide +kernel
theorem dX4_readSequence_1 : decode cX4_readSequence 1 = .ok (.istore_n 2, 1) := by decide +kernel
theorem dX4_readSequence_2 : decode cX4_readSequence 2 = .ok (.iconst 0, 1) := by decide +kernel
theorem dX4_readSequence_3 : decode cX4_readSequence 3 = .ok (.istore_n 3, 1) := by decide +kernel
theorem dX4_readSequence_4 : decode cX4_readSequence 4 = .ok (.aload_n 0, 1) := by decide +kernel
theorem dX4_readSequence_5 : decode cX4_readSequence 5 = .ok (.getfield 9, 3) := by decide +kernel
theorem dX4_readSequence_8 : decode cX4_readSequence 8 = .ok (.getfield 59, 3) := by decide +kernel
theorem dX4_readSequence_11 : decode cX4_readSequence 11 = .ok (.iconst 1, 1) := by decide +kernel
theorem dX4_readSequence_12 : decode cX4_readSequence 12 = .ok (.isub, 1) := by decide +kernel
theorem dX4_readSequence_13 : decode cX4_readSequence 13 = .ok (.istore 4, 2) := by decide +kernel
theorem dX4_readSequence_15 : decode cX4_readSequence 15 = .ok (.iload 4, 2) := by decide +kernel
theorem dX4_readSequence_17 : decode cX4_readSequence 17 = .ok (.ifCond .lt 66, 3) := by decide +kernel
theorem dX4_readSequence_20 : decode cX4_readSequence 20 = .ok (.iload_n 2, 1) := by decide +kernel
theorem dX4_readSequence_21 : decode cX4_readSequence 21 = .ok (.bipush 10, 2) := by decide +kernel
theorem dX4_readSequence_23 : decode cX4_readSequence 23 = .ok (.irem, 1) := by decide +kernel
theorem dX4_readSequence_24 : decode cX4_readSequence 24 = .ok (.iconst 1, 1) := by decide +kernel
theorem dX4_readSequence_25 : decode cX4_readSequence 25 = .ok (.isub, 1) := by decide +kernel
theorem dX4_readSequence_26 : decode cX4_readSequence 26 = .ok (.istore 5, 2) := by decide +kernel
theorem dX4_readSequence_28 : decode cX4_readSequence 28 = .ok (.iload 5, 2) := by decide +kernel
theorem dX4_readSequence_30 : decode cX4_readSequence 30 = .ok (.ifCond .lt 24, 3) := by decide +kernel
theorem dX4_readSequence_33 : decode cX4_readSequence 33 = .ok (.iload 5, 2) := by decide +kernel
theorem dX4_readSequence_35 : decode cX4_readSequence 35 = .ok (.aload_n 0, 1) := by decide +kernel
theorem dX4_readSequence_36 : decode cX4_readSequence 36 = .ok (.getfield 9, 3) := by decide +kernel
theorem dX4_readSequence_39 : decode cX4_readSequence 39 = .ok (.getfield 59, 3) := by decide +kernel
theorem dX4_readSequence_42 : decode cX4_readSequence 42 = .ok (.if_icmp .ge 12, 3) := by decide +kernel
theorem dX4_readSequence_45 : decode cX4_readSequence 45 = .ok (.iload_n 3, 1) := by decide +kernel
theorem dX4_readSequence_46 : decode cX4_readSequence 46 = .ok (.iload 5, 2) := by decide +kernel
theorem dX4_readSequence_48 : decode cX4_readSequence 48 = .ok (.ishr, 1) := by decide +kernel
theorem dX4_readSequence_49 : decode cX4_readSequence 49 = .ok (.iconst 1, 1) := by decide +kernel
theorem dX4_readSequence_50 : decode cX4_readSequence 50 = .ok (.iand, 1) := by decide +kernel
theorem dX4_readSequence_51 : decode cX4_readSequence 51 = .ok (.ifCond .eq 5, 3) := by decide +kernel
theorem dX4_readSequence_54 : decode cX4_readSequence 54 = .ok (.iconst 0, 1) := by decide +kernel
theorem dX4_readSequence_55 : decode cX4_readSequence 55 = .ok (.ireturn, 1) := by decide +kernel
theorem dX4_readSequence_56 : decode cX4_readSequence 56 = .ok (.iload_n 3, 1) := by decide +kernel
theorem dX4_readSequence_57 : decode cX4_readSequence 57 = .ok (.iconst 1, 1) := by decide +kernel
theorem dX4_readSequence_58 : decode cX4_readSequence 58 = .ok (.iload 5, 2) := by decide +kernel
theorem dX4_readSequence_60 : decode cX4_readSequence 60 = .ok (.ishl, 1) := by decide +kernel
theorem dX4_readSequence_61 : decode cX4_readSequence 61 = .ok (.ior, 1) := by decide +kernel
theorem dX4_readSequence_62 : decode cX4_readSequence 62 = .ok (.istore_n 3, 1) := by decide +kernel
theorem dX4_readSequence_63 : decode cX4_readSequence 63 = .ok (.aload_n 0, 1) := by decide +kernel
theorem dX4_readSequence_64 : decode cX4_readSequence 64 = .ok (.getfield 19, 3) := by decide +kernel
theorem dX4_readSequence_67 : decode cX4_readSequence 67 = .ok (.iload 4, 2) := by decide +kernel
theorem dX4_readSequence_69 : decode cX4_readSequence 69 = .ok (.iload 5, 2) := by decide +kernel
theorem dX4_readSequence_71 : decode cX4_readSequence 71 = .ok (.iastore, 1) := by decide +kernel
theorem dX4_readSequence_72 : decode cX4_readSequence 72 = .ok (.iload_n 2, 1) := by decide +kernel
theorem dX4_readSequence_73 : decode cX4_readSequence 73 = .ok (.bipush 10, 2) := by decide +kernel
theorem dX4_readSequence_75 : decode cX4_readSequence 75 = .ok (.idiv, 1) := by decide +kernel
theorem dX4_readSequence_76 : decode cX4_readSequence 76 = .ok (.istore_n 2, 1) := by decide +kernel
theorem dX4_readSequence_77 : decode cX4_readSequence 77 = .ok (.iinc 4 (-1), 3) := by decide +kernel
theorem dX4_readSequence_80 : decode cX4_readSequence 80 = .ok (.goto (-65), 3) := by decide +kernel
theorem dX4_readSequence_83 : decode cX4_readSequence 83 = .ok (.iload_n 2, 1) := by decide +kernel
theorem dX4_readSequence_84 : decode cX4_readSequence 84 = .ok (.ifCond .ne 7, 3) := by decide +kernel
theorem dX4_readSequence_87 : decode cX4_readSequence 87 = .ok (.iconst 1, 1) := by decide +kernel
theorem dX4_readSequence_88 : decode cX4_readSequence 88 = .ok (.goto 4, 3) := by decide +kernel
theorem dX4_readSequence_91 : decode cX4_readSequence 91 = .ok (.iconst 0, 1) := by decide +kernel
theorem dX4_readSequence_92 : decode cX4_readSequence 92 = .ok (.ireturn, 1) := by decide +kernel
theorem dX4_sortBySequence_0 : decode cX4_sortBySequence 0 = .ok (.aload_n 0, 1) := by decide +kernel
theorem dX4_sortBySequence_1 : decode cX4_sortBySequence 1 = .ok (.getfield 9, 3) := by decide +kernel
theorem dX4_sortBySequence_4 : decode cX4_sortBySequence 4 = .ok (.getfield 59, 3) := by decide +kernel
theorem dX4_sortBySequence_7 : decode cX4_sortBySequence 7 = .ok (.iconst 1, 1) := by decide +kernel
theorem dX4_sortBySequence_8 : decode cX4_sortBySequence 8 = .ok (.isub, 1) := by decide +kernel
theorem dX4_sortBySequence_9 : decode cX4_sortBySequence 9 = .ok (.istore_n 1, 1) := by decide +kernel
theorem dX4_sortBySequence_10 : decode cX4_sortBySequence 10 = .ok (.iload_n 1, 1) := by decide +kernel
theorem dX4_sortBySequence_11 : decode cX4_sortBySequence 11 = .ok (.ifCond .lt 51, 3) := by decide +kernel
theorem dX4_sortBySequence_14 : decode cX4_sortBySequence 14 = .ok (.aload_n 0, 1) := by decide +kernel
theorem dX4_sortBySequence_15 : decode cX4_sortBySequence 15 = .ok (.getfield 34, 3) := by decide +kernel
theorem dX4_sortBySequence_18 : decode cX4_sortBySequence 18 = .ok (.iconst 0, 1) := by decide +kernel
theorem dX4_sortBySequence_19 : decode cX4_sortBySequence 19 = .ok (.putfield 64, 3) := by decide +kernel
theorem dX4_sortBySequence_22 : decode cX4_sortBySequence 22 = .ok (.iconst 3, 1) := by decide +kernel
theorem dX4_sortBySequence_23 : decode cX4_sortBySequence 23 = .ok (.istore_n 2, 1) := by decide +kernel
theorem dX4_sortBySequence_24 : decode cX4_sortBySequence 24 = .ok (.iload_n 2, 1) := by decide +kernel
theorem dX4_sortBySequence_25 : decode cX4_sortBySequence 25 = .ok (.ifCond .lt 20, 3) := by decide +kernel
theorem dX4_sortBySequence_28 : decode cX4_sortBySequence 28 = .ok (.aload_n 0, 1) := by decide +kernel
theorem dX4_sortBySequence_29 : decode cX4_sortBySequence 29 = .ok (.aload_n 0, 1) := by decide +kernel
theorem dX4_sortBySequence_30 : decode cX4_sortBySequence 30 = .ok (.getfield 19, 3) := by decide +kernel
theorem dX4_sortBySequence_33 : decode cX4_sortBySequence 33 = .ok (.iload_n 1, 1) := by decide +kernel
theorem dX4_sortBySequence_34 : decode cX4_sortBySequence 34 = .ok (.iaload, 1) := by decide +kernel
theorem dX4_sortBySequence_35 : decode cX4_sortBySequence 35 = .ok (.iload_n 2, 1) := by decide +kernel
theorem dX4_sortBySequence_36 : decode cX4_sortBySequence 36 = .ok (.invokevirtual 67, 3) := by decide +kernel
theorem dX4_sortBySequence_39 : decode cX4_sortBySequence 39 = .ok (.iinc 2 (-1), 3) := by decide +kernel
theorem dX4_sortBySequence_42 : decode cX4_sortBySequence 42 = .ok (.goto (-18), 3) := by decide +kernel
theorem dX4_sortBySequence_45 : decode cX4_sortBySequence 45 = .ok (.aload_n 0, 1) := by decide +kernel
theorem dX4_sortBySequence_46 : decode cX4_sortBySequence 46 = .ok (.getfield 30, 3) := by decide +kernel
theorem dX4_sortBySequence_49 : decode cX4_sortBySequence 49 = .ok (.aload_n 0, 1) := by decide +kernel
theorem dX4_sortBySequence_50 : decode cX4_sortBySequence 50 = .ok (.getfield 34, 3) := by decide +kernel
theorem dX4_sortBySequence_53 : decode cX4_sortBySequence 53 = .ok (.invokevirtual 52, 3) := by decide +kernel
theorem dX4_sortBySequence_56 : decode cX4_sortBySequence 56 = .ok (.iinc 1 (-1), 3) := by decide +kernel
theorem dX4_sortBySequence_59 : decode cX4_sortBySequence 59 = .ok (.goto (-49), 3) := by decide +kernel
theorem dX4_sortBySequence_62 : decode cX4_sortBySequence 62 = .ok (.return_, 1) := by decide +kernel
theorem dX4_moveToSpare_0 : decode cX4_moveToSpare 0 = .ok (.iconst 0, 1) := by decide +kernel
