theorem dX11_isVariable_14 : decode cX11_isVariable 14 = .ok (.iconst 0, 1) := by decide +kernel
theorem dX11_isVariable_15 : decode cX11_isVariable 15 = .ok (.ireturn, 1) := by decide +kernel
theorem dX11_isPower_0 : decode cX11_isPower 0 = .ok (.iload_n 0, 1) := by decide +kernel
theorem dX11_isPower_1 : decode cX11_isPower 1 = .ok (.iconst 1, 1) := by decide +kernel
theorem dX11_isPower_2 : decode cX11_isPower 2 = .ok (.if_icmp .lt 12, 3) := by decide +kernel
theorem dX11_isPower_5 : decode cX11_isPower 5 = .ok (.iload_n 0, 1) := by decide +kernel
theorem dX11_isPower_6 : decode cX11_isPower 6 = .ok (.iconst 3, 1) := by decide +kernel
theorem dX11_isPower_7 : decode cX11_isPower 7 = .ok (.if_icmp .gt 7, 3) := by decide +kernel
theorem dX11_isPower_10 : decode cX11_isPower 10 = .ok (.iconst 1, 1) := by decide +kernel
theorem dX11_isPower_11 : decode cX11_isPower 11 = .ok (.goto 4, 3) := by decide +kernel
theorem dX11_isPower_14 : decode cX11_isPower 14 = .ok (.iconst 0, 1) := by decide +kernel
theorem dX11_isPower_15 : decode cX11_isPower 15 = .ok (.ireturn, 1) := by decide +kernel
theorem dX11_isDegree_0 : decode cX11_isDegree 0 = .ok (.iload_n 0, 1) := by decide +kernel
theorem dX11_isDegree_1 : decode cX11_isDegree 1 = .ok (.ifCond .lt 13, 3) := by decide +kernel
theorem dX11_isDegree_4 : decode cX11_isDegree 4 = .ok (.iload_n 0, 1) := by decide +kernel
theorem dX11_isDegree_5 : decode cX11_isDegree 5 = .ok (.bipush 21, 2) := by decide +kernel
theorem dX11_isDegree_7 : decode cX11_isDegree 7 = .ok (.if_icmp .gt 7, 3) := by decide +kernel
theorem dX11_isDegree_10 : decode cX11_isDegree 10 = .ok (.iconst 1, 1) := by decide +kernel
theorem dX11_isDegree_11 : decode cX11_isDegree 11 = .ok (.goto 4, 3) := by decide +kernel
theorem dX11_isDegree_14 : decode cX11_isDegree 14 = .ok (.iconst 0, 1) := by decide +kernel
theorem dX11_isDegree_15 : decode cX11_isDegree 15 = .ok (.ireturn, 1) := by decide +kernel
theorem dX11_isFlag_0 : decode cX11_isFlag 0 = .ok (.iload_n 0, 1) := by decide +kernel
theorem dX11_isFlag_1 : decode cX11_isFlag 1 = .ok (.ifCond .eq 8, 3) := by decide +kernel
theorem dX11_isFlag_4 : decode cX11_isFlag 4 = .ok (.iload_n 0, 1) := by decide +kernel
theorem dX11_isFlag_5 : decode cX11_isFlag 5 = .ok (.iconst 1, 1) := by decide +kernel
theorem dX11_isFlag_6 : decode cX11_isFlag 6 = .ok (.if_icmp .ne 7, 3) := by decide +kernel
theorem dX11_isFlag_9 : decode cX11_isFlag 9 = .ok (.iconst 1, 1) := by decide +kernel
theorem dX11_isFlag_10 : decode cX11_isFlag 10 = .ok (.goto 4, 3) := by decide +kernel
theorem dX11_isFlag_13 : decode cX11_isFlag 13 = .ok (.iconst 0, 1) := by decide +kernel
theorem dX11_isFlag_14 : decode cX11_isFlag 14 = .ok (.ireturn, 1) := by decide +kernel
theorem dX11_isSlot_0 : decode cX11_isSlot 0 = .ok (.iload_n 0, 1) := by decide +kernel
theorem dX11_isSlot_1 : decode cX11_isSlot 1 = .ok (.ifCond .lt 12, 3) := by decide +kernel
theorem dX11_isSlot_4 : decode cX11_isSlot 4 = .ok (.iload_n 0, 1) := by decide +kernel
theorem dX11_isSlot_5 : decode cX11_isSlot 5 = .ok (.iconst 4, 1) := by decide +kernel
theorem dX11_isSlot_6 : decode cX11_isSlot 6 = .ok (.if_icmp .ge 7, 3) := by decide +kernel
theorem dX11_isSlot_9 : decode cX11_isSlot 9 = .ok (.iconst 1, 1) := by decide +kernel
theorem dX11_isSlot_10 : decode cX11_isSlot 10 = .ok (.goto 4, 3) := by decide +kernel
theorem dX11_isSlot_13 : decode cX11_isSlot 13 = .ok (.iconst 0, 1) := by decide +kernel
theorem dX11_isSlot_14 : decode cX11_isSlot 14 = .ok (.ireturn, 1) := by decide +kernel
theorem dX11_itemOrError_0 : decode cX11_itemOrError 0 = .ok (.iload_n 1, 1) := by decide +kernel
theorem dX11_itemOrError_1 : decode cX11_itemOrError 1 = .ok (.ifCond .ge 5, 3) := by decide +kernel
theorem dX11_itemOrError_4 : decode cX11_itemOrError 4 = .ok (.iconst (-1), 1) := by decide +kernel
theorem dX11_itemOrError_5 : decode cX11_itemOrError 5 = .ok (.ireturn, 1) := by decide +kernel
theorem dX11_itemOrError_6 : decode cX11_itemOrError 6 = .ok (.iload_n 1, 1) := by decide +kernel
theorem dX11_itemOrError_7 : decode cX11_itemOrError 7 = .ok (.aload_n 0, 1) := by decide +kernel
theorem dX11_itemOrError_8 : decode cX11_itemOrError 8 = .ok (.getfield 148, 3) := by decide +kernel
theorem dX11_itemOrError_11 : decode cX11_itemOrError 11 = .ok (.if_icmp .ge 12, 3) := by decide +kernel
theorem dX11_itemOrError_14 : decode cX11_itemOrError 14 = .ok (.aload_n 0, 1) := by decide +kernel
theorem dX11_itemOrError_15 : decode cX11_itemOrError 15 = .ok (.getfield 215, 3) := by decide +kernel
theorem dX11_itemOrError_18 : decode cX11_itemOrError 18 = .ok (.iload_n 1, 1) := by decide +kernel
theorem dX11_itemOrError_19 : decode cX11_itemOrError 19 = .ok (.iaload, 1) := by decide +kernel
theorem dX11_itemOrError_20 : decode cX11_itemOrError 20 = .ok (.goto 5, 3) := by decide +kernel
theorem dX11_itemOrError_23 : decode cX11_itemOrError 23 = .ok (.bipush (-2), 2) := by decide +kernel
theorem dX11_itemOrError_25 : decode cX11_itemOrError 25 = .ok (.ireturn, 1) := by decide +kernel
theorem dX12_init_0 : decode cX12_init 0 = .ok (.aload_n 0, 1) := by decide +kernel
theorem dX12_init_1 : decode cX12_init 1 = .ok (.invokespecial 3, 3) := by decide +kernel
theorem dX12_init_4 : decode cX12_init 4 = .ok (.aload_n 0, 1) := by decide +kernel
theorem dX12_init_5 : decode cX12_init 5 = .ok (.iconst 4, 1) := by decide +kernel
theorem dX12_init_6 : decode cX12_init 6 = .ok (.putfield 9, 3) := by decide +kernel
theorem dX12_init_9 : decode cX12_init 9 = .ok (.aload_n 0, 1) := by decide +kernel
theorem dX12_init_10 : decode cX12_init 10 = .ok (.bipush 7, 2) := by decide +kernel
theorem dX12_init_12 : decode cX12_init 12 = .ok (.newarray .int, 2) := by decide +kernel
theorem dX12_init_14 : decode cX12_init 14 = .ok (.putfield 15, 3) := by decide +kernel
theorem dX12_init_17 : decode cX12_init 17 = .ok (.aload_n 0, 1) := by decide +kernel
theorem dX12_init_18 : decode cX12_init 18 = .ok (.bipush 84, 2) := by decide +kernel
theorem dX12_init_20 : decode cX12_init 20 = .ok (.newarray .int, 2) := by decide +kernel
theorem dX12_init_22 : decode cX12_init 22 = .ok (.putfield 19, 3) := by decide +kernel
theorem dX12_init_25 : decode cX12_init 25 = .ok (.aload_n 0, 1) := by decide +kernel
theorem dX12_init_26 : decode cX12_init 26 = .ok (.bipush 7, 2) := by decide +kernel
theorem dX12_init_28 : decode cX12_init 28 = .ok (.newarray .int, 2) := by decide +kernel
theorem dX12_init_30 : decode cX12_init 30 = .ok (.putfield 22, 3) := by decide +kernel
theorem dX12_init_33 : decode cX12_init 33 = .ok (.aload_n 0, 1) := by decide +kernel
theorem dX12_init_34 : decode cX12_init 34 = .ok (.iconst 1, 1) := by decide +kernel
theorem dX12_init_35 : decode cX12_init 35 = .ok (.putfield 25, 3) := by decide +kernel
theorem dX12_init_38 : decode cX12_init 38 = .ok (.aload_n 0, 1) := by decide +kernel
theorem dX12_init_39 : decode cX12_init 39 = .ok (.sipush 128, 3) := by decide +kernel
theorem dX12_init_42 : decode cX12_init 42 = .ok (.newarray .int, 2) := by decide +kernel
theorem dX12_init_44 : decode cX12_init 44 = .ok (.putfield 29, 3) := by decide +kernel
theorem dX12_init_47 : decode cX12_init 47 = .ok (.aload_n 0, 1) := by decide +kernel
theorem dX12_init_48 : decode cX12_init 48 = .ok (.sipush 16384, 3) := by decide +kernel
theorem dX12_init_51 : decode cX12_init 51 = .ok (.newarray .int, 2) := by decide +kernel
theorem dX12_init_53 : decode cX12_init 53 = .ok (.putfield 32, 3) := by decide +kernel
theorem dX12_init_56 : decode cX12_init 56 = .ok (.aload_n 0, 1) := by decide +kernel
theorem dX12_init_57 : decode cX12_init 57 = .ok (.sipush 16384, 3) := by decide +kernel
theorem dX12_init_60 : decode cX12_init 60 = .ok (.newarray .int, 2) := by decide +kernel
theorem dX12_init_62 : decode cX12_init 62 = .ok (.putfield 35, 3) := by decide +kernel
theorem dX12_init_65 : decode cX12_init 65 = .ok (.aload_n 0, 1) := by decide +kernel
theorem dX12_init_66 : decode cX12_init 66 = .ok (.bipush 7, 2) := by decide +kernel
theorem dX12_init_68 : decode cX12_init 68 = .ok (.newarray .int, 2) := by decide +kernel
theorem dX12_init_70 : decode cX12_init 70 = .ok (.putfield 38, 3) := by decide +kernel
theorem dX12_init_73 : decode cX12_init 73 = .ok (.aload_n 0, 1) := by decide +kernel
theorem dX12_init_74 : decode cX12_init 74 = .ok (.sipush 16384, 3) := by decide +kernel
theorem dX12_init_77 : decode cX12_init 77 = .ok (.newarray .int, 2) := by decide +kernel
theorem dX12_init_79 : decode cX12_init 79 = .ok (.putfield 41, 3) := by decide +kernel
theorem dX12_init_82 : decode cX12_init 82 = .ok (.aload_n 0, 1) := by decide +kernel
theorem dX12_init_83 : decode cX12_init 83 = .ok (.bipush 7, 2) := by decide +kernel
theorem dX12_init_85 : decode cX12_init 85 = .ok (.newarray .int, 2) := by decide +kernel
theorem dX12_init_87 : decode cX12_init 87 = .ok (.putfield 44, 3) := by decide +kernel
theorem dX12_init_90 : decode cX12_init 90 = .ok (.aload_n 0, 1) := by decide +kernel
theorem dX12_init_91 : decode cX12_init 91 = .ok (.bipush 24, 2) := by decide +kernel
theorem dX12_init_93 : decode cX12_init 93 = .ok (.newarray .int, 2) := by decide +kernel
theorem dX12_init_95 : decode cX12_init 95 = .ok (.putfield 47, 3) := by decide +kernel
theorem dX12_init_98 : decode cX12_init 98 = .ok (.aload_n 0, 1) := by decide +kernel
theorem dX12_init_99 : decode cX12_init 99 = .ok (.bipush 24, 2) := by decide +kernel
theorem dX12_init_101 : decode cX12_init 101 = .ok (.newarray .int, 2) := by decide +kernel
theorem dX12_init_103 : decode cX12_init 103 = .ok (.putfield 50, 3) := by decide +kernel
theorem dX12_init_106 : decode cX12_init 106 = .ok (.aload_n 0, 1) := by decide +kernel
theorem dX12_init_107 : decode cX12_init 107 = .ok (.bipush 24, 2) := by decide +kernel
theorem dX12_init_109 : decode cX12_init 109 = .ok (.newarray .int, 2) := by decide +kernel
theorem dX12_init_111 : decode cX12_init 111 = .ok (.putfield 53, 3) := by decide +kernel
theorem dX12_init_114 : decode cX12_init 114 = .ok (.aload_n 0, 1) := by decide +kernel
theorem dX12_init_115 : decode cX12_init 115 = .ok (.bipush 60, 2) := by decide +kernel
theorem dX12_init_117 : decode cX12_init 117 = .ok (.newarray .int, 2) := by decide +kernel
theorem dX12_init_119 : decode cX12_init 119 = .ok (.putfield 56, 3) := by decide +kernel
theorem dX12_init_122 : decode cX12_init 122 = .ok (.aload_n 0, 1) := by decide +kernel
theorem dX12_init_123 : decode cX12_init 123 = .ok (.bipush 24, 2) := by decide +kernel
theorem dX12_init_125 : decode cX12_init 125 = .ok (.newarray .int, 2) := by decide +kernel
theorem dX12_init_127 : decode cX12_init 127 = .ok (.putfield 59, 3) := by decide +kernel
theorem dX12_init_130 : decode cX12_init 130 = .ok (.aload_n 0, 1) := by decide +kernel
theorem dX12_init_131 : decode cX12_init 131 = .ok (.sipush 400, 3) := by decide +kernel
theorem dX12_init_134 : decode cX12_init 134 = .ok (.newarray .int, 2) := by decide +kernel
theorem dX12_init_136 : decode cX12_init 136 = .ok (.putfield 62, 3) := by decide +kernel
theorem dX12_init_139 : decode cX12_init 139 = .ok (.aload_n 0, 1) := by decide +kernel
theorem dX12_init_140 : decode cX12_init 140 = .ok (.iconst 4, 1) := by decide +kernel
theorem dX12_init_141 : decode cX12_init 141 = .ok (.newarray .int, 2) := by decide +kernel
theorem dX12_init_143 : decode cX12_init 143 = .ok (.putfield 65, 3) := by decide +kernel
theorem dX12_init_146 : decode cX12_init 146 = .ok (.aload_n 0, 1) := by decide +kernel
theorem dX12_init_147 : decode cX12_init 147 = .ok (.iconst 4, 1) := by decide +kernel
theorem dX12_init_148 : decode cX12_init 148 = .ok (.newarray .int, 2) := by decide +kernel
theorem dX12_init_150 : decode cX12_init 150 = .ok (.putfield 68, 3) := by decide +kernel
theorem dX12_init_153 : decode cX12_init 153 = .ok (.aload_n 0, 1) := by decide +kernel
theorem dX12_init_154 : decode cX12_init 154 = .ok (.iconst 4, 1) := by decide +kernel
theorem dX12_init_155 : decode cX12_init 155 = .ok (.bipush 30, 2) := by decide +kernel
theorem dX12_init_157 : decode cX12_init 157 = .ok (.multianewarray 71 2, 4) := by decide +kernel
theorem dX12_init_161 : decode cX12_init 161 = .ok (.putfield 73, 3) := by decide +kernel
theorem dX12_init_164 : decode cX12_init 164 = .ok (.aload_n 0, 1) := by decide +kernel
theorem dX12_init_165 : decode cX12_init 165 = .ok (.bipush 58, 2) := by decide +kernel
theorem dX12_init_167 : decode cX12_init 167 = .ok (.newarray .int, 2) := by decide +kernel
theorem dX12_init_169 : decode cX12_init 169 = .ok (.putfield 76, 3) := by decide +kernel
theorem dX12_init_172 : decode cX12_init 172 = .ok (.return_, 1) := by decide +kernel
theorem dX12_isBetween_0 : decode cX12_isBetween 0 = .ok (.lload_n 0, 1) := by decide +kernel
theorem dX12_isBetween_1 : decode cX12_isBetween 1 = .ok (.lload_n 2, 1) := by decide +kernel
theorem dX12_isBetween_2 : decode cX12_isBetween 2 = .ok (.lcmp, 1) := by decide +kernel
theorem dX12_isBetween_3 : decode cX12_isBetween 3 = .ok (.ifCond .lt 14, 3) := by decide +kernel
theorem dX12_isBetween_6 : decode cX12_isBetween 6 = .ok (.lload_n 0, 1) := by decide +kernel
theorem dX12_isBetween_7 : decode cX12_isBetween 7 = .ok (.lload 4, 2) := by decide +kernel
theorem dX12_isBetween_9 : decode cX12_isBetween 9 = .ok (.lcmp, 1) := by decide +kernel
theorem dX12_isBetween_10 : decode cX12_isBetween 10 = .ok (.ifCond .gt 7, 3) := by decide +kernel
theorem dX12_isBetween_13 : decode cX12_isBetween 13 = .ok (.iconst 1, 1) := by decide +kernel
theorem dX12_isBetween_14 : decode cX12_isBetween 14 = .ok (.goto 4, 3) := by decide +kernel
theorem dX12_isBetween_17 : decode cX12_isBetween 17 = .ok (.iconst 0, 1) := by decide +kernel
theorem dX12_isBetween_18 : decode cX12_isBetween 18 = .ok (.ireturn, 1) := by decide +kernel
theorem dX12_isVertex_0 : decode cX12_isVertex 0 = .ok (.iload_n 1, 1) := by decide +kernel
theorem dX12_isVertex_1 : decode cX12_isVertex 1 = .ok (.i2l, 1) := by decide +kernel
theorem dX12_isVertex_2 : decode cX12_isVertex 2 = .ok (.lconst 0, 1) := by decide +kernel
theorem dX12_isVertex_3 : decode cX12_isVertex 3 = .ok (.aload_n 0, 1) := by decide +kernel
theorem dX12_isVertex_4 : decode cX12_isVertex 4 = .ok (.getfield 9, 3) := by decide +kernel
theorem dX12_isVertex_7 : decode cX12_isVertex 7 = .ok (.iconst 1, 1) := by decide +kernel
theorem dX12_isVertex_8 : decode cX12_isVertex 8 = .ok (.isub, 1) := by decide +kernel
theorem dX12_isVertex_9 : decode cX12_isVertex 9 = .ok (.i2l, 1) := by decide +kernel
theorem dX12_isVertex_10 : decode cX12_isVertex 10 = .ok (.invokestatic 79, 3) := by decide +kernel
theorem dX12_isVertex_13 : decode cX12_isVertex 13 = .ok (.ireturn, 1) := by decide +kernel
theorem dX12_allVertices_0 : decode cX12_allVertices 0 = .ok (.iconst 1, 1) := by decide +kernel
theorem dX12_allVertices_1 : decode cX12_allVertices 1 = .ok (.aload_n 0, 1) := by decide +kernel
theorem dX12_allVertices_2 : decode cX12_allVertices 2 = .ok (.getfield 9, 3) := by decide +kernel
theorem dX12_allVertices_5 : decode cX12_allVertices 5 = .ok (.ishl, 1) := by decide +kernel
theorem dX12_allVertices_6 : decode cX12_allVertices 6 = .ok (.iconst 1, 1) := by decide +kernel
theorem dX12_allVertices_7 : decode cX12_allVertices 7 = .ok (.isub, 1) := by decide +kernel
theorem dX12_allVertices_8 : decode cX12_allVertices 8 = .ok (.ireturn, 1) := by decide +kernel
theorem dX12_isEdge_0 : decode cX12_isEdge 0 = .ok (.aload_n 0, 1) := by decide +kernel
theorem dX12_isEdge_1 : decode cX12_isEdge 1 = .ok (.getfield 15, 3) := by decide +kernel
theorem dX12_isEdge_4 : decode cX12_isEdge 4 = .ok (.iload_n 1, 1) := by decide +kernel
theorem dX12_isEdge_5 : decode cX12_isEdge 5 = .ok (.iaload, 1) := by decide +kernel
theorem dX12_isEdge_6 : decode cX12_isEdge 6 = .ok (.iload_n 2, 1) := by decide +kernel
theorem dX12_isEdge_7 : decode cX12_isEdge 7 = .ok (.ishr, 1) := by decide +kernel
theorem dX12_isEdge_8 : decode cX12_isEdge 8 = .ok (.iconst 1, 1) := by decide +kernel
theorem dX12_isEdge_9 : decode cX12_isEdge 9 = .ok (.iand, 1) := by decide +kernel
theorem dX12_isEdge_10 : decode cX12_isEdge 10 = .ok (.iconst 1, 1) := by decide +kernel
theorem dX12_isEdge_11 : decode cX12_isEdge 11 = .ok (.if_icmp .ne 7, 3) := by decide +kernel
theorem dX12_isEdge_14 : decode cX12_isEdge 14 = .ok (.iconst 1, 1) := by decide +kernel
theorem dX12_isEdge_15 : decode cX12_isEdge 15 = .ok (.goto 4, 3) := by decide +kernel
theorem dX12_isEdge_18 : decode cX12_isEdge 18 = .ok (.iconst 0, 1) := by decide +kernel
theorem dX12_isEdge_19 : decode cX12_isEdge 19 = .ok (.ireturn, 1) := by decide +kernel
theorem dX12_bitCount_0 : decode cX12_bitCount 0 = .ok (.iconst 0, 1) := by decide +kernel
theorem dX12_bitCount_1 : decode cX12_bitCount 1 = .ok (.istore_n 1, 1) := by decide +kernel
theorem dX12_bitCount_2 : decode cX12_bitCount 2 = .ok (.iload_n 0, 1) := by decide +kernel
theorem dX12_bitCount_3 : decode cX12_bitCount 3 = .ok (.istore_n 2, 1) := by decide +kernel
theorem dX12_bitCount_4 : decode cX12_bitCount 4 = .ok (.iload_n 2, 1) := by decide +kernel
theorem dX12_bitCount_5 : decode cX12_bitCount 5 = .ok (.ifCond .eq 15, 3) := by decide +kernel
theorem dX12_bitCount_8 : decode cX12_bitCount 8 = .ok (.iinc 1 1, 3) := by decide +kernel
theorem dX12_bitCount_11 : decode cX12_bitCount 11 = .ok (.iload_n 2, 1) := by decide +kernel
theorem dX12_bitCount_12 : decode cX12_bitCount 12 = .ok (.iload_n 2, 1) := by decide +kernel
theorem dX12_bitCount_13 : decode cX12_bitCount 13 = .ok (.iconst 1, 1) := by decide +kernel
theorem dX12_bitCount_14 : decode cX12_bitCount 14 = .ok (.isub, 1) := by decide +kernel
theorem dX12_bitCount_15 : decode cX12_bitCount 15 = .ok (.iand, 1) := by decide +kernel
theorem dX12_bitCount_16 : decode cX12_bitCount 16 = .ok (.istore_n 2, 1) := by decide +kernel
theorem dX12_bitCount_17 : decode cX12_bitCount 17 = .ok (.goto (-13), 3) := by decide +kernel
theorem dX12_bitCount_20 : decode cX12_bitCount 20 = .ok (.iload_n 1, 1) := by decide +kernel
theorem dX12_bitCount_21 : decode cX12_bitCount 21 = .ok (.ireturn, 1) := by decide +kernel
theorem dX12_recordChange_0 : decode cX12_recordChange 0 = .ok (.aload_n 0, 1) := by decide +kernel
theorem dX12_recordChange_1 : decode cX12_recordChange 1 = .ok (.getfield 83, 3) := by decide +kernel
theorem dX12_recordChange_4 : decode cX12_recordChange 4 = .ok (.bipush 12, 2) := by decide +kernel
theorem dX12_recordChange_6 : decode cX12_recordChange 6 = .ok (.if_icmp .ne 43, 3) := by decide +kernel
theorem dX12_recordChange_9 : decode cX12_recordChange 9 = .ok (.bipush 7, 2) := by decide +kernel
theorem dX12_recordChange_11 : decode cX12_recordChange 11 = .ok (.istore_n 1, 1) := by decide +kernel
theorem dX12_recordChange_12 : decode cX12_recordChange 12 = .ok (.iload_n 1, 1) := by decide +kernel
theorem dX12_recordChange_13 : decode cX12_recordChange 13 = .ok (.bipush 84, 2) := by decide +kernel
theorem dX12_recordChange_15 : decode cX12_recordChange 15 = .ok (.if_icmp .ge 24, 3) := by decide +kernel
theorem dX12_recordChange_18 : decode cX12_recordChange 18 = .ok (.aload_n 0, 1) := by decide +kernel
theorem dX12_recordChange_19 : decode cX12_recordChange 19 = .ok (.getfield 19, 3) := by decide +kernel
theorem dX12_recordChange_22 : decode cX12_recordChange 22 = .ok (.iload_n 1, 1) := by decide +kernel
theorem dX12_recordChange_23 : decode cX12_recordChange 23 = .ok (.bipush 7, 2) := by decide +kernel
theorem dX12_recordChange_25 : decode cX12_recordChange 25 = .ok (.isub, 1) := by decide +kernel
theorem dX12_recordChange_26 : decode cX12_recordChange 26 = .ok (.aload_n 0, 1) := by decide +kernel
theorem dX12_recordChange_27 : decode cX12_recordChange 27 = .ok (.getfield 19, 3) := by decide +kernel
theorem dX12_recordChange_30 : decode cX12_recordChange 30 = .ok (.iload_n 1, 1) := by decide +kernel
theorem dX12_recordChange_31 : decode cX12_recordChange 31 = .ok (.iaload, 1) := by decide +kernel
theorem dX12_recordChange_32 : decode cX12_recordChange 32 = .ok (.iastore, 1) := by decide +kernel
theorem dX12_recordChange_33 : decode cX12_recordChange 33 = .ok (.iinc 1 1, 3) := by decide +kernel
theorem dX12_recordChange_36 : decode cX12_recordChange 36 = .ok (.goto (-24), 3) := by decide +kernel
theorem dX12_recordChange_39 : decode cX12_recordChange 39 = .ok (.aload_n 0, 1) := by decide +kernel
theorem dX12_recordChange_40 : decode cX12_recordChange 40 = .ok (.dup, 1) := by decide +kernel
theorem dX12_recordChange_41 : decode cX12_recordChange 41 = .ok (.getfield 83, 3) := by decide +kernel
theorem dX12_recordChange_44 : decode cX12_recordChange 44 = .ok (.iconst 1, 1) := by decide +kernel
theorem dX12_recordChange_45 : decode cX12_recordChange 45 = .ok (.isub, 1) := by decide +kernel
theorem dX12_recordChange_46 : decode cX12_recordChange 46 = .ok (.putfield 83, 3) := by decide +kernel
theorem dX12_recordChange_49 : decode cX12_recordChange 49 = .ok (.iconst 0, 1) := by decide +kernel
theorem dX12_recordChange_50 : decode cX12_recordChange 50 = .ok (.istore_n 1, 1) := by decide +kernel
theorem dX12_recordChange_51 : decode cX12_recordChange 51 = .ok (.iload_n 1, 1) := by decide +kernel
theorem dX12_recordChange_52 : decode cX12_recordChange 52 = .ok (.bipush 7, 2) := by decide +kernel
theorem dX12_recordChange_54 : decode cX12_recordChange 54 = .ok (.if_icmp .ge 29, 3) := by decide +kernel
theorem dX12_recordChange_57 : decode cX12_recordChange 57 = .ok (.aload_n 0, 1) := by decide +kernel
theorem dX12_recordChange_58 : decode cX12_recordChange 58 = .ok (.getfield 19, 3) := by decide +kernel
theorem dX12_recordChange_61 : decode cX12_recordChange 61 = .ok (.aload_n 0, 1) := by decide +kernel
theorem dX12_recordChange_62 : decode cX12_recordChange 62 = .ok (.getfield 83, 3) := by decide +kernel
theorem dX12_recordChange_65 : decode cX12_recordChange 65 = .ok (.bipush 7, 2) := by decide +kernel
theorem dX12_recordChange_67 : decode cX12_recordChange 67 = .ok (.imul, 1) := by decide +kernel
theorem dX12_recordChange_68 : decode cX12_recordChange 68 = .ok (.iload_n 1, 1) := by decide +kernel
theorem dX12_recordChange_69 : decode cX12_recordChange 69 = .ok (.iadd, 1) := by decide +kernel
theorem dX12_recordChange_70 : decode cX12_recordChange 70 = .ok (.aload_n 0, 1) := by decide +kernel
theorem dX12_recordChange_71 : decode cX12_recordChange 71 = .ok (.getfield 15, 3) := by decide +kernel
theorem dX12_recordChange_74 : decode cX12_recordChange 74 = .ok (.iload_n 1, 1) := by decide +kernel
theorem dX12_recordChange_75 : decode cX12_recordChange 75 = .ok (.iaload, 1) := by decide +kernel
theorem dX12_recordChange_76 : decode cX12_recordChange 76 = .ok (.iastore, 1) := by decide +kernel
theorem dX12_recordChange_77 : decode cX12_recordChange 77 = .ok (.iinc 1 1, 3) := by decide +kernel
theorem dX12_recordChange_80 : decode cX12_recordChange 80 = .ok (.goto (-29), 3) := by decide +kernel
theorem dX12_recordChange_83 : decode cX12_recordChange 83 = .ok (.aload_n 0, 1) := by decide +kernel
theorem dX12_recordChange_84 : decode cX12_recordChange 84 = .ok (.dup, 1) := by decide +kernel
theorem dX12_recordChange_85 : decode cX12_recordChange 85 = .ok (.getfield 83, 3) := by decide +kernel
theorem dX12_recordChange_88 : decode cX12_recordChange 88 = .ok (.iconst 1, 1) := by decide +kernel
theorem dX12_recordChange_89 : decode cX12_recordChange 89 = .ok (.iadd, 1) := by decide +kernel
theorem dX12_recordChange_90 : decode cX12_recordChange 90 = .ok (.putfield 83, 3) := by decide +kernel
theorem dX12_recordChange_93 : decode cX12_recordChange 93 = .ok (.return_, 1) := by decide +kernel
theorem dX12_setVertexCount_0 : decode cX12_setVertexCount 0 = .ok (.iload_n 1, 1) := by decide +kernel
theorem dX12_setVertexCount_1 : decode cX12_setVertexCount 1 = .ok (.i2l, 1) := by decide +kernel
theorem dX12_setVertexCount_2 : decode cX12_setVertexCount 2 = .ok (.lconst 1, 1) := by decide +kernel
theorem dX12_setVertexCount_3 : decode cX12_setVertexCount 3 = .ok (.ldc2_w 86, 3) := by decide +kernel
theorem dX12_setVertexCount_6 : decode cX12_setVertexCount 6 = .ok (.invokestatic 79, 3) := by decide +kernel
theorem dX12_setVertexCount_9 : decode cX12_setVertexCount 9 = .ok (.ifCond .ne 5, 3) := by decide +kernel
theorem dX12_setVertexCount_12 : decode cX12_setVertexCount 12 = .ok (.iconst (-1), 1) := by decide +kernel
theorem dX12_setVertexCount_13 : decode cX12_setVertexCount 13 = .ok (.ireturn, 1) := by decide +kernel
theorem dX12_setVertexCount_14 : decode cX12_setVertexCount 14 = .ok (.aload_n 0, 1) := by decide +kernel
theorem dX12_setVertexCount_15 : decode cX12_setVertexCount 15 = .ok (.getfield 9, 3) := by decide +kernel
theorem dX12_setVertexCount_18 : decode cX12_setVertexCount 18 = .ok (.istore_n 2, 1) := by decide +kernel
theorem dX12_setVertexCount_19 : decode cX12_setVertexCount 19 = .ok (.aload_n 0, 1) := by decide +kernel
theorem dX12_setVertexCount_20 : decode cX12_setVertexCount 20 = .ok (.iload_n 1, 1) := by decide +kernel
theorem dX12_setVertexCount_21 : decode cX12_setVertexCount 21 = .ok (.putfield 9, 3) := by decide +kernel
theorem dX12_setVertexCount_24 : decode cX12_setVertexCount 24 = .ok (.iconst 0, 1) := by decide +kernel
theorem dX12_setVertexCount_25 : decode cX12_setVertexCount 25 = .ok (.istore_n 3, 1) := by decide +kernel
theorem dX12_setVertexCount_26 : decode cX12_setVertexCount 26 = .ok (.iload_n 3, 1) := by decide +kernel
theorem dX12_setVertexCount_27 : decode cX12_setVertexCount 27 = .ok (.bipush 7, 2) := by decide +kernel
theorem dX12_setVertexCount_29 : decode cX12_setVertexCount 29 = .ok (.if_icmp .ge 16, 3) := by decide +kernel
theorem dX12_setVertexCount_32 : decode cX12_setVertexCount 32 = .ok (.aload_n 0, 1) := by decide +kernel
theorem dX12_setVertexCount_33 : decode cX12_setVertexCount 33 = .ok (.getfield 15, 3) := by decide +kernel
theorem dX12_setVertexCount_36 : decode cX12_setVertexCount 36 = .ok (.iload_n 3, 1) := by decide +kernel
theorem dX12_setVertexCount_37 : decode cX12_setVertexCount 37 = .ok (.iconst 0, 1) := by decide +kernel
theorem dX12_setVertexCount_38 : decode cX12_setVertexCount 38 = .ok (.iastore, 1) := by decide +kernel
theorem dX12_setVertexCount_39 : decode cX12_setVertexCount 39 = .ok (.iinc 3 1, 3) := by decide +kernel
theorem dX12_setVertexCount_42 : decode cX12_setVertexCount 42 = .ok (.goto (-16), 3) := by decide +kernel
theorem dX12_setVertexCount_45 : decode cX12_setVertexCount 45 = .ok (.aload_n 0, 1) := by decide +kernel
theorem dX12_setVertexCount_46 : decode cX12_setVertexCount 46 = .ok (.iconst 0, 1) := by decide +kernel
theorem dX12_setVertexCount_47 : decode cX12_setVertexCount 47 = .ok (.putfield 83, 3) := by decide +kernel
theorem dX12_setVertexCount_50 : decode cX12_setVertexCount 50 = .ok (.aload_n 0, 1) := by decide +kernel
theorem dX12_setVertexCount_51 : decode cX12_setVertexCount 51 = .ok (.iconst 1, 1) := by decide +kernel
theorem dX12_setVertexCount_52 : decode cX12_setVertexCount 52 = .ok (.putfield 25, 3) := by decide +kernel
theorem dX12_setVertexCount_55 : decode cX12_setVertexCount 55 = .ok (.iload_n 2, 1) := by decide +kernel
theorem dX12_setVertexCount_56 : decode cX12_setVertexCount 56 = .ok (.ireturn, 1) := by decide +kernel
theorem dX12_toggleEdge_0 : decode cX12_toggleEdge 0 = .ok (.aload_n 0, 1) := by decide +kernel
theorem dX12_toggleEdge_1 : decode cX12_toggleEdge 1 = .ok (.iload_n 1, 1) := by decide +kernel
theorem dX12_toggleEdge_2 : decode cX12_toggleEdge 2 = .ok (.invokevirtual 88, 3) := by decide +kernel
theorem dX12_toggleEdge_5 : decode cX12_toggleEdge 5 = .ok (.ifCond .eq 16, 3) := by decide +kernel
theorem dX12_toggleEdge_8 : decode cX12_toggleEdge 8 = .ok (.aload_n 0, 1) := by decide +kernel
theorem dX12_toggleEdge_9 : decode cX12_toggleEdge 9 = .ok (.iload_n 2, 1) := by decide +kernel
theorem dX12_toggleEdge_10 : decode cX12_toggleEdge 10 = .ok (.invokevirtual 88, 3) := by decide +kernel
theorem dX12_toggleEdge_13 : decode cX12_toggleEdge 13 = .ok (.ifCond .eq 8, 3) := by decide +kernel
theorem dX12_toggleEdge_16 : decode cX12_toggleEdge 16 = .ok (.iload_n 1, 1) := by decide +kernel
theorem dX12_toggleEdge_17 : decode cX12_toggleEdge 17 = .ok (.iload_n 2, 1) := by decide +kernel
theorem dX12_toggleEdge_18 : decode cX12_toggleEdge 18 = .ok (.if_icmp .ne 5, 3) := by decide +kernel
theorem dX12_toggleEdge_21 : decode cX12_toggleEdge 21 = .ok (.iconst (-1), 1) := by decide +kernel
theorem dX12_toggleEdge_22 : decode cX12_toggleEdge 22 = .ok (.ireturn, 1) := by decide +kernel
theorem dX12_toggleEdge_23 : decode cX12_toggleEdge 23 = .ok (.aload_n 0, 1) := by decide +kernel
theorem dX12_toggleEdge_24 : decode cX12_toggleEdge 24 = .ok (.invokevirtual 92, 3) := by decide +kernel
theorem dX12_toggleEdge_27 : decode cX12_toggleEdge 27 = .ok (.aload_n 0, 1) := by decide +kernel
theorem dX12_toggleEdge_28 : decode cX12_toggleEdge 28 = .ok (.getfield 15, 3) := by decide +kernel
theorem dX12_toggleEdge_31 : decode cX12_toggleEdge 31 = .ok (.iload_n 1, 1) := by decide +kernel
theorem dX12_toggleEdge_32 : decode cX12_toggleEdge 32 = .ok (.dup2, 1) := by decide +kernel
theorem dX12_toggleEdge_33 : decode cX12_toggleEdge 33 = .ok (.iaload, 1) := by decide +kernel
theorem dX12_toggleEdge_34 : decode cX12_toggleEdge 34 = .ok (.iconst 1, 1) := by decide +kernel
theorem dX12_toggleEdge_35 : decode cX12_toggleEdge 35 = .ok (.iload_n 2, 1) := by decide +kernel
theorem dX12_toggleEdge_36 : decode cX12_toggleEdge 36 = .ok (.ishl, 1) := by decide +kernel
theorem dX12_toggleEdge_37 : decode cX12_toggleEdge 37 = .ok (.ixor, 1) := by decide +kernel
theorem dX12_toggleEdge_38 : decode cX12_toggleEdge 38 = .ok (.iastore, 1) := by decide +kernel
theorem dX12_toggleEdge_39 : decode cX12_toggleEdge 39 = .ok (.aload_n 0, 1) := by decide +kernel
theorem dX12_toggleEdge_40 : decode cX12_toggleEdge 40 = .ok (.getfield 15, 3) := by decide +kernel
theorem dX12_toggleEdge_43 : decode cX12_toggleEdge 43 = .ok (.iload_n 2, 1) := by decide +kernel
theorem dX12_toggleEdge_44 : decode cX12_toggleEdge 44 = .ok (.dup2, 1) := by decide +kernel
theorem dX12_toggleEdge_45 : decode cX12_toggleEdge 45 = .ok (.iaload, 1) := by decide +kernel
theorem dX12_toggleEdge_46 : decode cX12_toggleEdge 46 = .ok (.iconst 1, 1) := by decide +kernel
theorem dX12_toggleEdge_47 : decode cX12_toggleEdge 47 = .ok (.iload_n 1, 1) := by decide +kernel
theorem dX12_toggleEdge_48 : decode cX12_toggleEdge 48 = .ok (.ishl, 1) := by decide +kernel
theorem dX12_toggleEdge_49 : decode cX12_toggleEdge 49 = .ok (.ixor, 1) := by decide +kernel
theorem dX12_toggleEdge_50 : decode cX12_toggleEdge 50 = .ok (.iastore, 1) := by decide +kernel
theorem dX12_toggleEdge_51 : decode cX12_toggleEdge 51 = .ok (.aload_n 0, 1) := by decide +kernel
theorem dX12_toggleEdge_52 : decode cX12_toggleEdge 52 = .ok (.iconst 1, 1) := by decide +kernel
theorem dX12_toggleEdge_53 : decode cX12_toggleEdge 53 = .ok (.putfield 25, 3) := by decide +kernel
theorem dX12_toggleEdge_56 : decode cX12_toggleEdge 56 = .ok (.aload_n 0, 1) := by decide +kernel
theorem dX12_toggleEdge_57 : decode cX12_toggleEdge 57 = .ok (.iload_n 1, 1) := by decide +kernel
theorem dX12_toggleEdge_58 : decode cX12_toggleEdge 58 = .ok (.iload_n 2, 1) := by decide +kernel
theorem dX12_toggleEdge_59 : decode cX12_toggleEdge 59 = .ok (.invokevirtual 95, 3) := by decide +kernel
theorem dX12_toggleEdge_62 : decode cX12_toggleEdge 62 = .ok (.ifCond .eq 7, 3) := by decide +kernel
theorem dX12_toggleEdge_65 : decode cX12_toggleEdge 65 = .ok (.iconst 1, 1) := by decide +kernel
theorem dX12_toggleEdge_66 : decode cX12_toggleEdge 66 = .ok (.goto 4, 3) := by decide +kernel
theorem dX12_toggleEdge_69 : decode cX12_toggleEdge 69 = .ok (.iconst 0, 1) := by decide +kernel
theorem dX12_toggleEdge_70 : decode cX12_toggleEdge 70 = .ok (.ireturn, 1) := by decide +kernel
theorem dX12_hasBuiltEdge_0 : decode cX12_hasBuiltEdge 0 = .ok (.iload_n 2, 1) := by decide +kernel
theorem dX12_hasBuiltEdge_1 : decode cX12_hasBuiltEdge 1 = .ok (.iload_n 3, 1) := by decide +kernel
theorem dX12_hasBuiltEdge_2 : decode cX12_hasBuiltEdge 2 = .ok (.if_icmp .ge 7, 3) := by decide +kernel
theorem dX12_hasBuiltEdge_5 : decode cX12_hasBuiltEdge 5 = .ok (.iload_n 2, 1) := by decide +kernel
theorem dX12_hasBuiltEdge_6 : decode cX12_hasBuiltEdge 6 = .ok (.goto 4, 3) := by decide +kernel
theorem dX12_hasBuiltEdge_9 : decode cX12_hasBuiltEdge 9 = .ok (.iload_n 3, 1) := by decide +kernel
theorem dX12_hasBuiltEdge_10 : decode cX12_hasBuiltEdge 10 = .ok (.istore 4, 2) := by decide +kernel
theorem dX12_hasBuiltEdge_12 : decode cX12_hasBuiltEdge 12 = .ok (.iload_n 2, 1) := by decide +kernel
theorem dX12_hasBuiltEdge_13 : decode cX12_hasBuiltEdge 13 = .ok (.iload_n 3, 1) := by decide +kernel
theorem dX12_hasBuiltEdge_14 : decode cX12_hasBuiltEdge 14 = .ok (.if_icmp .ge 7, 3) := by decide +kernel
theorem dX12_hasBuiltEdge_17 : decode cX12_hasBuiltEdge 17 = .ok (.iload_n 3, 1) := by decide +kernel
theorem dX12_hasBuiltEdge_18 : decode cX12_hasBuiltEdge 18 = .ok (.goto 4, 3) := by decide +kernel
theorem dX12_hasBuiltEdge_21 : decode cX12_hasBuiltEdge 21 = .ok (.iload_n 2, 1) := by decide +kernel
theorem dX12_hasBuiltEdge_22 : decode cX12_hasBuiltEdge 22 = .ok (.istore 5, 2) := by decide +kernel
theorem dX12_hasBuiltEdge_24 : decode cX12_hasBuiltEdge 24 = .ok (.iload_n 1, 1) := by decide +kernel
theorem dX12_hasBuiltEdge_25 : decode cX12_hasBuiltEdge 25 = .ok (.tableswitch 96 0 4 #[35, 37, 68, 83, 85], 35) := by decide +kernel
theorem dX12_hasBuiltEdge_60 : decode cX12_hasBuiltEdge 60 = .ok (.iconst 0, 1) := by decide +kernel
theorem dX12_hasBuiltEdge_61 : decode cX12_hasBuiltEdge 61 = .ok (.ireturn, 1) := by decide +kernel
theorem dX12_hasBuiltEdge_62 : decode cX12_hasBuiltEdge 62 = .ok (.iload 5, 2) := by decide +kernel
theorem dX12_hasBuiltEdge_64 : decode cX12_hasBuiltEdge 64 = .ok (.iload 4, 2) := by decide +kernel
theorem dX12_hasBuiltEdge_66 : decode cX12_hasBuiltEdge 66 = .ok (.iconst 1, 1) := by decide +kernel
theorem dX12_hasBuiltEdge_67 : decode cX12_hasBuiltEdge 67 = .ok (.iadd, 1) := by decide +kernel
theorem dX12_hasBuiltEdge_68 : decode cX12_hasBuiltEdge 68 = .ok (.if_icmp .eq 19, 3) := by decide +kernel
theorem dX12_hasBuiltEdge_71 : decode cX12_hasBuiltEdge 71 = .ok (.iload 4, 2) := by decide +kernel
theorem dX12_hasBuiltEdge_73 : decode cX12_hasBuiltEdge 73 = .ok (.ifCond .ne 18, 3) := by decide +kernel
theorem dX12_hasBuiltEdge_76 : decode cX12_hasBuiltEdge 76 = .ok (.iload 5, 2) := by decide +kernel
theorem dX12_hasBuiltEdge_78 : decode cX12_hasBuiltEdge 78 = .ok (.aload_n 0, 1) := by decide +kernel
theorem dX12_hasBuiltEdge_79 : decode cX12_hasBuiltEdge 79 = .ok (.getfield 9, 3) := by decide +kernel
theorem dX12_hasBuiltEdge_82 : decode cX12_hasBuiltEdge 82 = .ok (.iconst 1, 1) := by decide +kernel
theorem dX12_hasBuiltEdge_83 : decode cX12_hasBuiltEdge 83 = .ok (.isub, 1) := by decide +kernel
theorem dX12_hasBuiltEdge_84 : decode cX12_hasBuiltEdge 84 = .ok (.if_icmp .ne 7, 3) := by decide +kernel
theorem dX12_hasBuiltEdge_87 : decode cX12_hasBuiltEdge 87 = .ok (.iconst 1, 1) := by decide +kernel
theorem dX12_hasBuiltEdge_88 : decode cX12_hasBuiltEdge 88 = .ok (.goto 4, 3) := by decide +kernel
theorem dX12_hasBuiltEdge_91 : decode cX12_hasBuiltEdge 91 = .ok (.iconst 0, 1) := by decide +kernel
theorem dX12_hasBuiltEdge_92 : decode cX12_hasBuiltEdge 92 = .ok (.ireturn, 1) := by decide +kernel
theorem dX12_hasBuiltEdge_93 : decode cX12_hasBuiltEdge 93 = .ok (.iload 5, 2) := by decide +kernel
theorem dX12_hasBuiltEdge_95 : decode cX12_hasBuiltEdge 95 = .ok (.iload 4, 2) := by decide +kernel
theorem dX12_hasBuiltEdge_97 : decode cX12_hasBuiltEdge 97 = .ok (.iconst 1, 1) := by decide +kernel
theorem dX12_hasBuiltEdge_98 : decode cX12_hasBuiltEdge 98 = .ok (.iadd, 1) := by decide +kernel
theorem dX12_hasBuiltEdge_99 : decode cX12_hasBuiltEdge 99 = .ok (.if_icmp .ne 7, 3) := by decide +kernel
theorem dX12_hasBuiltEdge_102 : decode cX12_hasBuiltEdge 102 = .ok (.iconst 1, 1) := by decide +kernel
theorem dX12_hasBuiltEdge_103 : decode cX12_hasBuiltEdge 103 = .ok (.goto 4, 3) := by decide +kernel
theorem dX12_hasBuiltEdge_106 : decode cX12_hasBuiltEdge 106 = .ok (.iconst 0, 1) := by decide +kernel
theorem dX12_hasBuiltEdge_107 : decode cX12_hasBuiltEdge 107 = .ok (.ireturn, 1) := by decide +kernel
theorem dX12_hasBuiltEdge_108 : decode cX12_hasBuiltEdge 108 = .ok (.iconst 1, 1) := by decide +kernel
theorem dX12_hasBuiltEdge_109 : decode cX12_hasBuiltEdge 109 = .ok (.ireturn, 1) := by decide +kernel
theorem dX12_hasBuiltEdge_110 : decode cX12_hasBuiltEdge 110 = .ok (.iload 4, 2) := by decide +kernel
theorem dX12_hasBuiltEdge_112 : decode cX12_hasBuiltEdge 112 = .ok (.ifCond .ne 7, 3) := by decide +kernel
theorem dX12_hasBuiltEdge_115 : decode cX12_hasBuiltEdge 115 = .ok (.iconst 1, 1) := by decide +kernel
theorem dX12_hasBuiltEdge_116 : decode cX12_hasBuiltEdge 116 = .ok (.goto 4, 3) := by decide +kernel
theorem dX12_hasBuiltEdge_119 : decode cX12_hasBuiltEdge 119 = .ok (.iconst 0, 1) := by decide +kernel
theorem dX12_hasBuiltEdge_120 : decode cX12_hasBuiltEdge 120 = .ok (.ireturn, 1) := by decide +kernel
theorem dX12_hasBuiltEdge_121 : decode cX12_hasBuiltEdge 121 = .ok (.aload_n 0, 1) := by decide +kernel
theorem dX12_hasBuiltEdge_122 : decode cX12_hasBuiltEdge 122 = .ok (.iload_n 2, 1) := by decide +kernel
theorem dX12_hasBuiltEdge_123 : decode cX12_hasBuiltEdge 123 = .ok (.iload_n 3, 1) := by decide +kernel
theorem dX12_hasBuiltEdge_124 : decode cX12_hasBuiltEdge 124 = .ok (.invokevirtual 95, 3) := by decide +kernel
theorem dX12_hasBuiltEdge_127 : decode cX12_hasBuiltEdge 127 = .ok (.ifCond .ne 7, 3) := by decide +kernel
theorem dX12_hasBuiltEdge_130 : decode cX12_hasBuiltEdge 130 = .ok (.iconst 1, 1) := by decide +kernel
theorem dX12_hasBuiltEdge_131 : decode cX12_hasBuiltEdge 131 = .ok (.goto 4, 3) := by decide +kernel
theorem dX12_hasBuiltEdge_134 : decode cX12_hasBuiltEdge 134 = .ok (.iconst 0, 1) := by decide +kernel
theorem dX12_hasBuiltEdge_135 : decode cX12_hasBuiltEdge 135 = .ok (.ireturn, 1) := by decide +kernel
theorem dX12_build_0 : decode cX12_build 0 = .ok (.iload_n 1, 1) := by decide +kernel
theorem dX12_build_1 : decode cX12_build 1 = .ok (.i2l, 1) := by decide +kernel
theorem dX12_build_2 : decode cX12_build 2 = .ok (.lconst 0, 1) := by decide +kernel
theorem dX12_build_3 : decode cX12_build 3 = .ok (.ldc2_w 99, 3) := by decide +kernel
theorem dX12_build_6 : decode cX12_build 6 = .ok (.invokestatic 79, 3) := by decide +kernel
theorem dX12_build_9 : decode cX12_build 9 = .ok (.ifCond .ne 5, 3) := by decide +kernel
theorem dX12_build_12 : decode cX12_build 12 = .ok (.iconst (-1), 1) := by decide +kernel
theorem dX12_build_13 : decode cX12_build 13 = .ok (.ireturn, 1) := by decide +kernel
theorem dX12_build_14 : decode cX12_build 14 = .ok (.iload_n 1, 1) := by decide +kernel
theorem dX12_build_15 : decode cX12_build 15 = .ok (.iconst 1, 1) := by decide +kernel
theorem dX12_build_16 : decode cX12_build 16 = .ok (.if_icmp .ne 14, 3) := by decide +kernel
theorem dX12_build_19 : decode cX12_build 19 = .ok (.aload_n 0, 1) := by decide +kernel
theorem dX12_build_20 : decode cX12_build 20 = .ok (.getfield 9, 3) := by decide +kernel
theorem dX12_build_23 : decode cX12_build 23 = .ok (.iconst 3, 1) := by decide +kernel
theorem dX12_build_24 : decode cX12_build 24 = .ok (.if_icmp .ge 6, 3) := by decide +kernel
theorem dX12_build_27 : decode cX12_build 27 = .ok (.bipush (-5), 2) := by decide +kernel
theorem dX12_build_29 : decode cX12_build 29 = .ok (.ireturn, 1) := by decide +kernel
theorem dX12_build_30 : decode cX12_build 30 = .ok (.aload_n 0, 1) := by decide +kernel
theorem dX12_build_31 : decode cX12_build 31 = .ok (.invokevirtual 92, 3) := by decide +kernel
theorem dX12_build_34 : decode cX12_build 34 = .ok (.iconst 0, 1) := by decide +kernel
theorem dX12_build_35 : decode cX12_build 35 = .ok (.istore_n 2, 1) := by decide +kernel
theorem dX12_build_36 : decode cX12_build 36 = .ok (.iload_n 2, 1) := by decide +kernel
theorem dX12_build_37 : decode cX12_build 37 = .ok (.aload_n 0, 1) := by decide +kernel
theorem dX12_build_38 : decode cX12_build 38 = .ok (.getfield 9, 3) := by decide +kernel
theorem dX12_build_41 : decode cX12_build 41 = .ok (.if_icmp .ge 64, 3) := by decide +kernel
theorem dX12_build_44 : decode cX12_build 44 = .ok (.iconst 0, 1) := by decide +kernel
theorem dX12_build_45 : decode cX12_build 45 = .ok (.istore_n 3, 1) := by decide +kernel
theorem dX12_build_46 : decode cX12_build 46 = .ok (.iconst 0, 1) := by decide +kernel
theorem dX12_build_47 : decode cX12_build 47 = .ok (.istore 4, 2) := by decide +kernel
theorem dX12_build_49 : decode cX12_build 49 = .ok (.iload 4, 2) := by decide +kernel
theorem dX12_build_51 : decode cX12_build 51 = .ok (.aload_n 0, 1) := by decide +kernel
theorem dX12_build_52 : decode cX12_build 52 = .ok (.getfield 9, 3) := by decide +kernel
theorem dX12_build_55 : decode cX12_build 55 = .ok (.if_icmp .ge 37, 3) := by decide +kernel
theorem dX12_build_58 : decode cX12_build 58 = .ok (.iload_n 3, 1) := by decide +kernel
theorem dX12_build_59 : decode cX12_build 59 = .ok (.iload_n 2, 1) := by decide +kernel
theorem dX12_build_60 : decode cX12_build 60 = .ok (.iload 4, 2) := by decide +kernel
theorem dX12_build_62 : decode cX12_build 62 = .ok (.if_icmp .eq 21, 3) := by decide +kernel
theorem dX12_build_65 : decode cX12_build 65 = .ok (.aload_n 0, 1) := by decide +kernel
theorem dX12_build_66 : decode cX12_build 66 = .ok (.iload_n 1, 1) := by decide +kernel
theorem dX12_build_67 : decode cX12_build 67 = .ok (.iload_n 2, 1) := by decide +kernel
theorem dX12_build_68 : decode cX12_build 68 = .ok (.iload 4, 2) := by decide +kernel
theorem dX12_build_70 : decode cX12_build 70 = .ok (.invokevirtual 101, 3) := by decide +kernel
theorem dX12_build_73 : decode cX12_build 73 = .ok (.ifCond .eq 10, 3) := by decide +kernel
theorem dX12_build_76 : decode cX12_build 76 = .ok (.iconst 1, 1) := by decide +kernel
theorem dX12_build_77 : decode cX12_build 77 = .ok (.iload 4, 2) := by decide +kernel
theorem dX12_build_79 : decode cX12_build 79 = .ok (.ishl, 1) := by decide +kernel
theorem dX12_build_80 : decode cX12_build 80 = .ok (.goto 4, 3) := by decide +kernel
theorem dX12_build_83 : decode cX12_build 83 = .ok (.iconst 0, 1) := by decide +kernel
theorem dX12_build_84 : decode cX12_build 84 = .ok (.ior, 1) := by decide +kernel
theorem dX12_build_85 : decode cX12_build 85 = .ok (.istore_n 3, 1) := by decide +kernel
theorem dX12_build_86 : decode cX12_build 86 = .ok (.iinc 4 1, 3) := by decide +kernel
theorem dX12_build_89 : decode cX12_build 89 = .ok (.goto (-40), 3) := by decide +kernel
theorem dX12_build_92 : decode cX12_build 92 = .ok (.aload_n 0, 1) := by decide +kernel
theorem dX12_build_93 : decode cX12_build 93 = .ok (.getfield 22, 3) := by decide +kernel
theorem dX12_build_96 : decode cX12_build 96 = .ok (.iload_n 2, 1) := by decide +kernel
theorem dX12_build_97 : decode cX12_build 97 = .ok (.iload_n 3, 1) := by decide +kernel
theorem dX12_build_98 : decode cX12_build 98 = .ok (.iastore, 1) := by decide +kernel
theorem dX12_build_99 : decode cX12_build 99 = .ok (.iinc 2 1, 3) := by decide +kernel
theorem dX12_build_102 : decode cX12_build 102 = .ok (.goto (-66), 3) := by decide +kernel
theorem dX12_build_105 : decode cX12_build 105 = .ok (.iconst 0, 1) := by decide +kernel
theorem dX12_build_106 : decode cX12_build 106 = .ok (.istore_n 2, 1) := by decide +kernel
theorem dX12_build_107 : decode cX12_build 107 = .ok (.iload_n 2, 1) := by decide +kernel
theorem dX12_build_108 : decode cX12_build 108 = .ok (.aload_n 0, 1) := by decide +kernel
theorem dX12_build_109 : decode cX12_build 109 = .ok (.getfield 9, 3) := by decide +kernel
theorem dX12_build_112 : decode cX12_build 112 = .ok (.if_icmp .ge 21, 3) := by decide +kernel
theorem dX12_build_115 : decode cX12_build 115 = .ok (.aload_n 0, 1) := by decide +kernel
theorem dX12_build_116 : decode cX12_build 116 = .ok (.getfield 15, 3) := by decide +kernel
theorem dX12_build_119 : decode cX12_build 119 = .ok (.iload_n 2, 1) := by decide +kernel
theorem dX12_build_120 : decode cX12_build 120 = .ok (.aload_n 0, 1) := by decide +kernel
theorem dX12_build_121 : decode cX12_build 121 = .ok (.getfield 22, 3) := by decide +kernel
theorem dX12_build_124 : decode cX12_build 124 = .ok (.iload_n 2, 1) := by decide +kernel
theorem dX12_build_125 : decode cX12_build 125 = .ok (.iaload, 1) := by decide +kernel
theorem dX12_build_126 : decode cX12_build 126 = .ok (.iastore, 1) := by decide +kernel
theorem dX12_build_127 : decode cX12_build 127 = .ok (.iinc 2 1, 3) := by decide +kernel
theorem dX12_build_130 : decode cX12_build 130 = .ok (.goto (-23), 3) := by decide +kernel
theorem dX12_build_133 : decode cX12_build 133 = .ok (.aload_n 0, 1) := by decide +kernel
theorem dX12_build_134 : decode cX12_build 134 = .ok (.iconst 1, 1) := by decide +kernel
theorem dX12_build_135 : decode cX12_build 135 = .ok (.putfield 25, 3) := by decide +kernel
theorem dX12_build_138 : decode cX12_build 138 = .ok (.aload_n 0, 1) := by decide +kernel
theorem dX12_build_139 : decode cX12_build 139 = .ok (.invokevirtual 105, 3) := by decide +kernel
theorem dX12_build_142 : decode cX12_build 142 = .ok (.ireturn, 1) := by decide +kernel
theorem dX12_revertChange_0 : decode cX12_revertChange 0 = .ok (.aload_n 0, 1) := by decide +kernel
theorem dX12_revertChange_1 : decode cX12_revertChange 1 = .ok (.getfield 83, 3) := by decide +kernel
theorem dX12_revertChange_4 : decode cX12_revertChange 4 = .ok (.ifCond .ne 6, 3) := by decide +kernel
theorem dX12_revertChange_7 : decode cX12_revertChange 7 = .ok (.bipush (-5), 2) := by decide +kernel
theorem dX12_revertChange_9 : decode cX12_revertChange 9 = .ok (.ireturn, 1) := by decide +kernel
theorem dX12_revertChange_10 : decode cX12_revertChange 10 = .ok (.aload_n 0, 1) := by decide +kernel
theorem dX12_revertChange_11 : decode cX12_revertChange 11 = .ok (.dup, 1) := by decide +kernel
theorem dX12_revertChange_12 : decode cX12_revertChange 12 = .ok (.getfield 83, 3) := by decide +kernel
theorem dX12_revertChange_15 : decode cX12_revertChange 15 = .ok (.iconst 1, 1) := by decide +kernel
theorem dX12_revertChange_16 : decode cX12_revertChange 16 = .ok (.isub, 1) := by decide +kernel
theorem dX12_revertChange_17 : decode cX12_revertChange 17 = .ok (.putfield 83, 3) := by decide +kernel
theorem dX12_revertChange_20 : decode cX12_revertChange 20 = .ok (.iconst 0, 1) := by decide +kernel
theorem dX12_revertChange_21 : decode cX12_revertChange 21 = .ok (.istore_n 1, 1) := by decide +kernel
theorem dX12_revertChange_22 : decode cX12_revertChange 22 = .ok (.iload_n 1, 1) := by decide +kernel
theorem dX12_revertChange_23 : decode cX12_revertChange 23 = .ok (.bipush 7, 2) := by decide +kernel
theorem dX12_revertChange_25 : decode cX12_revertChange 25 = .ok (.if_icmp .ge 29, 3) := by decide +kernel
theorem dX12_revertChange_28 : decode cX12_revertChange 28 = .ok (.aload_n 0, 1) := by decide +kernel
theorem dX12_revertChange_29 : decode cX12_revertChange 29 = .ok (.getfield 15, 3) := by decide +kernel
theorem dX12_revertChange_32 : decode cX12_revertChange 32 = .ok (.iload_n 1, 1) := by decide +kernel
theorem dX12_revertChange_33 : decode cX12_revertChange 33 = .ok (.aload_n 0, 1) := by decide +kernel
theorem dX12_revertChange_34 : decode cX12_revertChange 34 = .ok (.getfield 19, 3) := by decide +kernel
theorem dX12_revertChange_37 : decode cX12_revertChange 37 = .ok (.aload_n 0, 1) := by decide +kernel
theorem dX12_revertChange_38 : decode cX12_revertChange 38 = .ok (.getfield 83, 3) := by decide +kernel
theorem dX12_revertChange_41 : decode cX12_revertChange 41 = .ok (.bipush 7, 2) := by decide +kernel
theorem dX12_revertChange_43 : decode cX12_revertChange 43 = .ok (.imul, 1) := by decide +kernel
theorem dX12_revertChange_44 : decode cX12_revertChange 44 = .ok (.iload_n 1, 1) := by decide +kernel
theorem dX12_revertChange_45 : decode cX12_revertChange 45 = .ok (.iadd, 1) := by decide +kernel
theorem dX12_revertChange_46 : decode cX12_revertChange 46 = .ok (.iaload, 1) := by decide +kernel
theorem dX12_revertChange_47 : decode cX12_revertChange 47 = .ok (.iastore, 1) := by decide +kernel
theorem dX12_revertChange_48 : decode cX12_revertChange 48 = .ok (.iinc 1 1, 3) := by decide +kernel
theorem dX12_revertChange_51 : decode cX12_revertChange 51 = .ok (.goto (-29), 3) := by decide +kernel
theorem dX12_revertChange_54 : decode cX12_revertChange 54 = .ok (.aload_n 0, 1) := by decide +kernel
theorem dX12_revertChange_55 : decode cX12_revertChange 55 = .ok (.iconst 1, 1) := by decide +kernel
theorem dX12_revertChange_56 : decode cX12_revertChange 56 = .ok (.putfield 25, 3) := by decide +kernel
theorem dX12_revertChange_59 : decode cX12_revertChange 59 = .ok (.aload_n 0, 1) := by decide +kernel
theorem dX12_revertChange_60 : decode cX12_revertChange 60 = .ok (.getfield 83, 3) := by decide +kernel
theorem dX12_revertChange_63 : decode cX12_revertChange 63 = .ok (.ireturn, 1) := by decide +kernel
theorem dX12_vertexCount_0 : decode cX12_vertexCount 0 = .ok (.aload_n 0, 1) := by decide +kernel
theorem dX12_vertexCount_1 : decode cX12_vertexCount 1 = .ok (.getfield 9, 3) := by decide +kernel
theorem dX12_vertexCount_4 : decode cX12_vertexCount 4 = .ok (.ireturn, 1) := by decide +kernel
theorem dX12_edgeCount_0 : decode cX12_edgeCount 0 = .ok (.iconst 0, 1) := by decide +kernel
theorem dX12_edgeCount_1 : decode cX12_edgeCount 1 = .ok (.istore_n 1, 1) := by decide +kernel
theorem dX12_edgeCount_2 : decode cX12_edgeCount 2 = .ok (.iconst 0, 1) := by decide +kernel
theorem dX12_edgeCount_3 : decode cX12_edgeCount 3 = .ok (.istore_n 2, 1) := by decide +kernel
theorem dX12_edgeCount_4 : decode cX12_edgeCount 4 = .ok (.iload_n 2, 1) := by decide +kernel
theorem dX12_edgeCount_5 : decode cX12_edgeCount 5 = .ok (.aload_n 0, 1) := by decide +kernel
theorem dX12_edgeCount_6 : decode cX12_edgeCount 6 = .ok (.getfield 9, 3) := by decide +kernel
theorem dX12_edgeCount_9 : decode cX12_edgeCount 9 = .ok (.if_icmp .ge 21, 3) := by decide +kernel
theorem dX12_edgeCount_12 : decode cX12_edgeCount 12 = .ok (.iload_n 1, 1) := by decide +kernel
theorem dX12_edgeCount_13 : decode cX12_edgeCount 13 = .ok (.aload_n 0, 1) := by decide +kernel
theorem dX12_edgeCount_14 : decode cX12_edgeCount 14 = .ok (.getfield 15, 3) := by decide +kernel
theorem dX12_edgeCount_17 : decode cX12_edgeCount 17 = .ok (.iload_n 2, 1) := by decide +kernel
theorem dX12_edgeCount_18 : decode cX12_edgeCount 18 = .ok (.iaload, 1) := by decide +kernel
theorem dX12_edgeCount_19 : decode cX12_edgeCount 19 = .ok (.invokestatic 109, 3) := by decide +kernel
theorem dX12_edgeCount_22 : decode cX12_edgeCount 22 = .ok (.iadd, 1) := by decide +kernel
theorem dX12_edgeCount_23 : decode cX12_edgeCount 23 = .ok (.istore_n 1, 1) := by decide +kernel
theorem dX12_edgeCount_24 : decode cX12_edgeCount 24 = .ok (.iinc 2 1, 3) := by decide +kernel
theorem dX12_edgeCount_27 : decode cX12_edgeCount 27 = .ok (.goto (-23), 3) := by decide +kernel
theorem dX12_edgeCount_30 : decode cX12_edgeCount 30 = .ok (.iload_n 1, 1) := by decide +kernel
theorem dX12_edgeCount_31 : decode cX12_edgeCount 31 = .ok (.iconst 2, 1) := by decide +kernel
theorem dX12_edgeCount_32 : decode cX12_edgeCount 32 = .ok (.idiv, 1) := by decide +kernel
theorem dX12_edgeCount_33 : decode cX12_edgeCount 33 = .ok (.ireturn, 1) := by decide +kernel
theorem dX12_neighbors_0 : decode cX12_neighbors 0 = .ok (.aload_n 0, 1) := by decide +kernel
theorem dX12_neighbors_1 : decode cX12_neighbors 1 = .ok (.iload_n 1, 1) := by decide +kernel
theorem dX12_neighbors_2 : decode cX12_neighbors 2 = .ok (.invokevirtual 88, 3) := by decide +kernel
theorem dX12_neighbors_5 : decode cX12_neighbors 5 = .ok (.ifCond .eq 12, 3) := by decide +kernel
theorem dX12_neighbors_8 : decode cX12_neighbors 8 = .ok (.aload_n 0, 1) := by decide +kernel
theorem dX12_neighbors_9 : decode cX12_neighbors 9 = .ok (.getfield 15, 3) := by decide +kernel
theorem dX12_neighbors_12 : decode cX12_neighbors 12 = .ok (.iload_n 1, 1) := by decide +kernel
theorem dX12_neighbors_13 : decode cX12_neighbors 13 = .ok (.iaload, 1) := by decide +kernel
theorem dX12_neighbors_14 : decode cX12_neighbors 14 = .ok (.goto 4, 3) := by decide +kernel
theorem dX12_neighbors_17 : decode cX12_neighbors 17 = .ok (.iconst (-1), 1) := by decide +kernel
theorem dX12_neighbors_18 : decode cX12_neighbors 18 = .ok (.ireturn, 1) := by decide +kernel
theorem dX12_reachable_0 : decode cX12_reachable 0 = .ok (.iload_n 1, 1) := by decide +kernel
theorem dX12_reachable_1 : decode cX12_reachable 1 = .ok (.istore_n 2, 1) := by decide +kernel
theorem dX12_reachable_2 : decode cX12_reachable 2 = .ok (.iconst 1, 1) := by decide +kernel
theorem dX12_reachable_3 : decode cX12_reachable 3 = .ok (.istore_n 3, 1) := by decide +kernel
theorem dX12_reachable_4 : decode cX12_reachable 4 = .ok (.iload_n 3, 1) := by decide +kernel
theorem dX12_reachable_5 : decode cX12_reachable 5 = .ok (.ifCond .eq 68, 3) := by decide +kernel
theorem dX12_reachable_8 : decode cX12_reachable 8 = .ok (.iload_n 2, 1) := by decide +kernel
theorem dX12_reachable_9 : decode cX12_reachable 9 = .ok (.istore 4, 2) := by decide +kernel
theorem dX12_reachable_11 : decode cX12_reachable 11 = .ok (.iconst 0, 1) := by decide +kernel
theorem dX12_reachable_12 : decode cX12_reachable 12 = .ok (.istore 5, 2) := by decide +kernel
theorem dX12_reachable_14 : decode cX12_reachable 14 = .ok (.iload 5, 2) := by decide +kernel
theorem dX12_reachable_16 : decode cX12_reachable 16 = .ok (.aload_n 0, 1) := by decide +kernel
theorem dX12_reachable_17 : decode cX12_reachable 17 = .ok (.getfield 9, 3) := by decide +kernel
theorem dX12_reachable_20 : decode cX12_reachable 20 = .ok (.if_icmp .ge 35, 3) := by decide +kernel
theorem dX12_reachable_23 : decode cX12_reachable 23 = .ok (.iload 4, 2) := by decide +kernel
theorem dX12_reachable_25 : decode cX12_reachable 25 = .ok (.iload_n 2, 1) := by decide +kernel
theorem dX12_reachable_26 : decode cX12_reachable 26 = .ok (.iload 5, 2) := by decide +kernel
theorem dX12_reachable_28 : decode cX12_reachable 28 = .ok (.ishr, 1) := by decide +kernel
theorem dX12_reachable_29 : decode cX12_reachable 29 = .ok (.iconst 1, 1) := by decide +kernel
theorem dX12_reachable_30 : decode cX12_reachable 30 = .ok (.iand, 1) := by decide +kernel
theorem dX12_reachable_31 : decode cX12_reachable 31 = .ok (.iconst 1, 1) := by decide +kernel
theorem dX12_reachable_32 : decode cX12_reachable 32 = .ok (.if_icmp .ne 13, 3) := by decide +kernel
theorem dX12_reachable_35 : decode cX12_reachable 35 = .ok (.aload_n 0, 1) := by decide +kernel
theorem dX12_reachable_36 : decode cX12_reachable 36 = .ok (.getfield 15, 3) := by decide +kernel
theorem dX12_reachable_39 : decode cX12_reachable 39 = .ok (.iload 5, 2) := by decide +kernel
theorem dX12_reachable_41 : decode cX12_reachable 41 = .ok (.iaload, 1) := by decide +kernel
theorem dX12_reachable_42 : decode cX12_reachable 42 = .ok (.goto 4, 3) := by decide +kernel
theorem dX12_reachable_45 : decode cX12_reachable 45 = .ok (.iconst 0, 1) := by decide +kernel
theorem dX12_reachable_46 : decode cX12_reachable 46 = .ok (.ior, 1) := by decide +kernel
theorem dX12_reachable_47 : decode cX12_reachable 47 = .ok (.istore 4, 2) := by decide +kernel
theorem dX12_reachable_49 : decode cX12_reachable 49 = .ok (.iinc 5 1, 3) := by decide +kernel
theorem dX12_reachable_52 : decode cX12_reachable 52 = .ok (.goto (-38), 3) := by decide +kernel
theorem dX12_reachable_55 : decode cX12_reachable 55 = .ok (.iload 4, 2) := by decide +kernel
theorem dX12_reachable_57 : decode cX12_reachable 57 = .ok (.iload_n 2, 1) := by decide +kernel
theorem dX12_reachable_58 : decode cX12_reachable 58 = .ok (.if_icmp .eq 7, 3) := by decide +kernel
theorem dX12_reachable_61 : decode cX12_reachable 61 = .ok (.iconst 1, 1) := by decide +kernel
theorem dX12_reachable_62 : decode cX12_reachable 62 = .ok (.goto 4, 3) := by decide +kernel
theorem dX12_reachable_65 : decode cX12_reachable 65 = .ok (.iconst 0, 1) := by decide +kernel
theorem dX12_reachable_66 : decode cX12_reachable 66 = .ok (.istore_n 3, 1) := by decide +kernel
theorem dX12_reachable_67 : decode cX12_reachable 67 = .ok (.iload 4, 2) := by decide +kernel
theorem dX12_reachable_69 : decode cX12_reachable 69 = .ok (.istore_n 2, 1) := by decide +kernel
theorem dX12_reachable_70 : decode cX12_reachable 70 = .ok (.goto (-66), 3) := by decide +kernel
theorem dX12_reachable_73 : decode cX12_reachable 73 = .ok (.iload_n 2, 1) := by decide +kernel
theorem dX12_reachable_74 : decode cX12_reachable 74 = .ok (.ireturn, 1) := by decide +kernel
theorem dX12_componentCount_0 : decode cX12_componentCount 0 = .ok (.iconst 0, 1) := by decide +kernel
theorem dX12_componentCount_1 : decode cX12_componentCount 1 = .ok (.istore_n 1, 1) := by decide +kernel
theorem dX12_componentCount_2 : decode cX12_componentCount 2 = .ok (.iconst 0, 1) := by decide +kernel
theorem dX12_componentCount_3 : decode cX12_componentCount 3 = .ok (.istore_n 2, 1) := by decide +kernel
theorem dX12_componentCount_4 : decode cX12_componentCount 4 = .ok (.iconst 0, 1) := by decide +kernel
theorem dX12_componentCount_5 : decode cX12_componentCount 5 = .ok (.istore_n 3, 1) := by decide +kernel
theorem dX12_componentCount_6 : decode cX12_componentCount 6 = .ok (.iload_n 3, 1) := by decide +kernel
theorem dX12_componentCount_7 : decode cX12_componentCount 7 = .ok (.aload_n 0, 1) := by decide +kernel
theorem dX12_componentCount_8 : decode cX12_componentCount 8 = .ok (.getfield 9, 3) := by decide +kernel
theorem dX12_componentCount_11 : decode cX12_componentCount 11 = .ok (.if_icmp .ge 30, 3) := by decide +kernel
theorem dX12_componentCount_14 : decode cX12_componentCount 14 = .ok (.iload_n 2, 1) := by decide +kernel
theorem dX12_componentCount_15 : decode cX12_componentCount 15 = .ok (.iload_n 3, 1) := by decide +kernel
theorem dX12_componentCount_16 : decode cX12_componentCount 16 = .ok (.ishr, 1) := by decide +kernel
theorem dX12_componentCount_17 : decode cX12_componentCount 17 = .ok (.iconst 1, 1) := by decide +kernel
theorem dX12_componentCount_18 : decode cX12_componentCount 18 = .ok (.iand, 1) := by decide +kernel
theorem dX12_componentCount_19 : decode cX12_componentCount 19 = .ok (.ifCond .ne 16, 3) := by decide +kernel
theorem dX12_componentCount_22 : decode cX12_componentCount 22 = .ok (.iinc 1 1, 3) := by decide +kernel
theorem dX12_componentCount_25 : decode cX12_componentCount 25 = .ok (.iload_n 2, 1) := by decide +kernel
theorem dX12_componentCount_26 : decode cX12_componentCount 26 = .ok (.aload_n 0, 1) := by decide +kernel
theorem dX12_componentCount_27 : decode cX12_componentCount 27 = .ok (.iconst 1, 1) := by decide +kernel
theorem dX12_componentCount_28 : decode cX12_componentCount 28 = .ok (.iload_n 3, 1) := by decide +kernel
theorem dX12_componentCount_29 : decode cX12_componentCount 29 = .ok (.ishl, 1) := by decide +kernel
theorem dX12_componentCount_30 : decode cX12_componentCount 30 = .ok (.invokevirtual 113, 3) := by decide +kernel
theorem dX12_componentCount_33 : decode cX12_componentCount 33 = .ok (.ior, 1) := by decide +kernel
theorem dX12_componentCount_34 : decode cX12_componentCount 34 = .ok (.istore_n 2, 1) := by decide +kernel
theorem dX12_componentCount_35 : decode cX12_componentCount 35 = .ok (.iinc 3 1, 3) := by decide +kernel
theorem dX12_componentCount_38 : decode cX12_componentCount 38 = .ok (.goto (-32), 3) := by decide +kernel
theorem dX12_componentCount_41 : decode cX12_componentCount 41 = .ok (.iload_n 1, 1) := by decide +kernel
theorem dX12_componentCount_42 : decode cX12_componentCount 42 = .ok (.ireturn, 1) := by decide +kernel
theorem dX12_hasOddCycle_0 : decode cX12_hasOddCycle 0 = .ok (.iconst 0, 1) := by decide +kernel
theorem dX12_hasOddCycle_1 : decode cX12_hasOddCycle 1 = .ok (.istore_n 1, 1) := by decide +kernel
theorem dX12_hasOddCycle_2 : decode cX12_hasOddCycle 2 = .ok (.iload_n 1, 1) := by decide +kernel
theorem dX12_hasOddCycle_3 : decode cX12_hasOddCycle 3 = .ok (.aload_n 0, 1) := by decide +kernel
theorem dX12_hasOddCycle_4 : decode cX12_hasOddCycle 4 = .ok (.invokevirtual 116, 3) := by decide +kernel
theorem dX12_hasOddCycle_7 : decode cX12_hasOddCycle 7 = .ok (.if_icmp .gt 76, 3) := by decide +kernel
theorem dX12_hasOddCycle_10 : decode cX12_hasOddCycle 10 = .ok (.iconst 1, 1) := by decide +kernel
theorem dX12_hasOddCycle_11 : decode cX12_hasOddCycle 11 = .ok (.istore_n 2, 1) := by decide +kernel
theorem dX12_hasOddCycle_12 : decode cX12_hasOddCycle 12 = .ok (.iconst 0, 1) := by decide +kernel
theorem dX12_hasOddCycle_13 : decode cX12_hasOddCycle 13 = .ok (.istore_n 3, 1) := by decide +kernel
theorem dX12_hasOddCycle_14 : decode cX12_hasOddCycle 14 = .ok (.iload_n 3, 1) := by decide +kernel
theorem dX12_hasOddCycle_15 : decode cX12_hasOddCycle 15 = .ok (.aload_n 0, 1) := by decide +kernel
theorem dX12_hasOddCycle_16 : decode cX12_hasOddCycle 16 = .ok (.getfield 9, 3) := by decide +kernel
theorem dX12_hasOddCycle_19 : decode cX12_hasOddCycle 19 = .ok (.if_icmp .ge 52, 3) := by decide +kernel
theorem dX12_hasOddCycle_22 : decode cX12_hasOddCycle 22 = .ok (.iload_n 1, 1) := by decide +kernel
theorem dX12_hasOddCycle_23 : decode cX12_hasOddCycle 23 = .ok (.iload_n 3, 1) := by decide +kernel
theorem dX12_hasOddCycle_24 : decode cX12_hasOddCycle 24 = .ok (.ishr, 1) := by decide +kernel
theorem dX12_hasOddCycle_25 : decode cX12_hasOddCycle 25 = .ok (.iconst 1, 1) := by decide +kernel
theorem dX12_hasOddCycle_26 : decode cX12_hasOddCycle 26 = .ok (.iand, 1) := by decide +kernel
theorem dX12_hasOddCycle_27 : decode cX12_hasOddCycle 27 = .ok (.iconst 1, 1) := by decide +kernel
theorem dX12_hasOddCycle_28 : decode cX12_hasOddCycle 28 = .ok (.if_icmp .ne 7, 3) := by decide +kernel
theorem dX12_hasOddCycle_31 : decode cX12_hasOddCycle 31 = .ok (.iload_n 1, 1) := by decide +kernel
theorem dX12_hasOddCycle_32 : decode cX12_hasOddCycle 32 = .ok (.goto 11, 3) := by decide +kernel
theorem dX12_hasOddCycle_35 : decode cX12_hasOddCycle 35 = .ok (.aload_n 0, 1) := by decide +kernel
theorem dX12_hasOddCycle_36 : decode cX12_hasOddCycle 36 = .ok (.invokevirtual 116, 3) := by decide +kernel
theorem dX12_hasOddCycle_39 : decode cX12_hasOddCycle 39 = .ok (.iload_n 1, 1) := by decide +kernel
theorem dX12_hasOddCycle_40 : decode cX12_hasOddCycle 40 = .ok (.iconst (-1), 1) := by decide +kernel
theorem dX12_hasOddCycle_41 : decode cX12_hasOddCycle 41 = .ok (.ixor, 1) := by decide +kernel
theorem dX12_hasOddCycle_42 : decode cX12_hasOddCycle 42 = .ok (.iand, 1) := by decide +kernel
theorem dX12_hasOddCycle_43 : decode cX12_hasOddCycle 43 = .ok (.istore 4, 2) := by decide +kernel
theorem dX12_hasOddCycle_45 : decode cX12_hasOddCycle 45 = .ok (.iload_n 2, 1) := by decide +kernel
theorem dX12_hasOddCycle_46 : decode cX12_hasOddCycle 46 = .ok (.aload_n 0, 1) := by decide +kernel
theorem dX12_hasOddCycle_47 : decode cX12_hasOddCycle 47 = .ok (.getfield 15, 3) := by decide +kernel
theorem dX12_hasOddCycle_50 : decode cX12_hasOddCycle 50 = .ok (.iload_n 3, 1) := by decide +kernel
theorem dX12_hasOddCycle_51 : decode cX12_hasOddCycle 51 = .ok (.iaload, 1) := by decide +kernel
theorem dX12_hasOddCycle_52 : decode cX12_hasOddCycle 52 = .ok (.iload 4, 2) := by decide +kernel
theorem dX12_hasOddCycle_54 : decode cX12_hasOddCycle 54 = .ok (.iand, 1) := by decide +kernel
theorem dX12_hasOddCycle_55 : decode cX12_hasOddCycle 55 = .ok (.ifCond .ne 7, 3) := by decide +kernel
theorem dX12_hasOddCycle_58 : decode cX12_hasOddCycle 58 = .ok (.iconst 1, 1) := by decide +kernel
theorem dX12_hasOddCycle_59 : decode cX12_hasOddCycle 59 = .ok (.goto 4, 3) := by decide +kernel
theorem dX12_hasOddCycle_62 : decode cX12_hasOddCycle 62 = .ok (.iconst 0, 1) := by decide +kernel
theorem dX12_hasOddCycle_63 : decode cX12_hasOddCycle 63 = .ok (.iand, 1) := by decide +kernel
theorem dX12_hasOddCycle_64 : decode cX12_hasOddCycle 64 = .ok (.istore_n 2, 1) := by decide +kernel
theorem dX12_hasOddCycle_65 : decode cX12_hasOddCycle 65 = .ok (.iinc 3 1, 3) := by decide +kernel
theorem dX12_hasOddCycle_68 : decode cX12_hasOddCycle 68 = .ok (.goto (-54), 3) := by decide +kernel
theorem dX12_hasOddCycle_71 : decode cX12_hasOddCycle 71 = .ok (.iload_n 2, 1) := by decide +kernel
theorem dX12_hasOddCycle_72 : decode cX12_hasOddCycle 72 = .ok (.ifCond .eq 5, 3) := by decide +kernel
theorem dX12_hasOddCycle_75 : decode cX12_hasOddCycle 75 = .ok (.iconst 0, 1) := by decide +kernel
theorem dX12_hasOddCycle_76 : decode cX12_hasOddCycle 76 = .ok (.ireturn, 1) := by decide +kernel
theorem dX12_hasOddCycle_77 : decode cX12_hasOddCycle 77 = .ok (.iinc 1 1, 3) := by decide +kernel
theorem dX12_hasOddCycle_80 : decode cX12_hasOddCycle 80 = .ok (.goto (-78), 3) := by decide +kernel
theorem dX12_hasOddCycle_83 : decode cX12_hasOddCycle 83 = .ok (.iconst 1, 1) := by decide +kernel
theorem dX12_hasOddCycle_84 : decode cX12_hasOddCycle 84 = .ok (.ireturn, 1) := by decide +kernel
theorem dX12_matchingWithin_0 : decode cX12_matchingWithin 0 = .ok (.iload_n 1, 1) := by decide +kernel
theorem dX12_matchingWithin_1 : decode cX12_matchingWithin 1 = .ok (.ifCond .ne 5, 3) := by decide +kernel
theorem dX12_matchingWithin_4 : decode cX12_matchingWithin 4 = .ok (.iconst 0, 1) := by decide +kernel
theorem dX12_matchingWithin_5 : decode cX12_matchingWithin 5 = .ok (.ireturn, 1) := by decide +kernel
theorem dX12_matchingWithin_6 : decode cX12_matchingWithin 6 = .ok (.iconst 0, 1) := by decide +kernel
theorem dX12_matchingWithin_7 : decode cX12_matchingWithin 7 = .ok (.istore_n 2, 1) := by decide +kernel
theorem dX12_matchingWithin_8 : decode cX12_matchingWithin 8 = .ok (.iload_n 1, 1) := by decide +kernel
theorem dX12_matchingWithin_9 : decode cX12_matchingWithin 9 = .ok (.iload_n 2, 1) := by decide +kernel
theorem dX12_matchingWithin_10 : decode cX12_matchingWithin 10 = .ok (.ishr, 1) := by decide +kernel
theorem dX12_matchingWithin_11 : decode cX12_matchingWithin 11 = .ok (.iconst 1, 1) := by decide +kernel
theorem dX12_matchingWithin_12 : decode cX12_matchingWithin 12 = .ok (.iand, 1) := by decide +kernel
theorem dX12_matchingWithin_13 : decode cX12_matchingWithin 13 = .ok (.ifCond .ne 9, 3) := by decide +kernel
theorem dX12_matchingWithin_16 : decode cX12_matchingWithin 16 = .ok (.iinc 2 1, 3) := by decide +kernel
theorem dX12_matchingWithin_19 : decode cX12_matchingWithin 19 = .ok (.goto (-11), 3) := by decide +kernel
theorem dX12_matchingWithin_22 : decode cX12_matchingWithin 22 = .ok (.iload_n 1, 1) := by decide +kernel
theorem dX12_matchingWithin_23 : decode cX12_matchingWithin 23 = .ok (.iconst 1, 1) := by decide +kernel
theorem dX12_matchingWithin_24 : decode cX12_matchingWithin 24 = .ok (.iload_n 2, 1) := by decide +kernel
theorem dX12_matchingWithin_25 : decode cX12_matchingWithin 25 = .ok (.ishl, 1) := by decide +kernel
theorem dX12_matchingWithin_26 : decode cX12_matchingWithin 26 = .ok (.iconst (-1), 1) := by decide +kernel
theorem dX12_matchingWithin_27 : decode cX12_matchingWithin 27 = .ok (.ixor, 1) := by decide +kernel
theorem dX12_matchingWithin_28 : decode cX12_matchingWithin 28 = .ok (.iand, 1) := by decide +kernel
theorem dX12_matchingWithin_29 : decode cX12_matchingWithin 29 = .ok (.istore_n 3, 1) := by decide +kernel
theorem dX12_matchingWithin_30 : decode cX12_matchingWithin 30 = .ok (.aload_n 0, 1) := by decide +kernel
theorem dX12_matchingWithin_31 : decode cX12_matchingWithin 31 = .ok (.iload_n 3, 1) := by decide +kernel
theorem dX12_matchingWithin_32 : decode cX12_matchingWithin 32 = .ok (.invokevirtual 119, 3) := by decide +kernel
theorem dX12_matchingWithin_35 : decode cX12_matchingWithin 35 = .ok (.istore 4, 2) := by decide +kernel
theorem dX12_matchingWithin_37 : decode cX12_matchingWithin 37 = .ok (.iconst 0, 1) := by decide +kernel
theorem dX12_matchingWithin_38 : decode cX12_matchingWithin 38 = .ok (.istore 5, 2) := by decide +kernel
theorem dX12_matchingWithin_40 : decode cX12_matchingWithin 40 = .ok (.iload 5, 2) := by decide +kernel
theorem dX12_matchingWithin_42 : decode cX12_matchingWithin 42 = .ok (.aload_n 0, 1) := by decide +kernel
theorem dX12_matchingWithin_43 : decode cX12_matchingWithin 43 = .ok (.getfield 9, 3) := by decide +kernel
theorem dX12_matchingWithin_46 : decode cX12_matchingWithin 46 = .ok (.if_icmp .ge 57, 3) := by decide +kernel
theorem dX12_matchingWithin_49 : decode cX12_matchingWithin 49 = .ok (.iload_n 3, 1) := by decide +kernel
theorem dX12_matchingWithin_50 : decode cX12_matchingWithin 50 = .ok (.aload_n 0, 1) := by decide +kernel
theorem dX12_matchingWithin_51 : decode cX12_matchingWithin 51 = .ok (.getfield 15, 3) := by decide +kernel
theorem dX12_matchingWithin_54 : decode cX12_matchingWithin 54 = .ok (.iload_n 2, 1) := by decide +kernel
theorem dX12_matchingWithin_55 : decode cX12_matchingWithin 55 = .ok (.iaload, 1) := by decide +kernel
theorem dX12_matchingWithin_56 : decode cX12_matchingWithin 56 = .ok (.iand, 1) := by decide +kernel
theorem dX12_matchingWithin_57 : decode cX12_matchingWithin 57 = .ok (.iconst 1, 1) := by decide +kernel
theorem dX12_matchingWithin_58 : decode cX12_matchingWithin 58 = .ok (.iload 5, 2) := by decide +kernel
theorem dX12_matchingWithin_60 : decode cX12_matchingWithin 60 = .ok (.ishl, 1) := by decide +kernel
theorem dX12_matchingWithin_61 : decode cX12_matchingWithin 61 = .ok (.iand, 1) := by decide +kernel
theorem dX12_matchingWithin_62 : decode cX12_matchingWithin 62 = .ok (.ifCond .eq 35, 3) := by decide +kernel
theorem dX12_matchingWithin_65 : decode cX12_matchingWithin 65 = .ok (.iconst 1, 1) := by decide +kernel
theorem dX12_matchingWithin_66 : decode cX12_matchingWithin 66 = .ok (.aload_n 0, 1) := by decide +kernel
theorem dX12_matchingWithin_67 : decode cX12_matchingWithin 67 = .ok (.iload_n 3, 1) := by decide +kernel
theorem dX12_matchingWithin_68 : decode cX12_matchingWithin 68 = .ok (.iconst 1, 1) := by decide +kernel
theorem dX12_matchingWithin_69 : decode cX12_matchingWithin 69 = .ok (.iload 5, 2) := by decide +kernel
theorem dX12_matchingWithin_71 : decode cX12_matchingWithin 71 = .ok (.ishl, 1) := by decide +kernel
theorem dX12_matchingWithin_72 : decode cX12_matchingWithin 72 = .ok (.iconst (-1), 1) := by decide +kernel
theorem dX12_matchingWithin_73 : decode cX12_matchingWithin 73 = .ok (.ixor, 1) := by decide +kernel
theorem dX12_matchingWithin_74 : decode cX12_matchingWithin 74 = .ok (.iand, 1) := by decide +kernel
theorem dX12_matchingWithin_75 : decode cX12_matchingWithin 75 = .ok (.invokevirtual 119, 3) := by decide +kernel
theorem dX12_matchingWithin_78 : decode cX12_matchingWithin 78 = .ok (.iadd, 1) := by decide +kernel
theorem dX12_matchingWithin_79 : decode cX12_matchingWithin 79 = .ok (.istore 6, 2) := by decide +kernel
theorem dX12_matchingWithin_81 : decode cX12_matchingWithin 81 = .ok (.iload 6, 2) := by decide +kernel
theorem dX12_matchingWithin_83 : decode cX12_matchingWithin 83 = .ok (.iload 4, 2) := by decide +kernel
theorem dX12_matchingWithin_85 : decode cX12_matchingWithin 85 = .ok (.if_icmp .le 8, 3) := by decide +kernel
theorem dX12_matchingWithin_88 : decode cX12_matchingWithin 88 = .ok (.iload 6, 2) := by decide +kernel
theorem dX12_matchingWithin_90 : decode cX12_matchingWithin 90 = .ok (.goto 5, 3) := by decide +kernel
theorem dX12_matchingWithin_93 : decode cX12_matchingWithin 93 = .ok (.iload 4, 2) := by decide +kernel
theorem dX12_matchingWithin_95 : decode cX12_matchingWithin 95 = .ok (.istore 4, 2) := by decide +kernel
theorem dX12_matchingWithin_97 : decode cX12_matchingWithin 97 = .ok (.iinc 5 1, 3) := by decide +kernel
theorem dX12_matchingWithin_100 : decode cX12_matchingWithin 100 = .ok (.goto (-60), 3) := by decide +kernel
theorem dX12_matchingWithin_103 : decode cX12_matchingWithin 103 = .ok (.iload 4, 2) := by decide +kernel
theorem dX12_matchingWithin_105 : decode cX12_matchingWithin 105 = .ok (.ireturn, 1) := by decide +kernel
theorem dX12_matchingNumber_0 : decode cX12_matchingNumber 0 = .ok (.aload_n 0, 1) := by decide +kernel
theorem dX12_matchingNumber_1 : decode cX12_matchingNumber 1 = .ok (.aload_n 0, 1) := by decide +kernel
theorem dX12_matchingNumber_2 : decode cX12_matchingNumber 2 = .ok (.invokevirtual 116, 3) := by decide +kernel
theorem dX12_matchingNumber_5 : decode cX12_matchingNumber 5 = .ok (.invokevirtual 119, 3) := by decide +kernel
theorem dX12_matchingNumber_8 : decode cX12_matchingNumber 8 = .ok (.ireturn, 1) := by decide +kernel
theorem dX12_isCover_0 : decode cX12_isCover 0 = .ok (.iconst 0, 1) := by decide +kernel
theorem dX12_isCover_1 : decode cX12_isCover 1 = .ok (.istore_n 2, 1) := by decide +kernel
theorem dX12_isCover_2 : decode cX12_isCover 2 = .ok (.iload_n 2, 1) := by decide +kernel
theorem dX12_isCover_3 : decode cX12_isCover 3 = .ok (.aload_n 0, 1) := by decide +kernel
theorem dX12_isCover_4 : decode cX12_isCover 4 = .ok (.getfield 9, 3) := by decide +kernel
theorem dX12_isCover_7 : decode cX12_isCover 7 = .ok (.if_icmp .ge 32, 3) := by decide +kernel
theorem dX12_isCover_10 : decode cX12_isCover 10 = .ok (.iload_n 1, 1) := by decide +kernel
theorem dX12_isCover_11 : decode cX12_isCover 11 = .ok (.iload_n 2, 1) := by decide +kernel
theorem dX12_isCover_12 : decode cX12_isCover 12 = .ok (.ishr, 1) := by decide +kernel
theorem dX12_isCover_13 : decode cX12_isCover 13 = .ok (.iconst 1, 1) := by decide +kernel
theorem dX12_isCover_14 : decode cX12_isCover 14 = .ok (.iand, 1) := by decide +kernel
theorem dX12_isCover_15 : decode cX12_isCover 15 = .ok (.ifCond .ne 18, 3) := by decide +kernel
theorem dX12_isCover_18 : decode cX12_isCover 18 = .ok (.aload_n 0, 1) := by decide +kernel
theorem dX12_isCover_19 : decode cX12_isCover 19 = .ok (.getfield 15, 3) := by decide +kernel
theorem dX12_isCover_22 : decode cX12_isCover 22 = .ok (.iload_n 2, 1) := by decide +kernel
theorem dX12_isCover_23 : decode cX12_isCover 23 = .ok (.iaload, 1) := by decide +kernel
theorem dX12_isCover_24 : decode cX12_isCover 24 = .ok (.iload_n 1, 1) := by decide +kernel
theorem dX12_isCover_25 : decode cX12_isCover 25 = .ok (.iconst (-1), 1) := by decide +kernel
theorem dX12_isCover_26 : decode cX12_isCover 26 = .ok (.ixor, 1) := by decide +kernel
theorem dX12_isCover_27 : decode cX12_isCover 27 = .ok (.iand, 1) := by decide +kernel
theorem dX12_isCover_28 : decode cX12_isCover 28 = .ok (.ifCond .eq 5, 3) := by decide +kernel
theorem dX12_isCover_31 : decode cX12_isCover 31 = .ok (.iconst 0, 1) := by decide +kernel
theorem dX12_isCover_32 : decode cX12_isCover 32 = .ok (.ireturn, 1) := by decide +kernel
theorem dX12_isCover_33 : decode cX12_isCover 33 = .ok (.iinc 2 1, 3) := by decide +kernel
theorem dX12_isCover_36 : decode cX12_isCover 36 = .ok (.goto (-34), 3) := by decide +kernel
theorem dX12_isCover_39 : decode cX12_isCover 39 = .ok (.iconst 1, 1) := by decide +kernel
theorem dX12_isCover_40 : decode cX12_isCover 40 = .ok (.ireturn, 1) := by decide +kernel
theorem dX12_isMinimalCover_0 : decode cX12_isMinimalCover 0 = .ok (.aload_n 0, 1) := by decide +kernel
theorem dX12_isMinimalCover_1 : decode cX12_isMinimalCover 1 = .ok (.iload_n 1, 1) := by decide +kernel
theorem dX12_isMinimalCover_2 : decode cX12_isMinimalCover 2 = .ok (.invokevirtual 122, 3) := by decide +kernel
theorem dX12_isMinimalCover_5 : decode cX12_isMinimalCover 5 = .ok (.ifCond .ne 5, 3) := by decide +kernel
theorem dX12_isMinimalCover_8 : decode cX12_isMinimalCover 8 = .ok (.iconst 0, 1) := by decide +kernel
theorem dX12_isMinimalCover_9 : decode cX12_isMinimalCover 9 = .ok (.ireturn, 1) := by decide +kernel
theorem dX12_isMinimalCover_10 : decode cX12_isMinimalCover 10 = .ok (.iconst 0, 1) := by decide +kernel
theorem dX12_isMinimalCover_11 : decode cX12_isMinimalCover 11 = .ok (.istore_n 2, 1) := by decide +kernel
theorem dX12_isMinimalCover_12 : decode cX12_isMinimalCover 12 = .ok (.iload_n 2, 1) := by decide +kernel
theorem dX12_isMinimalCover_13 : decode cX12_isMinimalCover 13 = .ok (.aload_n 0, 1) := by decide +kernel
theorem dX12_isMinimalCover_14 : decode cX12_isMinimalCover 14 = .ok (.getfield 9, 3) := by decide +kernel
theorem dX12_isMinimalCover_17 : decode cX12_isMinimalCover 17 = .ok (.if_icmp .ge 34, 3) := by decide +kernel
theorem dX12_isMinimalCover_20 : decode cX12_isMinimalCover 20 = .ok (.iload_n 1, 1) := by decide +kernel
theorem dX12_isMinimalCover_21 : decode cX12_isMinimalCover 21 = .ok (.iload_n 2, 1) := by decide +kernel
theorem dX12_isMinimalCover_22 : decode cX12_isMinimalCover 22 = .ok (.ishr, 1) := by decide +kernel
theorem dX12_isMinimalCover_23 : decode cX12_isMinimalCover 23 = .ok (.iconst 1, 1) := by decide +kernel
theorem dX12_isMinimalCover_24 : decode cX12_isMinimalCover 24 = .ok (.iand, 1) := by decide +kernel
theorem dX12_isMinimalCover_25 : decode cX12_isMinimalCover 25 = .ok (.iconst 1, 1) := by decide +kernel
theorem dX12_isMinimalCover_26 : decode cX12_isMinimalCover 26 = .ok (.if_icmp .ne 19, 3) := by decide +kernel
theorem dX12_isMinimalCover_29 : decode cX12_isMinimalCover 29 = .ok (.aload_n 0, 1) := by decide +kernel
theorem dX12_isMinimalCover_30 : decode cX12_isMinimalCover 30 = .ok (.iload_n 1, 1) := by decide +kernel
theorem dX12_isMinimalCover_31 : decode cX12_isMinimalCover 31 = .ok (.iconst 1, 1) := by decide +kernel
theorem dX12_isMinimalCover_32 : decode cX12_isMinimalCover 32 = .ok (.iload_n 2, 1) := by decide +kernel
theorem dX12_isMinimalCover_33 : decode cX12_isMinimalCover 33 = .ok (.ishl, 1) := by decide +kernel
theorem dX12_isMinimalCover_34 : decode cX12_isMinimalCover 34 = .ok (.iconst (-1), 1) := by decide +kernel
theorem dX12_isMinimalCover_35 : decode cX12_isMinimalCover 35 = .ok (.ixor, 1) := by decide +kernel
theorem dX12_isMinimalCover_36 : decode cX12_isMinimalCover 36 = .ok (.iand, 1) := by decide +kernel
theorem dX12_isMinimalCover_37 : decode cX12_isMinimalCover 37 = .ok (.invokevirtual 122, 3) := by decide +kernel
theorem dX12_isMinimalCover_40 : decode cX12_isMinimalCover 40 = .ok (.ifCond .eq 5, 3) := by decide +kernel
theorem dX12_isMinimalCover_43 : decode cX12_isMinimalCover 43 = .ok (.iconst 0, 1) := by decide +kernel
theorem dX12_isMinimalCover_44 : decode cX12_isMinimalCover 44 = .ok (.ireturn, 1) := by decide +kernel
theorem dX12_isMinimalCover_45 : decode cX12_isMinimalCover 45 = .ok (.iinc 2 1, 3) := by decide +kernel
theorem dX12_isMinimalCover_48 : decode cX12_isMinimalCover 48 = .ok (.goto (-36), 3) := by decide +kernel
theorem dX12_isMinimalCover_51 : decode cX12_isMinimalCover 51 = .ok (.iconst 1, 1) := by decide +kernel
theorem dX12_isMinimalCover_52 : decode cX12_isMinimalCover 52 = .ok (.ireturn, 1) := by decide +kernel
theorem dX12_codeCount_0 : decode cX12_codeCount 0 = .ok (.iconst 1, 1) := by decide +kernel
theorem dX12_codeCount_1 : decode cX12_codeCount 1 = .ok (.iconst 2, 1) := by decide +kernel
theorem dX12_codeCount_2 : decode cX12_codeCount 2 = .ok (.aload_n 0, 1) := by decide +kernel
theorem dX12_codeCount_3 : decode cX12_codeCount 3 = .ok (.getfield 9, 3) := by decide +kernel
theorem dX12_codeCount_6 : decode cX12_codeCount 6 = .ok (.imul, 1) := by decide +kernel
theorem dX12_codeCount_7 : decode cX12_codeCount 7 = .ok (.ishl, 1) := by decide +kernel
theorem dX12_codeCount_8 : decode cX12_codeCount 8 = .ok (.ireturn, 1) := by decide +kernel
theorem dX12_isCode_0 : decode cX12_isCode 0 = .ok (.iload_n 1, 1) := by decide +kernel
theorem dX12_isCode_1 : decode cX12_isCode 1 = .ok (.i2l, 1) := by decide +kernel
theorem dX12_isCode_2 : decode cX12_isCode 2 = .ok (.lconst 0, 1) := by decide +kernel
theorem dX12_isCode_3 : decode cX12_isCode 3 = .ok (.aload_n 0, 1) := by decide +kernel
theorem dX12_isCode_4 : decode cX12_isCode 4 = .ok (.invokevirtual 125, 3) := by decide +kernel
theorem dX12_isCode_7 : decode cX12_isCode 7 = .ok (.iconst 1, 1) := by decide +kernel
theorem dX12_isCode_8 : decode cX12_isCode 8 = .ok (.isub, 1) := by decide +kernel
theorem dX12_isCode_9 : decode cX12_isCode 9 = .ok (.i2l, 1) := by decide +kernel
theorem dX12_isCode_10 : decode cX12_isCode 10 = .ok (.invokestatic 79, 3) := by decide +kernel
theorem dX12_isCode_13 : decode cX12_isCode 13 = .ok (.ireturn, 1) := by decide +kernel
theorem dX12_exponentOf_0 : decode cX12_exponentOf 0 = .ok (.iload_n 0, 1) := by decide +kernel
theorem dX12_exponentOf_1 : decode cX12_exponentOf 1 = .ok (.iconst 2, 1) := by decide +kernel
theorem dX12_exponentOf_2 : decode cX12_exponentOf 2 = .ok (.iload_n 1, 1) := by decide +kernel
theorem dX12_exponentOf_3 : decode cX12_exponentOf 3 = .ok (.imul, 1) := by decide +kernel
theorem dX12_exponentOf_4 : decode cX12_exponentOf 4 = .ok (.ishr, 1) := by decide +kernel
theorem dX12_exponentOf_5 : decode cX12_exponentOf 5 = .ok (.iconst 3, 1) := by decide +kernel
theorem dX12_exponentOf_6 : decode cX12_exponentOf 6 = .ok (.iand, 1) := by decide +kernel
theorem dX12_exponentOf_7 : decode cX12_exponentOf 7 = .ok (.ireturn, 1) := by decide +kernel
theorem dX12_findPowerOrder_0 : decode cX12_findPowerOrder 0 = .ok (.iconst 0, 1) := by decide +kernel
theorem dX12_findPowerOrder_1 : decode cX12_findPowerOrder 1 = .ok (.istore_n 2, 1) := by decide +kernel
theorem dX12_findPowerOrder_2 : decode cX12_findPowerOrder 2 = .ok (.iconst 0, 1) := by decide +kernel
theorem dX12_findPowerOrder_3 : decode cX12_findPowerOrder 3 = .ok (.istore_n 3, 1) := by decide +kernel
theorem dX12_findPowerOrder_4 : decode cX12_findPowerOrder 4 = .ok (.iload_n 3, 1) := by decide +kernel
theorem dX12_findPowerOrder_5 : decode cX12_findPowerOrder 5 = .ok (.aload_n 0, 1) := by decide +kernel
theorem dX12_findPowerOrder_6 : decode cX12_findPowerOrder 6 = .ok (.getfield 9, 3) := by decide +kernel
theorem dX12_findPowerOrder_9 : decode cX12_findPowerOrder 9 = .ok (.if_icmp .ge 92, 3) := by decide +kernel
theorem dX12_findPowerOrder_12 : decode cX12_findPowerOrder 12 = .ok (.iload_n 3, 1) := by decide +kernel
theorem dX12_findPowerOrder_13 : decode cX12_findPowerOrder 13 = .ok (.iconst 1, 1) := by decide +kernel
theorem dX12_findPowerOrder_14 : decode cX12_findPowerOrder 14 = .ok (.iadd, 1) := by decide +kernel
theorem dX12_findPowerOrder_15 : decode cX12_findPowerOrder 15 = .ok (.istore 4, 2) := by decide +kernel
theorem dX12_findPowerOrder_17 : decode cX12_findPowerOrder 17 = .ok (.iload 4, 2) := by decide +kernel
theorem dX12_findPowerOrder_19 : decode cX12_findPowerOrder 19 = .ok (.aload_n 0, 1) := by decide +kernel
theorem dX12_findPowerOrder_20 : decode cX12_findPowerOrder 20 = .ok (.getfield 9, 3) := by decide +kernel
theorem dX12_findPowerOrder_23 : decode cX12_findPowerOrder 23 = .ok (.if_icmp .ge 72, 3) := by decide +kernel
theorem dX12_findPowerOrder_26 : decode cX12_findPowerOrder 26 = .ok (.aload_n 0, 1) := by decide +kernel
theorem dX12_findPowerOrder_27 : decode cX12_findPowerOrder 27 = .ok (.iload_n 3, 1) := by decide +kernel
theorem dX12_findPowerOrder_28 : decode cX12_findPowerOrder 28 = .ok (.iload 4, 2) := by decide +kernel
theorem dX12_findPowerOrder_30 : decode cX12_findPowerOrder 30 = .ok (.invokevirtual 95, 3) := by decide +kernel
theorem dX12_findPowerOrder_33 : decode cX12_findPowerOrder 33 = .ok (.ifCond .eq 56, 3) := by decide +kernel
theorem dX12_findPowerOrder_36 : decode cX12_findPowerOrder 36 = .ok (.iload_n 1, 1) := by decide +kernel
theorem dX12_findPowerOrder_37 : decode cX12_findPowerOrder 37 = .ok (.iload_n 3, 1) := by decide +kernel
theorem dX12_findPowerOrder_38 : decode cX12_findPowerOrder 38 = .ok (.invokestatic 128, 3) := by decide +kernel
theorem dX12_findPowerOrder_41 : decode cX12_findPowerOrder 41 = .ok (.ifCond .le 48, 3) := by decide +kernel
theorem dX12_findPowerOrder_44 : decode cX12_findPowerOrder 44 = .ok (.iload_n 1, 1) := by decide +kernel
theorem dX12_findPowerOrder_45 : decode cX12_findPowerOrder 45 = .ok (.iload 4, 2) := by decide +kernel
theorem dX12_findPowerOrder_47 : decode cX12_findPowerOrder 47 = .ok (.invokestatic 128, 3) := by decide +kernel
theorem dX12_findPowerOrder_50 : decode cX12_findPowerOrder 50 = .ok (.ifCond .le 39, 3) := by decide +kernel
theorem dX12_findPowerOrder_53 : decode cX12_findPowerOrder 53 = .ok (.iconst 1, 1) := by decide +kernel
theorem dX12_findPowerOrder_54 : decode cX12_findPowerOrder 54 = .ok (.aload_n 0, 1) := by decide +kernel
theorem dX12_findPowerOrder_55 : decode cX12_findPowerOrder 55 = .ok (.getfield 32, 3) := by decide +kernel
theorem dX12_findPowerOrder_58 : decode cX12_findPowerOrder 58 = .ok (.iload_n 1, 1) := by decide +kernel
theorem dX12_findPowerOrder_59 : decode cX12_findPowerOrder 59 = .ok (.iconst 1, 1) := by decide +kernel
theorem dX12_findPowerOrder_60 : decode cX12_findPowerOrder 60 = .ok (.iconst 2, 1) := by decide +kernel
theorem dX12_findPowerOrder_61 : decode cX12_findPowerOrder 61 = .ok (.iload_n 3, 1) := by decide +kernel
theorem dX12_findPowerOrder_62 : decode cX12_findPowerOrder 62 = .ok (.imul, 1) := by decide +kernel
theorem dX12_findPowerOrder_63 : decode cX12_findPowerOrder 63 = .ok (.ishl, 1) := by decide +kernel
theorem dX12_findPowerOrder_64 : decode cX12_findPowerOrder 64 = .ok (.isub, 1) := by decide +kernel
theorem dX12_findPowerOrder_65 : decode cX12_findPowerOrder 65 = .ok (.iconst 1, 1) := by decide +kernel
theorem dX12_findPowerOrder_66 : decode cX12_findPowerOrder 66 = .ok (.iconst 2, 1) := by decide +kernel
theorem dX12_findPowerOrder_67 : decode cX12_findPowerOrder 67 = .ok (.iload 4, 2) := by decide +kernel
theorem dX12_findPowerOrder_69 : decode cX12_findPowerOrder 69 = .ok (.imul, 1) := by decide +kernel
theorem dX12_findPowerOrder_70 : decode cX12_findPowerOrder 70 = .ok (.ishl, 1) := by decide +kernel
theorem dX12_findPowerOrder_71 : decode cX12_findPowerOrder 71 = .ok (.isub, 1) := by decide +kernel
theorem dX12_findPowerOrder_72 : decode cX12_findPowerOrder 72 = .ok (.iaload, 1) := by decide +kernel
theorem dX12_findPowerOrder_73 : decode cX12_findPowerOrder 73 = .ok (.iadd, 1) := by decide +kernel
theorem dX12_findPowerOrder_74 : decode cX12_findPowerOrder 74 = .ok (.istore 5, 2) := by decide +kernel
theorem dX12_findPowerOrder_76 : decode cX12_findPowerOrder 76 = .ok (.iload 5, 2) := by decide +kernel
theorem dX12_findPowerOrder_78 : decode cX12_findPowerOrder 78 = .ok (.iload_n 2, 1) := by decide +kernel
theorem dX12_findPowerOrder_79 : decode cX12_findPowerOrder 79 = .ok (.if_icmp .le 8, 3) := by decide +kernel
theorem dX12_findPowerOrder_82 : decode cX12_findPowerOrder 82 = .ok (.iload 5, 2) := by decide +kernel
theorem dX12_findPowerOrder_84 : decode cX12_findPowerOrder 84 = .ok (.goto 4, 3) := by decide +kernel
theorem dX12_findPowerOrder_87 : decode cX12_findPowerOrder 87 = .ok (.iload_n 2, 1) := by decide +kernel
theorem dX12_findPowerOrder_88 : decode cX12_findPowerOrder 88 = .ok (.istore_n 2, 1) := by decide +kernel
theorem dX12_findPowerOrder_89 : decode cX12_findPowerOrder 89 = .ok (.iinc 4 1, 3) := by decide +kernel
theorem dX12_findPowerOrder_92 : decode cX12_findPowerOrder 92 = .ok (.goto (-75), 3) := by decide +kernel
theorem dX12_findPowerOrder_95 : decode cX12_findPowerOrder 95 = .ok (.iinc 3 1, 3) := by decide +kernel
theorem dX12_findPowerOrder_98 : decode cX12_findPowerOrder 98 = .ok (.goto (-94), 3) := by decide +kernel
theorem dX12_findPowerOrder_101 : decode cX12_findPowerOrder 101 = .ok (.iload_n 2, 1) := by decide +kernel
theorem dX12_findPowerOrder_102 : decode cX12_findPowerOrder 102 = .ok (.ireturn, 1) := by decide +kernel
theorem dX12_findSymbolicOrder_0 : decode cX12_findSymbolicOrder 0 = .ok (.iconst (-1), 1) := by decide +kernel
theorem dX12_findSymbolicOrder_1 : decode cX12_findSymbolicOrder 1 = .ok (.istore_n 2, 1) := by decide +kernel
theorem dX12_findSymbolicOrder_2 : decode cX12_findSymbolicOrder 2 = .ok (.iconst 0, 1) := by decide +kernel
theorem dX12_findSymbolicOrder_3 : decode cX12_findSymbolicOrder 3 = .ok (.istore_n 3, 1) := by decide +kernel
theorem dX12_findSymbolicOrder_4 : decode cX12_findSymbolicOrder 4 = .ok (.iload_n 3, 1) := by decide +kernel
theorem dX12_findSymbolicOrder_5 : decode cX12_findSymbolicOrder 5 = .ok (.aload_n 0, 1) := by decide +kernel
theorem dX12_findSymbolicOrder_6 : decode cX12_findSymbolicOrder 6 = .ok (.getfield 132, 3) := by decide +kernel
theorem dX12_findSymbolicOrder_9 : decode cX12_findSymbolicOrder 9 = .ok (.if_icmp .ge 70, 3) := by decide +kernel
theorem dX12_findSymbolicOrder_12 : decode cX12_findSymbolicOrder 12 = .ok (.iconst 0, 1) := by decide +kernel
theorem dX12_findSymbolicOrder_13 : decode cX12_findSymbolicOrder 13 = .ok (.istore 4, 2) := by decide +kernel
theorem dX12_findSymbolicOrder_15 : decode cX12_findSymbolicOrder 15 = .ok (.iconst 0, 1) := by decide +kernel
theorem dX12_findSymbolicOrder_16 : decode cX12_findSymbolicOrder 16 = .ok (.istore 5, 2) := by decide +kernel
theorem dX12_findSymbolicOrder_18 : decode cX12_findSymbolicOrder 18 = .ok (.iload 5, 2) := by decide +kernel
theorem dX12_findSymbolicOrder_20 : decode cX12_findSymbolicOrder 20 = .ok (.aload_n 0, 1) := by decide +kernel
theorem dX12_findSymbolicOrder_21 : decode cX12_findSymbolicOrder 21 = .ok (.getfield 9, 3) := by decide +kernel
theorem dX12_findSymbolicOrder_24 : decode cX12_findSymbolicOrder 24 = .ok (.if_icmp .ge 32, 3) := by decide +kernel
theorem dX12_findSymbolicOrder_27 : decode cX12_findSymbolicOrder 27 = .ok (.iload 4, 2) := by decide +kernel
theorem dX12_findSymbolicOrder_29 : decode cX12_findSymbolicOrder 29 = .ok (.aload_n 0, 1) := by decide +kernel
theorem dX12_findSymbolicOrder_30 : decode cX12_findSymbolicOrder 30 = .ok (.getfield 29, 3) := by decide +kernel
theorem dX12_findSymbolicOrder_33 : decode cX12_findSymbolicOrder 33 = .ok (.iload_n 3, 1) := by decide +kernel
theorem dX12_findSymbolicOrder_34 : decode cX12_findSymbolicOrder 34 = .ok (.iaload, 1) := by decide +kernel
theorem dX12_findSymbolicOrder_35 : decode cX12_findSymbolicOrder 35 = .ok (.iload 5, 2) := by decide +kernel
theorem dX12_findSymbolicOrder_37 : decode cX12_findSymbolicOrder 37 = .ok (.ishr, 1) := by decide +kernel
theorem dX12_findSymbolicOrder_38 : decode cX12_findSymbolicOrder 38 = .ok (.iconst 1, 1) := by decide +kernel
theorem dX12_findSymbolicOrder_39 : decode cX12_findSymbolicOrder 39 = .ok (.iand, 1) := by decide +kernel
theorem dX12_findSymbolicOrder_40 : decode cX12_findSymbolicOrder 40 = .ok (.iload_n 1, 1) := by decide +kernel
theorem dX12_findSymbolicOrder_41 : decode cX12_findSymbolicOrder 41 = .ok (.iload 5, 2) := by decide +kernel
theorem dX12_findSymbolicOrder_43 : decode cX12_findSymbolicOrder 43 = .ok (.invokestatic 128, 3) := by decide +kernel
theorem dX12_findSymbolicOrder_46 : decode cX12_findSymbolicOrder 46 = .ok (.imul, 1) := by decide +kernel
theorem dX12_findSymbolicOrder_47 : decode cX12_findSymbolicOrder 47 = .ok (.iadd, 1) := by decide +kernel
theorem dX12_findSymbolicOrder_48 : decode cX12_findSymbolicOrder 48 = .ok (.istore 4, 2) := by decide +kernel
theorem dX12_findSymbolicOrder_50 : decode cX12_findSymbolicOrder 50 = .ok (.iinc 5 1, 3) := by decide +kernel
theorem dX12_findSymbolicOrder_53 : decode cX12_findSymbolicOrder 53 = .ok (.goto (-35), 3) := by decide +kernel
theorem dX12_findSymbolicOrder_56 : decode cX12_findSymbolicOrder 56 = .ok (.iload_n 2, 1) := by decide +kernel
theorem dX12_findSymbolicOrder_57 : decode cX12_findSymbolicOrder 57 = .ok (.ifCond .lt 9, 3) := by decide +kernel
theorem dX12_findSymbolicOrder_60 : decode cX12_findSymbolicOrder 60 = .ok (.iload 4, 2) := by decide +kernel
theorem dX12_findSymbolicOrder_62 : decode cX12_findSymbolicOrder 62 = .ok (.iload_n 2, 1) := by decide +kernel
theorem dX12_findSymbolicOrder_63 : decode cX12_findSymbolicOrder 63 = .ok (.if_icmp .ge 8, 3) := by decide +kernel
theorem dX12_findSymbolicOrder_66 : decode cX12_findSymbolicOrder 66 = .ok (.iload 4, 2) := by decide +kernel
theorem dX12_findSymbolicOrder_68 : decode cX12_findSymbolicOrder 68 = .ok (.goto 4, 3) := by decide +kernel
theorem dX12_findSymbolicOrder_71 : decode cX12_findSymbolicOrder 71 = .ok (.iload_n 2, 1) := by decide +kernel
theorem dX12_findSymbolicOrder_72 : decode cX12_findSymbolicOrder 72 = .ok (.istore_n 2, 1) := by decide +kernel
theorem dX12_findSymbolicOrder_73 : decode cX12_findSymbolicOrder 73 = .ok (.iinc 3 1, 3) := by decide +kernel
theorem dX12_findSymbolicOrder_76 : decode cX12_findSymbolicOrder 76 = .ok (.goto (-72), 3) := by decide +kernel
theorem dX12_findSymbolicOrder_79 : decode cX12_findSymbolicOrder 79 = .ok (.iload_n 2, 1) := by decide +kernel
theorem dX12_findSymbolicOrder_80 : decode cX12_findSymbolicOrder 80 = .ok (.ireturn, 1) := by decide +kernel
theorem dX12_update_0 : decode cX12_update 0 = .ok (.aload_n 0, 1) := by decide +kernel
theorem dX12_update_1 : decode cX12_update 1 = .ok (.getfield 25, 3) := by decide +kernel
theorem dX12_update_4 : decode cX12_update 4 = .ok (.ifCond .ne 4, 3) := by decide +kernel
theorem dX12_update_7 : decode cX12_update 7 = .ok (.return_, 1) := by decide +kernel
theorem dX12_update_8 : decode cX12_update 8 = .ok (.aload_n 0, 1) := by decide +kernel
theorem dX12_update_9 : decode cX12_update 9 = .ok (.iconst 0, 1) := by decide +kernel
theorem dX12_update_10 : decode cX12_update 10 = .ok (.putfield 25, 3) := by decide +kernel
theorem dX12_update_13 : decode cX12_update 13 = .ok (.aload_n 0, 1) := by decide +kernel
theorem dX12_update_14 : decode cX12_update 14 = .ok (.iconst 0, 1) := by decide +kernel
theorem dX12_update_15 : decode cX12_update 15 = .ok (.putfield 132, 3) := by decide +kernel
theorem dX12_update_18 : decode cX12_update 18 = .ok (.iconst 0, 1) := by decide +kernel
theorem dX12_update_19 : decode cX12_update 19 = .ok (.istore_n 1, 1) := by decide +kernel
theorem dX12_update_20 : decode cX12_update 20 = .ok (.iload_n 1, 1) := by decide +kernel
theorem dX12_update_21 : decode cX12_update 21 = .ok (.aload_n 0, 1) := by decide +kernel
theorem dX12_update_22 : decode cX12_update 22 = .ok (.invokevirtual 116, 3) := by decide +kernel
theorem dX12_update_25 : decode cX12_update 25 = .ok (.if_icmp .gt 37, 3) := by decide +kernel
theorem dX12_update_28 : decode cX12_update 28 = .ok (.aload_n 0, 1) := by decide +kernel
theorem dX12_update_29 : decode cX12_update 29 = .ok (.iload_n 1, 1) := by decide +kernel
theorem dX12_update_30 : decode cX12_update 30 = .ok (.invokevirtual 135, 3) := by decide +kernel
theorem dX12_update_33 : decode cX12_update 33 = .ok (.ifCond .eq 23, 3) := by decide +kernel
theorem dX12_update_36 : decode cX12_update 36 = .ok (.aload_n 0, 1) := by decide +kernel
theorem dX12_update_37 : decode cX12_update 37 = .ok (.getfield 29, 3) := by decide +kernel
theorem dX12_update_40 : decode cX12_update 40 = .ok (.aload_n 0, 1) := by decide +kernel
theorem dX12_update_41 : decode cX12_update 41 = .ok (.getfield 132, 3) := by decide +kernel
theorem dX12_update_44 : decode cX12_update 44 = .ok (.iload_n 1, 1) := by decide +kernel
theorem dX12_update_45 : decode cX12_update 45 = .ok (.iastore, 1) := by decide +kernel
theorem dX12_update_46 : decode cX12_update 46 = .ok (.aload_n 0, 1) := by decide +kernel
theorem dX12_update_47 : decode cX12_update 47 = .ok (.dup, 1) := by decide +kernel
theorem dX12_update_48 : decode cX12_update 48 = .ok (.getfield 132, 3) := by decide +kernel
theorem dX12_update_51 : decode cX12_update 51 = .ok (.iconst 1, 1) := by decide +kernel
theorem dX12_update_52 : decode cX12_update 52 = .ok (.iadd, 1) := by decide +kernel
theorem dX12_update_53 : decode cX12_update 53 = .ok (.putfield 132, 3) := by decide +kernel
theorem dX12_update_56 : decode cX12_update 56 = .ok (.iinc 1 1, 3) := by decide +kernel
theorem dX12_update_59 : decode cX12_update 59 = .ok (.goto (-39), 3) := by decide +kernel
theorem dX12_update_62 : decode cX12_update 62 = .ok (.iconst 0, 1) := by decide +kernel
theorem dX12_update_63 : decode cX12_update 63 = .ok (.istore_n 1, 1) := by decide +kernel
theorem dX12_update_64 : decode cX12_update 64 = .ok (.iload_n 1, 1) := by decide +kernel
theorem dX12_update_65 : decode cX12_update 65 = .ok (.aload_n 0, 1) := by decide +kernel
theorem dX12_update_66 : decode cX12_update 66 = .ok (.invokevirtual 125, 3) := by decide +kernel
theorem dX12_update_69 : decode cX12_update 69 = .ok (.if_icmp .ge 31, 3) := by decide +kernel
theorem dX12_update_72 : decode cX12_update 72 = .ok (.aload_n 0, 1) := by decide +kernel
theorem dX12_update_73 : decode cX12_update 73 = .ok (.getfield 32, 3) := by decide +kernel
theorem dX12_update_76 : decode cX12_update 76 = .ok (.iload_n 1, 1) := by decide +kernel
theorem dX12_update_77 : decode cX12_update 77 = .ok (.aload_n 0, 1) := by decide +kernel
theorem dX12_update_78 : decode cX12_update 78 = .ok (.iload_n 1, 1) := by decide +kernel
theorem dX12_update_79 : decode cX12_update 79 = .ok (.invokevirtual 138, 3) := by decide +kernel
theorem dX12_update_82 : decode cX12_update 82 = .ok (.iastore, 1) := by decide +kernel
theorem dX12_update_83 : decode cX12_update 83 = .ok (.aload_n 0, 1) := by decide +kernel
theorem dX12_update_84 : decode cX12_update 84 = .ok (.getfield 35, 3) := by decide +kernel
theorem dX12_update_87 : decode cX12_update 87 = .ok (.iload_n 1, 1) := by decide +kernel
theorem dX12_update_88 : decode cX12_update 88 = .ok (.aload_n 0, 1) := by decide +kernel
theorem dX12_update_89 : decode cX12_update 89 = .ok (.iload_n 1, 1) := by decide +kernel
theorem dX12_update_90 : decode cX12_update 90 = .ok (.invokevirtual 141, 3) := by decide +kernel
theorem dX12_update_93 : decode cX12_update 93 = .ok (.iastore, 1) := by decide +kernel
theorem dX12_update_94 : decode cX12_update 94 = .ok (.iinc 1 1, 3) := by decide +kernel
theorem dX12_update_97 : decode cX12_update 97 = .ok (.goto (-33), 3) := by decide +kernel
theorem dX12_update_100 : decode cX12_update 100 = .ok (.return_, 1) := by decide +kernel
theorem dX12_coverCount_0 : decode cX12_coverCount 0 = .ok (.aload_n 0, 1) := by decide +kernel
theorem dX12_coverCount_1 : decode cX12_coverCount 1 = .ok (.invokevirtual 144, 3) := by decide +kernel
theorem dX12_coverCount_4 : decode cX12_coverCount 4 = .ok (.aload_n 0, 1) := by decide +kernel
theorem dX12_coverCount_5 : decode cX12_coverCount 5 = .ok (.getfield 132, 3) := by decide +kernel
theorem dX12_coverCount_8 : decode cX12_coverCount 8 = .ok (.ireturn, 1) := by decide +kernel
theorem dX12_cover_0 : decode cX12_cover 0 = .ok (.aload_n 0, 1) := by decide +kernel
theorem dX12_cover_1 : decode cX12_cover 1 = .ok (.invokevirtual 144, 3) := by decide +kernel
theorem dX12_cover_4 : decode cX12_cover 4 = .ok (.iload_n 1, 1) := by decide +kernel
theorem dX12_cover_5 : decode cX12_cover 5 = .ok (.ifCond .ge 7, 3) := by decide +kernel
theorem dX12_cover_8 : decode cX12_cover 8 = .ok (.iconst (-1), 1) := by decide +kernel
theorem dX12_cover_9 : decode cX12_cover 9 = .ok (.goto 22, 3) := by decide +kernel
theorem dX12_cover_12 : decode cX12_cover 12 = .ok (.iload_n 1, 1) := by decide +kernel
theorem dX12_cover_13 : decode cX12_cover 13 = .ok (.aload_n 0, 1) := by decide +kernel
theorem dX12_cover_14 : decode cX12_cover 14 = .ok (.getfield 132, 3) := by decide +kernel
theorem dX12_cover_17 : decode cX12_cover 17 = .ok (.if_icmp .ge 12, 3) := by decide +kernel
theorem dX12_cover_20 : decode cX12_cover 20 = .ok (.aload_n 0, 1) := by decide +kernel
theorem dX12_cover_21 : decode cX12_cover 21 = .ok (.getfield 29, 3) := by decide +kernel
theorem dX12_cover_24 : decode cX12_cover 24 = .ok (.iload_n 1, 1) := by decide +kernel
theorem dX12_cover_25 : decode cX12_cover 25 = .ok (.iaload, 1) := by decide +kernel
theorem dX12_cover_26 : decode cX12_cover 26 = .ok (.goto 5, 3) := by decide +kernel
theorem dX12_cover_29 : decode cX12_cover 29 = .ok (.bipush (-2), 2) := by decide +kernel
theorem dX12_cover_31 : decode cX12_cover 31 = .ok (.ireturn, 1) := by decide +kernel
theorem dX12_height_0 : decode cX12_height 0 = .ok (.aload_n 0, 1) := by decide +kernel
theorem dX12_height_1 : decode cX12_height 1 = .ok (.invokevirtual 144, 3) := by decide +kernel
theorem dX12_height_4 : decode cX12_height 4 = .ok (.bipush 7, 2) := by decide +kernel
theorem dX12_height_6 : decode cX12_height 6 = .ok (.istore_n 1, 1) := by decide +kernel
theorem dX12_height_7 : decode cX12_height 7 = .ok (.iconst 0, 1) := by decide +kernel
theorem dX12_height_8 : decode cX12_height 8 = .ok (.istore_n 2, 1) := by decide +kernel
theorem dX12_height_9 : decode cX12_height 9 = .ok (.iload_n 2, 1) := by decide +kernel
theorem dX12_height_10 : decode cX12_height 10 = .ok (.aload_n 0, 1) := by decide +kernel
theorem dX12_height_11 : decode cX12_height 11 = .ok (.getfield 132, 3) := by decide +kernel
theorem dX12_height_14 : decode cX12_height 14 = .ok (.if_icmp .ge 30, 3) := by decide +kernel
theorem dX12_height_17 : decode cX12_height 17 = .ok (.aload_n 0, 1) := by decide +kernel
theorem dX12_height_18 : decode cX12_height 18 = .ok (.getfield 29, 3) := by decide +kernel
theorem dX12_height_21 : decode cX12_height 21 = .ok (.iload_n 2, 1) := by decide +kernel
theorem dX12_height_22 : decode cX12_height 22 = .ok (.iaload, 1) := by decide +kernel
theorem dX12_height_23 : decode cX12_height 23 = .ok (.invokestatic 109, 3) := by decide +kernel
theorem dX12_height_26 : decode cX12_height 26 = .ok (.istore_n 3, 1) := by decide +kernel
theorem dX12_height_27 : decode cX12_height 27 = .ok (.iload_n 3, 1) := by decide +kernel
theorem dX12_height_28 : decode cX12_height 28 = .ok (.iload_n 1, 1) := by decide +kernel
theorem dX12_height_29 : decode cX12_height 29 = .ok (.if_icmp .ge 7, 3) := by decide +kernel
theorem dX12_height_32 : decode cX12_height 32 = .ok (.iload_n 3, 1) := by decide +kernel
theorem dX12_height_33 : decode cX12_height 33 = .ok (.goto 4, 3) := by decide +kernel
theorem dX12_height_36 : decode cX12_height 36 = .ok (.iload_n 1, 1) := by decide +kernel
theorem dX12_height_37 : decode cX12_height 37 = .ok (.istore_n 1, 1) := by decide +kernel
theorem dX12_height_38 : decode cX12_height 38 = .ok (.iinc 2 1, 3) := by decide +kernel
theorem dX12_height_41 : decode cX12_height 41 = .ok (.goto (-32), 3) := by decide +kernel
theorem dX12_height_44 : decode cX12_height 44 = .ok (.iload_n 1, 1) := by decide +kernel
theorem dX12_height_45 : decode cX12_height 45 = .ok (.ireturn, 1) := by decide +kernel
theorem dX12_bigHeight_0 : decode cX12_bigHeight 0 = .ok (.aload_n 0, 1) := by decide +kernel
theorem dX12_bigHeight_1 : decode cX12_bigHeight 1 = .ok (.invokevirtual 144, 3) := by decide +kernel
theorem dX12_bigHeight_4 : decode cX12_bigHeight 4 = .ok (.iconst 0, 1) := by decide +kernel
theorem dX12_bigHeight_5 : decode cX12_bigHeight 5 = .ok (.istore_n 1, 1) := by decide +kernel
theorem dX12_bigHeight_6 : decode cX12_bigHeight 6 = .ok (.iconst 0, 1) := by decide +kernel
theorem dX12_bigHeight_7 : decode cX12_bigHeight 7 = .ok (.istore_n 2, 1) := by decide +kernel
theorem dX12_bigHeight_8 : decode cX12_bigHeight 8 = .ok (.iload_n 2, 1) := by decide +kernel
theorem dX12_bigHeight_9 : decode cX12_bigHeight 9 = .ok (.aload_n 0, 1) := by decide +kernel
theorem dX12_bigHeight_10 : decode cX12_bigHeight 10 = .ok (.getfield 132, 3) := by decide +kernel
theorem dX12_bigHeight_13 : decode cX12_bigHeight 13 = .ok (.if_icmp .ge 30, 3) := by decide +kernel
theorem dX12_bigHeight_16 : decode cX12_bigHeight 16 = .ok (.aload_n 0, 1) := by decide +kernel
theorem dX12_bigHeight_17 : decode cX12_bigHeight 17 = .ok (.getfield 29, 3) := by decide +kernel
theorem dX12_bigHeight_20 : decode cX12_bigHeight 20 = .ok (.iload_n 2, 1) := by decide +kernel
theorem dX12_bigHeight_21 : decode cX12_bigHeight 21 = .ok (.iaload, 1) := by decide +kernel
theorem dX12_bigHeight_22 : decode cX12_bigHeight 22 = .ok (.invokestatic 109, 3) := by decide +kernel
theorem dX12_bigHeight_25 : decode cX12_bigHeight 25 = .ok (.istore_n 3, 1) := by decide +kernel
theorem dX12_bigHeight_26 : decode cX12_bigHeight 26 = .ok (.iload_n 3, 1) := by decide +kernel
theorem dX12_bigHeight_27 : decode cX12_bigHeight 27 = .ok (.iload_n 1, 1) := by decide +kernel
theorem dX12_bigHeight_28 : decode cX12_bigHeight 28 = .ok (.if_icmp .le 7, 3) := by decide +kernel
theorem dX12_bigHeight_31 : decode cX12_bigHeight 31 = .ok (.iload_n 3, 1) := by decide +kernel
theorem dX12_bigHeight_32 : decode cX12_bigHeight 32 = .ok (.goto 4, 3) := by decide +kernel
theorem dX12_bigHeight_35 : decode cX12_bigHeight 35 = .ok (.iload_n 1, 1) := by decide +kernel
theorem dX12_bigHeight_36 : decode cX12_bigHeight 36 = .ok (.istore_n 1, 1) := by decide +kernel
theorem dX12_bigHeight_37 : decode cX12_bigHeight 37 = .ok (.iinc 2 1, 3) := by decide +kernel
theorem dX12_bigHeight_40 : decode cX12_bigHeight 40 = .ok (.goto (-32), 3) := by decide +kernel
theorem dX12_bigHeight_43 : decode cX12_bigHeight 43 = .ok (.iload_n 1, 1) := by decide +kernel
theorem dX12_bigHeight_44 : decode cX12_bigHeight 44 = .ok (.ireturn, 1) := by decide +kernel
theorem dX12_isAdjacentIn_0 : decode cX12_isAdjacentIn 0 = .ok (.iload_n 2, 1) := by decide +kernel
theorem dX12_isAdjacentIn_1 : decode cX12_isAdjacentIn 1 = .ok (.iload_n 3, 1) := by decide +kernel
theorem dX12_isAdjacentIn_2 : decode cX12_isAdjacentIn 2 = .ok (.if_icmp .eq 26, 3) := by decide +kernel
theorem dX12_isAdjacentIn_5 : decode cX12_isAdjacentIn 5 = .ok (.aload_n 0, 1) := by decide +kernel
theorem dX12_isAdjacentIn_6 : decode cX12_isAdjacentIn 6 = .ok (.iload_n 2, 1) := by decide +kernel
theorem dX12_isAdjacentIn_7 : decode cX12_isAdjacentIn 7 = .ok (.iload_n 3, 1) := by decide +kernel
theorem dX12_isAdjacentIn_8 : decode cX12_isAdjacentIn 8 = .ok (.invokevirtual 95, 3) := by decide +kernel
theorem dX12_isAdjacentIn_11 : decode cX12_isAdjacentIn 11 = .ok (.iload_n 1, 1) := by decide +kernel
theorem dX12_isAdjacentIn_12 : decode cX12_isAdjacentIn 12 = .ok (.iconst 1, 1) := by decide +kernel
theorem dX12_isAdjacentIn_13 : decode cX12_isAdjacentIn 13 = .ok (.if_icmp .ne 7, 3) := by decide +kernel
theorem dX12_isAdjacentIn_16 : decode cX12_isAdjacentIn 16 = .ok (.iconst 1, 1) := by decide +kernel
theorem dX12_isAdjacentIn_17 : decode cX12_isAdjacentIn 17 = .ok (.goto 4, 3) := by decide +kernel
theorem dX12_isAdjacentIn_20 : decode cX12_isAdjacentIn 20 = .ok (.iconst 0, 1) := by decide +kernel
theorem dX12_isAdjacentIn_21 : decode cX12_isAdjacentIn 21 = .ok (.if_icmp .eq 7, 3) := by decide +kernel
theorem dX12_isAdjacentIn_24 : decode cX12_isAdjacentIn 24 = .ok (.iconst 1, 1) := by decide +kernel
theorem dX12_isAdjacentIn_25 : decode cX12_isAdjacentIn 25 = .ok (.goto 4, 3) := by decide +kernel
theorem dX12_isAdjacentIn_28 : decode cX12_isAdjacentIn 28 = .ok (.iconst 0, 1) := by decide +kernel
theorem dX12_isAdjacentIn_29 : decode cX12_isAdjacentIn 29 = .ok (.ireturn, 1) := by decide +kernel
theorem dX12_isSimplicial_0 : decode cX12_isSimplicial 0 = .ok (.iconst 0, 1) := by decide +kernel
theorem dX12_isSimplicial_1 : decode cX12_isSimplicial 1 = .ok (.istore 4, 2) := by decide +kernel
theorem dX12_isSimplicial_3 : decode cX12_isSimplicial 3 = .ok (.iload 4, 2) := by decide +kernel
theorem dX12_isSimplicial_5 : decode cX12_isSimplicial 5 = .ok (.aload_n 0, 1) := by decide +kernel
theorem dX12_isSimplicial_6 : decode cX12_isSimplicial 6 = .ok (.getfield 9, 3) := by decide +kernel
theorem dX12_isSimplicial_9 : decode cX12_isSimplicial 9 = .ok (.if_icmp .ge 93, 3) := by decide +kernel
theorem dX12_isSimplicial_12 : decode cX12_isSimplicial 12 = .ok (.iload 4, 2) := by decide +kernel
theorem dX12_isSimplicial_14 : decode cX12_isSimplicial 14 = .ok (.iconst 1, 1) := by decide +kernel
theorem dX12_isSimplicial_15 : decode cX12_isSimplicial 15 = .ok (.iadd, 1) := by decide +kernel
theorem dX12_isSimplicial_16 : decode cX12_isSimplicial 16 = .ok (.istore 5, 2) := by decide +kernel
theorem dX12_isSimplicial_18 : decode cX12_isSimplicial 18 = .ok (.iload 5, 2) := by decide +kernel
theorem dX12_isSimplicial_20 : decode cX12_isSimplicial 20 = .ok (.aload_n 0, 1) := by decide +kernel
theorem dX12_isSimplicial_21 : decode cX12_isSimplicial 21 = .ok (.getfield 9, 3) := by decide +kernel
theorem dX12_isSimplicial_24 : decode cX12_isSimplicial 24 = .ok (.if_icmp .ge 72, 3) := by decide +kernel
theorem dX12_isSimplicial_27 : decode cX12_isSimplicial 27 = .ok (.iload_n 2, 1) := by decide +kernel
theorem dX12_isSimplicial_28 : decode cX12_isSimplicial 28 = .ok (.iload 4, 2) := by decide +kernel
theorem dX12_isSimplicial_30 : decode cX12_isSimplicial 30 = .ok (.ishr, 1) := by decide +kernel
theorem dX12_isSimplicial_31 : decode cX12_isSimplicial 31 = .ok (.iload_n 2, 1) := by decide +kernel
theorem dX12_isSimplicial_32 : decode cX12_isSimplicial 32 = .ok (.iload 5, 2) := by decide +kernel
theorem dX12_isSimplicial_34 : decode cX12_isSimplicial 34 = .ok (.ishr, 1) := by decide +kernel
theorem dX12_isSimplicial_35 : decode cX12_isSimplicial 35 = .ok (.iand, 1) := by decide +kernel
theorem dX12_isSimplicial_36 : decode cX12_isSimplicial 36 = .ok (.iconst 1, 1) := by decide +kernel
theorem dX12_isSimplicial_37 : decode cX12_isSimplicial 37 = .ok (.iand, 1) := by decide +kernel
theorem dX12_isSimplicial_38 : decode cX12_isSimplicial 38 = .ok (.iconst 1, 1) := by decide +kernel
theorem dX12_isSimplicial_39 : decode cX12_isSimplicial 39 = .ok (.if_icmp .ne 29, 3) := by decide +kernel
theorem dX12_isSimplicial_42 : decode cX12_isSimplicial 42 = .ok (.aload_n 0, 1) := by decide +kernel
theorem dX12_isSimplicial_43 : decode cX12_isSimplicial 43 = .ok (.iload_n 1, 1) := by decide +kernel
theorem dX12_isSimplicial_44 : decode cX12_isSimplicial 44 = .ok (.iload_n 3, 1) := by decide +kernel
theorem dX12_isSimplicial_45 : decode cX12_isSimplicial 45 = .ok (.iload 4, 2) := by decide +kernel
theorem dX12_isSimplicial_47 : decode cX12_isSimplicial 47 = .ok (.invokevirtual 147, 3) := by decide +kernel
theorem dX12_isSimplicial_50 : decode cX12_isSimplicial 50 = .ok (.ifCond .eq 18, 3) := by decide +kernel
theorem dX12_isSimplicial_53 : decode cX12_isSimplicial 53 = .ok (.aload_n 0, 1) := by decide +kernel
theorem dX12_isSimplicial_54 : decode cX12_isSimplicial 54 = .ok (.iload_n 1, 1) := by decide +kernel
theorem dX12_isSimplicial_55 : decode cX12_isSimplicial 55 = .ok (.iload_n 3, 1) := by decide +kernel
theorem dX12_isSimplicial_56 : decode cX12_isSimplicial 56 = .ok (.iload 5, 2) := by decide +kernel
theorem dX12_isSimplicial_58 : decode cX12_isSimplicial 58 = .ok (.invokevirtual 147, 3) := by decide +kernel
theorem dX12_isSimplicial_61 : decode cX12_isSimplicial 61 = .ok (.ifCond .eq 7, 3) := by decide +kernel
theorem dX12_isSimplicial_64 : decode cX12_isSimplicial 64 = .ok (.iconst 1, 1) := by decide +kernel
theorem dX12_isSimplicial_65 : decode cX12_isSimplicial 65 = .ok (.goto 4, 3) := by decide +kernel
theorem dX12_isSimplicial_68 : decode cX12_isSimplicial 68 = .ok (.iconst 0, 1) := by decide +kernel
theorem dX12_isSimplicial_69 : decode cX12_isSimplicial 69 = .ok (.istore 6, 2) := by decide +kernel
theorem dX12_isSimplicial_71 : decode cX12_isSimplicial 71 = .ok (.iload 6, 2) := by decide +kernel
theorem dX12_isSimplicial_73 : decode cX12_isSimplicial 73 = .ok (.ifCond .eq 17, 3) := by decide +kernel
theorem dX12_isSimplicial_76 : decode cX12_isSimplicial 76 = .ok (.aload_n 0, 1) := by decide +kernel
theorem dX12_isSimplicial_77 : decode cX12_isSimplicial 77 = .ok (.iload_n 1, 1) := by decide +kernel
theorem dX12_isSimplicial_78 : decode cX12_isSimplicial 78 = .ok (.iload 4, 2) := by decide +kernel
theorem dX12_isSimplicial_80 : decode cX12_isSimplicial 80 = .ok (.iload 5, 2) := by decide +kernel
theorem dX12_isSimplicial_82 : decode cX12_isSimplicial 82 = .ok (.invokevirtual 147, 3) := by decide +kernel
theorem dX12_isSimplicial_85 : decode cX12_isSimplicial 85 = .ok (.ifCond .ne 5, 3) := by decide +kernel
theorem dX12_isSimplicial_88 : decode cX12_isSimplicial 88 = .ok (.iconst 0, 1) := by decide +kernel
theorem dX12_isSimplicial_89 : decode cX12_isSimplicial 89 = .ok (.ireturn, 1) := by decide +kernel
theorem dX12_isSimplicial_90 : decode cX12_isSimplicial 90 = .ok (.iinc 5 1, 3) := by decide +kernel
theorem dX12_isSimplicial_93 : decode cX12_isSimplicial 93 = .ok (.goto (-75), 3) := by decide +kernel
theorem dX12_isSimplicial_96 : decode cX12_isSimplicial 96 = .ok (.iinc 4 1, 3) := by decide +kernel
theorem dX12_isSimplicial_99 : decode cX12_isSimplicial 99 = .ok (.goto (-96), 3) := by decide +kernel
theorem dX12_isSimplicial_102 : decode cX12_isSimplicial 102 = .ok (.iconst 1, 1) := by decide +kernel
theorem dX12_isSimplicial_103 : decode cX12_isSimplicial 103 = .ok (.ireturn, 1) := by decide +kernel
theorem dX12_eliminate_0 : decode cX12_eliminate 0 = .ok (.aload_n 0, 1) := by decide +kernel
theorem dX12_eliminate_1 : decode cX12_eliminate 1 = .ok (.iconst 0, 1) := by decide +kernel
theorem dX12_eliminate_2 : decode cX12_eliminate 2 = .ok (.putfield 150, 3) := by decide +kernel
theorem dX12_eliminate_5 : decode cX12_eliminate 5 = .ok (.aload_n 0, 1) := by decide +kernel
theorem dX12_eliminate_6 : decode cX12_eliminate 6 = .ok (.invokevirtual 116, 3) := by decide +kernel
theorem dX12_eliminate_9 : decode cX12_eliminate 9 = .ok (.istore_n 2, 1) := by decide +kernel
theorem dX12_eliminate_10 : decode cX12_eliminate 10 = .ok (.iconst 0, 1) := by decide +kernel
theorem dX12_eliminate_11 : decode cX12_eliminate 11 = .ok (.istore_n 3, 1) := by decide +kernel
theorem dX12_eliminate_12 : decode cX12_eliminate 12 = .ok (.iload_n 3, 1) := by decide +kernel
theorem dX12_eliminate_13 : decode cX12_eliminate 13 = .ok (.aload_n 0, 1) := by decide +kernel
theorem dX12_eliminate_14 : decode cX12_eliminate 14 = .ok (.getfield 9, 3) := by decide +kernel
theorem dX12_eliminate_17 : decode cX12_eliminate 17 = .ok (.if_icmp .ge 76, 3) := by decide +kernel
theorem dX12_eliminate_20 : decode cX12_eliminate 20 = .ok (.iconst 0, 1) := by decide +kernel
theorem dX12_eliminate_21 : decode cX12_eliminate 21 = .ok (.istore_n 3, 1) := by decide +kernel
theorem dX12_eliminate_22 : decode cX12_eliminate 22 = .ok (.iload_n 3, 1) := by decide +kernel
theorem dX12_eliminate_23 : decode cX12_eliminate 23 = .ok (.aload_n 0, 1) := by decide +kernel
theorem dX12_eliminate_24 : decode cX12_eliminate 24 = .ok (.getfield 9, 3) := by decide +kernel
theorem dX12_eliminate_27 : decode cX12_eliminate 27 = .ok (.if_icmp .ge 27, 3) := by decide +kernel
theorem dX12_eliminate_30 : decode cX12_eliminate 30 = .ok (.iload_n 2, 1) := by decide +kernel
theorem dX12_eliminate_31 : decode cX12_eliminate 31 = .ok (.iload_n 3, 1) := by decide +kernel
theorem dX12_eliminate_32 : decode cX12_eliminate 32 = .ok (.ishr, 1) := by decide +kernel
theorem dX12_eliminate_33 : decode cX12_eliminate 33 = .ok (.iconst 1, 1) := by decide +kernel
theorem dX12_eliminate_34 : decode cX12_eliminate 34 = .ok (.iand, 1) := by decide +kernel
theorem dX12_eliminate_35 : decode cX12_eliminate 35 = .ok (.ifCond .eq 13, 3) := by decide +kernel
theorem dX12_eliminate_38 : decode cX12_eliminate 38 = .ok (.aload_n 0, 1) := by decide +kernel
theorem dX12_eliminate_39 : decode cX12_eliminate 39 = .ok (.iload_n 1, 1) := by decide +kernel
theorem dX12_eliminate_40 : decode cX12_eliminate 40 = .ok (.iload_n 2, 1) := by decide +kernel
theorem dX12_eliminate_41 : decode cX12_eliminate 41 = .ok (.iload_n 3, 1) := by decide +kernel
theorem dX12_eliminate_42 : decode cX12_eliminate 42 = .ok (.invokevirtual 153, 3) := by decide +kernel
theorem dX12_eliminate_45 : decode cX12_eliminate 45 = .ok (.ifCond .ne 9, 3) := by decide +kernel
theorem dX12_eliminate_48 : decode cX12_eliminate 48 = .ok (.iinc 3 1, 3) := by decide +kernel
theorem dX12_eliminate_51 : decode cX12_eliminate 51 = .ok (.goto (-29), 3) := by decide +kernel
theorem dX12_eliminate_54 : decode cX12_eliminate 54 = .ok (.iload_n 3, 1) := by decide +kernel
theorem dX12_eliminate_55 : decode cX12_eliminate 55 = .ok (.aload_n 0, 1) := by decide +kernel
theorem dX12_eliminate_56 : decode cX12_eliminate 56 = .ok (.getfield 9, 3) := by decide +kernel
theorem dX12_eliminate_59 : decode cX12_eliminate 59 = .ok (.if_icmp .ge (-47), 3) := by decide +kernel
theorem dX12_eliminate_62 : decode cX12_eliminate 62 = .ok (.iload_n 2, 1) := by decide +kernel
theorem dX12_eliminate_63 : decode cX12_eliminate 63 = .ok (.iconst 1, 1) := by decide +kernel
theorem dX12_eliminate_64 : decode cX12_eliminate 64 = .ok (.iload_n 3, 1) := by decide +kernel
theorem dX12_eliminate_65 : decode cX12_eliminate 65 = .ok (.ishl, 1) := by decide +kernel
theorem dX12_eliminate_66 : decode cX12_eliminate 66 = .ok (.iconst (-1), 1) := by decide +kernel
theorem dX12_eliminate_67 : decode cX12_eliminate 67 = .ok (.ixor, 1) := by decide +kernel
theorem dX12_eliminate_68 : decode cX12_eliminate 68 = .ok (.iand, 1) := by decide +kernel
theorem dX12_eliminate_69 : decode cX12_eliminate 69 = .ok (.istore_n 2, 1) := by decide +kernel
theorem dX12_eliminate_70 : decode cX12_eliminate 70 = .ok (.aload_n 0, 1) := by decide +kernel
theorem dX12_eliminate_71 : decode cX12_eliminate 71 = .ok (.getfield 38, 3) := by decide +kernel
theorem dX12_eliminate_74 : decode cX12_eliminate 74 = .ok (.aload_n 0, 1) := by decide +kernel
theorem dX12_eliminate_75 : decode cX12_eliminate 75 = .ok (.getfield 150, 3) := by decide +kernel
theorem dX12_eliminate_78 : decode cX12_eliminate 78 = .ok (.iload_n 3, 1) := by decide +kernel
theorem dX12_eliminate_79 : decode cX12_eliminate 79 = .ok (.iastore, 1) := by decide +kernel
theorem dX12_eliminate_80 : decode cX12_eliminate 80 = .ok (.aload_n 0, 1) := by decide +kernel
theorem dX12_eliminate_81 : decode cX12_eliminate 81 = .ok (.dup, 1) := by decide +kernel
theorem dX12_eliminate_82 : decode cX12_eliminate 82 = .ok (.getfield 150, 3) := by decide +kernel
theorem dX12_eliminate_85 : decode cX12_eliminate 85 = .ok (.iconst 1, 1) := by decide +kernel
theorem dX12_eliminate_86 : decode cX12_eliminate 86 = .ok (.iadd, 1) := by decide +kernel
theorem dX12_eliminate_87 : decode cX12_eliminate 87 = .ok (.putfield 150, 3) := by decide +kernel
theorem dX12_eliminate_90 : decode cX12_eliminate 90 = .ok (.goto (-78), 3) := by decide +kernel
theorem dX12_eliminate_93 : decode cX12_eliminate 93 = .ok (.return_, 1) := by decide +kernel
theorem dX12_eliminationLength_0 : decode cX12_eliminationLength 0 = .ok (.iload_n 1, 1) := by decide +kernel
theorem dX12_eliminationLength_1 : decode cX12_eliminationLength 1 = .ok (.i2l, 1) := by decide +kernel
theorem dX12_eliminationLength_2 : decode cX12_eliminationLength 2 = .ok (.lconst 0, 1) := by decide +kernel
theorem dX12_eliminationLength_3 : decode cX12_eliminationLength 3 = .ok (.lconst 1, 1) := by decide +kernel
theorem dX12_eliminationLength_4 : decode cX12_eliminationLength 4 = .ok (.invokestatic 79, 3) := by decide +kernel
theorem dX12_eliminationLength_7 : decode cX12_eliminationLength 7 = .ok (.ifCond .ne 5, 3) := by decide +kernel
theorem dX12_eliminationLength_10 : decode cX12_eliminationLength 10 = .ok (.iconst (-1), 1) := by decide +kernel
theorem dX12_eliminationLength_11 : decode cX12_eliminationLength 11 = .ok (.ireturn, 1) := by decide +kernel
theorem dX12_eliminationLength_12 : decode cX12_eliminationLength 12 = .ok (.aload_n 0, 1) := by decide +kernel
theorem dX12_eliminationLength_13 : decode cX12_eliminationLength 13 = .ok (.iload_n 1, 1) := by decide +kernel
theorem dX12_eliminationLength_14 : decode cX12_eliminationLength 14 = .ok (.invokevirtual 156, 3) := by decide +kernel
theorem dX12_eliminationLength_17 : decode cX12_eliminationLength 17 = .ok (.aload_n 0, 1) := by decide +kernel
theorem dX12_eliminationLength_18 : decode cX12_eliminationLength 18 = .ok (.getfield 150, 3) := by decide +kernel
theorem dX12_eliminationLength_21 : decode cX12_eliminationLength 21 = .ok (.ireturn, 1) := by decide +kernel
theorem dX12_eliminated_0 : decode cX12_eliminated 0 = .ok (.iload_n 1, 1) := by decide +kernel
theorem dX12_eliminated_1 : decode cX12_eliminated 1 = .ok (.i2l, 1) := by decide +kernel
theorem dX12_eliminated_2 : decode cX12_eliminated 2 = .ok (.lconst 0, 1) := by decide +kernel
theorem dX12_eliminated_3 : decode cX12_eliminated 3 = .ok (.lconst 1, 1) := by decide +kernel
theorem dX12_eliminated_4 : decode cX12_eliminated 4 = .ok (.invokestatic 79, 3) := by decide +kernel
theorem dX12_eliminated_7 : decode cX12_eliminated 7 = .ok (.ifCond .eq 7, 3) := by decide +kernel
theorem dX12_eliminated_10 : decode cX12_eliminated 10 = .ok (.iload_n 2, 1) := by decide +kernel
theorem dX12_eliminated_11 : decode cX12_eliminated 11 = .ok (.ifCond .ge 5, 3) := by decide +kernel
theorem dX12_eliminated_14 : decode cX12_eliminated 14 = .ok (.iconst (-1), 1) := by decide +kernel
theorem dX12_eliminated_15 : decode cX12_eliminated 15 = .ok (.ireturn, 1) := by decide +kernel
theorem dX12_eliminated_16 : decode cX12_eliminated 16 = .ok (.aload_n 0, 1) := by decide +kernel
theorem dX12_eliminated_17 : decode cX12_eliminated 17 = .ok (.iload_n 1, 1) := by decide +kernel
theorem dX12_eliminated_18 : decode cX12_eliminated 18 = .ok (.invokevirtual 156, 3) := by decide +kernel
theorem dX12_eliminated_21 : decode cX12_eliminated 21 = .ok (.iload_n 2, 1) := by decide +kernel
theorem dX12_eliminated_22 : decode cX12_eliminated 22 = .ok (.aload_n 0, 1) := by decide +kernel
theorem dX12_eliminated_23 : decode cX12_eliminated 23 = .ok (.getfield 150, 3) := by decide +kernel
theorem dX12_eliminated_26 : decode cX12_eliminated 26 = .ok (.if_icmp .ge 12, 3) := by decide +kernel
theorem dX12_eliminated_29 : decode cX12_eliminated 29 = .ok (.aload_n 0, 1) := by decide +kernel
theorem dX12_eliminated_30 : decode cX12_eliminated 30 = .ok (.getfield 38, 3) := by decide +kernel
theorem dX12_eliminated_33 : decode cX12_eliminated 33 = .ok (.iload_n 2, 1) := by decide +kernel
theorem dX12_eliminated_34 : decode cX12_eliminated 34 = .ok (.iaload, 1) := by decide +kernel
theorem dX12_eliminated_35 : decode cX12_eliminated 35 = .ok (.goto 5, 3) := by decide +kernel
theorem dX12_eliminated_38 : decode cX12_eliminated 38 = .ok (.bipush (-2), 2) := by decide +kernel
theorem dX12_eliminated_40 : decode cX12_eliminated 40 = .ok (.ireturn, 1) := by decide +kernel
theorem dX12_isChordal_0 : decode cX12_isChordal 0 = .ok (.iload_n 1, 1) := by decide +kernel
theorem dX12_isChordal_1 : decode cX12_isChordal 1 = .ok (.i2l, 1) := by decide +kernel
theorem dX12_isChordal_2 : decode cX12_isChordal 2 = .ok (.lconst 0, 1) := by decide +kernel
theorem dX12_isChordal_3 : decode cX12_isChordal 3 = .ok (.lconst 1, 1) := by decide +kernel
theorem dX12_isChordal_4 : decode cX12_isChordal 4 = .ok (.invokestatic 79, 3) := by decide +kernel
theorem dX12_isChordal_7 : decode cX12_isChordal 7 = .ok (.ifCond .ne 5, 3) := by decide +kernel
theorem dX12_isChordal_10 : decode cX12_isChordal 10 = .ok (.iconst (-1), 1) := by decide +kernel
theorem dX12_isChordal_11 : decode cX12_isChordal 11 = .ok (.ireturn, 1) := by decide +kernel
theorem dX12_isChordal_12 : decode cX12_isChordal 12 = .ok (.aload_n 0, 1) := by decide +kernel
theorem dX12_isChordal_13 : decode cX12_isChordal 13 = .ok (.iload_n 1, 1) := by decide +kernel
theorem dX12_isChordal_14 : decode cX12_isChordal 14 = .ok (.invokevirtual 156, 3) := by decide +kernel
theorem dX12_isChordal_17 : decode cX12_isChordal 17 = .ok (.aload_n 0, 1) := by decide +kernel
theorem dX12_isChordal_18 : decode cX12_isChordal 18 = .ok (.getfield 150, 3) := by decide +kernel
theorem dX12_isChordal_21 : decode cX12_isChordal 21 = .ok (.aload_n 0, 1) := by decide +kernel
theorem dX12_isChordal_22 : decode cX12_isChordal 22 = .ok (.getfield 9, 3) := by decide +kernel
theorem dX12_isChordal_25 : decode cX12_isChordal 25 = .ok (.if_icmp .ne 7, 3) := by decide +kernel
theorem dX12_isChordal_28 : decode cX12_isChordal 28 = .ok (.iconst 1, 1) := by decide +kernel
theorem dX12_isChordal_29 : decode cX12_isChordal 29 = .ok (.goto 4, 3) := by decide +kernel
theorem dX12_isChordal_32 : decode cX12_isChordal 32 = .ok (.iconst 0, 1) := by decide +kernel
theorem dX12_isChordal_33 : decode cX12_isChordal 33 = .ok (.ireturn, 1) := by decide +kernel
theorem dX12_degreeOf_0 : decode cX12_degreeOf 0 = .ok (.iconst 0, 1) := by decide +kernel
theorem dX12_degreeOf_1 : decode cX12_degreeOf 1 = .ok (.istore_n 1, 1) := by decide +kernel
theorem dX12_degreeOf_2 : decode cX12_degreeOf 2 = .ok (.iconst 0, 1) := by decide +kernel
theorem dX12_degreeOf_3 : decode cX12_degreeOf 3 = .ok (.istore_n 2, 1) := by decide +kernel
theorem dX12_degreeOf_4 : decode cX12_degreeOf 4 = .ok (.iload_n 2, 1) := by decide +kernel
theorem dX12_degreeOf_5 : decode cX12_degreeOf 5 = .ok (.bipush 7, 2) := by decide +kernel
theorem dX12_degreeOf_7 : decode cX12_degreeOf 7 = .ok (.if_icmp .ge 17, 3) := by decide +kernel
theorem dX12_degreeOf_10 : decode cX12_degreeOf 10 = .ok (.iload_n 1, 1) := by decide +kernel
theorem dX12_degreeOf_11 : decode cX12_degreeOf 11 = .ok (.iload_n 0, 1) := by decide +kernel
theorem dX12_degreeOf_12 : decode cX12_degreeOf 12 = .ok (.iload_n 2, 1) := by decide +kernel
theorem dX12_degreeOf_13 : decode cX12_degreeOf 13 = .ok (.invokestatic 128, 3) := by decide +kernel
theorem dX12_degreeOf_16 : decode cX12_degreeOf 16 = .ok (.iadd, 1) := by decide +kernel
theorem dX12_degreeOf_17 : decode cX12_degreeOf 17 = .ok (.istore_n 1, 1) := by decide +kernel
theorem dX12_degreeOf_18 : decode cX12_degreeOf 18 = .ok (.iinc 2 1, 3) := by decide +kernel
theorem dX12_degreeOf_21 : decode cX12_degreeOf 21 = .ok (.goto (-17), 3) := by decide +kernel
theorem dX12_degreeOf_24 : decode cX12_degreeOf 24 = .ok (.iload_n 1, 1) := by decide +kernel
theorem dX12_degreeOf_25 : decode cX12_degreeOf 25 = .ok (.ireturn, 1) := by decide +kernel
theorem dX12_divides_0 : decode cX12_divides 0 = .ok (.iconst 0, 1) := by decide +kernel
theorem dX12_divides_1 : decode cX12_divides 1 = .ok (.istore_n 2, 1) := by decide +kernel
theorem dX12_divides_2 : decode cX12_divides 2 = .ok (.iload_n 2, 1) := by decide +kernel
theorem dX12_divides_3 : decode cX12_divides 3 = .ok (.bipush 7, 2) := by decide +kernel
theorem dX12_divides_5 : decode cX12_divides 5 = .ok (.if_icmp .ge 24, 3) := by decide +kernel
theorem dX12_divides_8 : decode cX12_divides 8 = .ok (.iload_n 0, 1) := by decide +kernel
theorem dX12_divides_9 : decode cX12_divides 9 = .ok (.iload_n 2, 1) := by decide +kernel
theorem dX12_divides_10 : decode cX12_divides 10 = .ok (.invokestatic 128, 3) := by decide +kernel
theorem dX12_divides_13 : decode cX12_divides 13 = .ok (.iload_n 1, 1) := by decide +kernel
theorem dX12_divides_14 : decode cX12_divides 14 = .ok (.iload_n 2, 1) := by decide +kernel
theorem dX12_divides_15 : decode cX12_divides 15 = .ok (.invokestatic 128, 3) := by decide +kernel
theorem dX12_divides_18 : decode cX12_divides 18 = .ok (.if_icmp .le 5, 3) := by decide +kernel
theorem dX12_divides_21 : decode cX12_divides 21 = .ok (.iconst 0, 1) := by decide +kernel
theorem dX12_divides_22 : decode cX12_divides 22 = .ok (.ireturn, 1) := by decide +kernel
theorem dX12_divides_23 : decode cX12_divides 23 = .ok (.iinc 2 1, 3) := by decide +kernel
theorem dX12_divides_26 : decode cX12_divides 26 = .ok (.goto (-24), 3) := by decide +kernel
theorem dX12_divides_29 : decode cX12_divides 29 = .ok (.iconst 1, 1) := by decide +kernel
theorem dX12_divides_30 : decode cX12_divides 30 = .ok (.ireturn, 1) := by decide +kernel
theorem dX12_degree_0 : decode cX12_degree 0 = .ok (.aload_n 0, 1) := by decide +kernel
