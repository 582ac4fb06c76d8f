theorem dX11_recordChange_1 : decode cX11_recordChange 1 = .ok (.getfield 39, 3) := by decide +kernel
theorem dX11_recordChange_4 : decode cX11_recordChange 4 = .ok (.aload_n 0, 1) := by decide +kernel
theorem dX11_recordChange_5 : decode cX11_recordChange 5 = .ok (.getfield 14, 3) := by decide +kernel
theorem dX11_recordChange_8 : decode cX11_recordChange 8 = .ok (.getfield 93, 3) := by decide +kernel
theorem dX11_recordChange_11 : decode cX11_recordChange 11 = .ok (.invokevirtual 121, 3) := by decide +kernel
theorem dX11_recordChange_14 : decode cX11_recordChange 14 = .ok (.aload_n 0, 1) := by decide +kernel
theorem dX11_recordChange_15 : decode cX11_recordChange 15 = .ok (.aload_n 0, 1) := by decide +kernel
theorem dX11_recordChange_16 : decode cX11_recordChange 16 = .ok (.getfield 14, 3) := by decide +kernel
theorem dX11_recordChange_19 : decode cX11_recordChange 19 = .ok (.getfield 78, 3) := by decide +kernel
theorem dX11_recordChange_22 : decode cX11_recordChange 22 = .ok (.lload_n 1, 1) := by decide +kernel
theorem dX11_recordChange_23 : decode cX11_recordChange 23 = .ok (.invokevirtual 82, 3) := by decide +kernel
theorem dX11_recordChange_26 : decode cX11_recordChange 26 = .ok (.return_, 1) := by decide +kernel
theorem dX11_replaceGraph_0 : decode cX11_replaceGraph 0 = .ok (.aload_n 0, 1) := by decide +kernel
theorem dX11_replaceGraph_1 : decode cX11_replaceGraph 1 = .ok (.getfield 14, 3) := by decide +kernel
theorem dX11_replaceGraph_4 : decode cX11_replaceGraph 4 = .ok (.iload_n 1, 1) := by decide +kernel
theorem dX11_replaceGraph_5 : decode cX11_replaceGraph 5 = .ok (.putfield 78, 3) := by decide +kernel
theorem dX11_replaceGraph_8 : decode cX11_replaceGraph 8 = .ok (.aload_n 0, 1) := by decide +kernel
theorem dX11_replaceGraph_9 : decode cX11_replaceGraph 9 = .ok (.getfield 14, 3) := by decide +kernel
theorem dX11_replaceGraph_12 : decode cX11_replaceGraph 12 = .ok (.lload_n 2, 1) := by decide +kernel
theorem dX11_replaceGraph_13 : decode cX11_replaceGraph 13 = .ok (.putfield 93, 3) := by decide +kernel
theorem dX11_replaceGraph_16 : decode cX11_replaceGraph 16 = .ok (.aload_n 0, 1) := by decide +kernel
theorem dX11_replaceGraph_17 : decode cX11_replaceGraph 17 = .ok (.getfield 23, 3) := by decide +kernel
theorem dX11_replaceGraph_20 : decode cX11_replaceGraph 20 = .ok (.invokevirtual 124, 3) := by decide +kernel
theorem dX11_replaceGraph_23 : decode cX11_replaceGraph 23 = .ok (.aload_n 0, 1) := by decide +kernel
theorem dX11_replaceGraph_24 : decode cX11_replaceGraph 24 = .ok (.getfield 32, 3) := by decide +kernel
theorem dX11_replaceGraph_27 : decode cX11_replaceGraph 27 = .ok (.invokevirtual 127, 3) := by decide +kernel
theorem dX11_replaceGraph_30 : decode cX11_replaceGraph 30 = .ok (.return_, 1) := by decide +kernel
theorem dX11_vertexCount_0 : decode cX11_vertexCount 0 = .ok (.aload_n 0, 1) := by decide +kernel
theorem dX11_vertexCount_1 : decode cX11_vertexCount 1 = .ok (.getfield 14, 3) := by decide +kernel
theorem dX11_vertexCount_4 : decode cX11_vertexCount 4 = .ok (.getfield 78, 3) := by decide +kernel
theorem dX11_vertexCount_7 : decode cX11_vertexCount 7 = .ok (.ireturn, 1) := by decide +kernel
theorem dX11_edgeCount_0 : decode cX11_edgeCount 0 = .ok (.aload_n 0, 1) := by decide +kernel
theorem dX11_edgeCount_1 : decode cX11_edgeCount 1 = .ok (.getfield 14, 3) := by decide +kernel
theorem dX11_edgeCount_4 : decode cX11_edgeCount 4 = .ok (.invokevirtual 113, 3) := by decide +kernel
theorem dX11_edgeCount_7 : decode cX11_edgeCount 7 = .ok (.ireturn, 1) := by decide +kernel
theorem dX11_neighbors_0 : decode cX11_neighbors 0 = .ok (.aload_n 0, 1) := by decide +kernel
theorem dX11_neighbors_1 : decode cX11_neighbors 1 = .ok (.iload_n 1, 1) := by decide +kernel
theorem dX11_neighbors_2 : decode cX11_neighbors 2 = .ok (.invokevirtual 89, 3) := by decide +kernel
theorem dX11_neighbors_5 : decode cX11_neighbors 5 = .ok (.ifCond .eq 17, 3) := by decide +kernel
theorem dX11_neighbors_8 : decode cX11_neighbors 8 = .ok (.aload_n 0, 1) := by decide +kernel
theorem dX11_neighbors_9 : decode cX11_neighbors 9 = .ok (.getfield 14, 3) := by decide +kernel
theorem dX11_neighbors_12 : decode cX11_neighbors 12 = .ok (.getfield 93, 3) := by decide +kernel
theorem dX11_neighbors_15 : decode cX11_neighbors 15 = .ok (.iload_n 1, 1) := by decide +kernel
theorem dX11_neighbors_16 : decode cX11_neighbors 16 = .ok (.invokestatic 105, 3) := by decide +kernel
theorem dX11_neighbors_19 : decode cX11_neighbors 19 = .ok (.goto 4, 3) := by decide +kernel
theorem dX11_neighbors_22 : decode cX11_neighbors 22 = .ok (.iconst (-1), 1) := by decide +kernel
theorem dX11_neighbors_23 : decode cX11_neighbors 23 = .ok (.ireturn, 1) := by decide +kernel
theorem dX11_componentCount_0 : decode cX11_componentCount 0 = .ok (.aload_n 0, 1) := by decide +kernel
theorem dX11_componentCount_1 : decode cX11_componentCount 1 = .ok (.getfield 14, 3) := by decide +kernel
theorem dX11_componentCount_4 : decode cX11_componentCount 4 = .ok (.invokevirtual 128, 3) := by decide +kernel
theorem dX11_componentCount_7 : decode cX11_componentCount 7 = .ok (.ireturn, 1) := by decide +kernel
theorem dX11_hasOddCycle_0 : decode cX11_hasOddCycle 0 = .ok (.aload_n 0, 1) := by decide +kernel
theorem dX11_hasOddCycle_1 : decode cX11_hasOddCycle 1 = .ok (.getfield 14, 3) := by decide +kernel
theorem dX11_hasOddCycle_4 : decode cX11_hasOddCycle 4 = .ok (.invokevirtual 131, 3) := by decide +kernel
theorem dX11_hasOddCycle_7 : decode cX11_hasOddCycle 7 = .ok (.ifCond .eq 7, 3) := by decide +kernel
theorem dX11_hasOddCycle_10 : decode cX11_hasOddCycle 10 = .ok (.iconst 0, 1) := by decide +kernel
theorem dX11_hasOddCycle_11 : decode cX11_hasOddCycle 11 = .ok (.goto 4, 3) := by decide +kernel
theorem dX11_hasOddCycle_14 : decode cX11_hasOddCycle 14 = .ok (.iconst 1, 1) := by decide +kernel
theorem dX11_hasOddCycle_15 : decode cX11_hasOddCycle 15 = .ok (.ireturn, 1) := by decide +kernel
theorem dX11_matchingNumber_0 : decode cX11_matchingNumber 0 = .ok (.aload_n 0, 1) := by decide +kernel
theorem dX11_matchingNumber_1 : decode cX11_matchingNumber 1 = .ok (.getfield 23, 3) := by decide +kernel
theorem dX11_matchingNumber_4 : decode cX11_matchingNumber 4 = .ok (.sipush 5461, 3) := by decide +kernel
theorem dX11_matchingNumber_7 : decode cX11_matchingNumber 7 = .ok (.aload_n 0, 1) := by decide +kernel
theorem dX11_matchingNumber_8 : decode cX11_matchingNumber 8 = .ok (.getfield 14, 3) := by decide +kernel
theorem dX11_matchingNumber_11 : decode cX11_matchingNumber 11 = .ok (.invokevirtual 137, 3) := by decide +kernel
theorem dX11_matchingNumber_14 : decode cX11_matchingNumber 14 = .ok (.iand, 1) := by decide +kernel
theorem dX11_matchingNumber_15 : decode cX11_matchingNumber 15 = .ok (.invokevirtual 140, 3) := by decide +kernel
theorem dX11_matchingNumber_18 : decode cX11_matchingNumber 18 = .ok (.ireturn, 1) := by decide +kernel
theorem dX11_coverCount_0 : decode cX11_coverCount 0 = .ok (.aload_n 0, 1) := by decide +kernel
theorem dX11_coverCount_1 : decode cX11_coverCount 1 = .ok (.getfield 23, 3) := by decide +kernel
theorem dX11_coverCount_4 : decode cX11_coverCount 4 = .ok (.invokevirtual 144, 3) := by decide +kernel
theorem dX11_coverCount_7 : decode cX11_coverCount 7 = .ok (.getfield 148, 3) := by decide +kernel
theorem dX11_coverCount_10 : decode cX11_coverCount 10 = .ok (.ireturn, 1) := by decide +kernel
theorem dX11_cover_0 : decode cX11_cover 0 = .ok (.aload_n 0, 1) := by decide +kernel
theorem dX11_cover_1 : decode cX11_cover 1 = .ok (.getfield 23, 3) := by decide +kernel
theorem dX11_cover_4 : decode cX11_cover 4 = .ok (.invokevirtual 144, 3) := by decide +kernel
theorem dX11_cover_7 : decode cX11_cover 7 = .ok (.iload_n 1, 1) := by decide +kernel
theorem dX11_cover_8 : decode cX11_cover 8 = .ok (.invokestatic 151, 3) := by decide +kernel
theorem dX11_cover_11 : decode cX11_cover 11 = .ok (.ireturn, 1) := by decide +kernel
theorem dX11_height_0 : decode cX11_height 0 = .ok (.aload_n 0, 1) := by decide +kernel
theorem dX11_height_1 : decode cX11_height 1 = .ok (.getfield 23, 3) := by decide +kernel
theorem dX11_height_4 : decode cX11_height 4 = .ok (.invokevirtual 155, 3) := by decide +kernel
theorem dX11_height_7 : decode cX11_height 7 = .ok (.ireturn, 1) := by decide +kernel
theorem dX11_bigHeight_0 : decode cX11_bigHeight 0 = .ok (.aload_n 0, 1) := by decide +kernel
theorem dX11_bigHeight_1 : decode cX11_bigHeight 1 = .ok (.getfield 23, 3) := by decide +kernel
theorem dX11_bigHeight_4 : decode cX11_bigHeight 4 = .ok (.invokevirtual 158, 3) := by decide +kernel
theorem dX11_bigHeight_7 : decode cX11_bigHeight 7 = .ok (.ireturn, 1) := by decide +kernel
theorem dX11_eliminationLength_0 : decode cX11_eliminationLength 0 = .ok (.iload_n 1, 1) := by decide +kernel
theorem dX11_eliminationLength_1 : decode cX11_eliminationLength 1 = .ok (.invokestatic 161, 3) := by decide +kernel
theorem dX11_eliminationLength_4 : decode cX11_eliminationLength 4 = .ok (.ifCond .eq 17, 3) := by decide +kernel
theorem dX11_eliminationLength_7 : decode cX11_eliminationLength 7 = .ok (.aload_n 0, 1) := by decide +kernel
theorem dX11_eliminationLength_8 : decode cX11_eliminationLength 8 = .ok (.getfield 14, 3) := by decide +kernel
theorem dX11_eliminationLength_11 : decode cX11_eliminationLength 11 = .ok (.iload_n 1, 1) := by decide +kernel
theorem dX11_eliminationLength_12 : decode cX11_eliminationLength 12 = .ok (.invokevirtual 164, 3) := by decide +kernel
theorem dX11_eliminationLength_15 : decode cX11_eliminationLength 15 = .ok (.getfield 148, 3) := by decide +kernel
theorem dX11_eliminationLength_18 : decode cX11_eliminationLength 18 = .ok (.goto 4, 3) := by decide +kernel
theorem dX11_eliminationLength_21 : decode cX11_eliminationLength 21 = .ok (.iconst (-1), 1) := by decide +kernel
theorem dX11_eliminationLength_22 : decode cX11_eliminationLength 22 = .ok (.ireturn, 1) := by decide +kernel
theorem dX11_eliminated_0 : decode cX11_eliminated 0 = .ok (.iload_n 1, 1) := by decide +kernel
theorem dX11_eliminated_1 : decode cX11_eliminated 1 = .ok (.invokestatic 161, 3) := by decide +kernel
theorem dX11_eliminated_4 : decode cX11_eliminated 4 = .ok (.ifCond .eq 18, 3) := by decide +kernel
theorem dX11_eliminated_7 : decode cX11_eliminated 7 = .ok (.aload_n 0, 1) := by decide +kernel
theorem dX11_eliminated_8 : decode cX11_eliminated 8 = .ok (.getfield 14, 3) := by decide +kernel
theorem dX11_eliminated_11 : decode cX11_eliminated 11 = .ok (.iload_n 1, 1) := by decide +kernel
theorem dX11_eliminated_12 : decode cX11_eliminated 12 = .ok (.invokevirtual 164, 3) := by decide +kernel
theorem dX11_eliminated_15 : decode cX11_eliminated 15 = .ok (.iload_n 2, 1) := by decide +kernel
theorem dX11_eliminated_16 : decode cX11_eliminated 16 = .ok (.invokestatic 151, 3) := by decide +kernel
theorem dX11_eliminated_19 : decode cX11_eliminated 19 = .ok (.goto 4, 3) := by decide +kernel
theorem dX11_eliminated_22 : decode cX11_eliminated 22 = .ok (.iconst (-1), 1) := by decide +kernel
theorem dX11_eliminated_23 : decode cX11_eliminated 23 = .ok (.ireturn, 1) := by decide +kernel
theorem dX11_isChordal_0 : decode cX11_isChordal 0 = .ok (.iload_n 1, 1) := by decide +kernel
theorem dX11_isChordal_1 : decode cX11_isChordal 1 = .ok (.invokestatic 161, 3) := by decide +kernel
theorem dX11_isChordal_4 : decode cX11_isChordal 4 = .ok (.ifCond .ne 5, 3) := by decide +kernel
theorem dX11_isChordal_7 : decode cX11_isChordal 7 = .ok (.iconst (-1), 1) := by decide +kernel
theorem dX11_isChordal_8 : decode cX11_isChordal 8 = .ok (.ireturn, 1) := by decide +kernel
theorem dX11_isChordal_9 : decode cX11_isChordal 9 = .ok (.aload_n 0, 1) := by decide +kernel
theorem dX11_isChordal_10 : decode cX11_isChordal 10 = .ok (.getfield 14, 3) := by decide +kernel
theorem dX11_isChordal_13 : decode cX11_isChordal 13 = .ok (.iload_n 1, 1) := by decide +kernel
theorem dX11_isChordal_14 : decode cX11_isChordal 14 = .ok (.invokevirtual 164, 3) := by decide +kernel
theorem dX11_isChordal_17 : decode cX11_isChordal 17 = .ok (.getfield 148, 3) := by decide +kernel
theorem dX11_isChordal_20 : decode cX11_isChordal 20 = .ok (.aload_n 0, 1) := by decide +kernel
theorem dX11_isChordal_21 : decode cX11_isChordal 21 = .ok (.getfield 14, 3) := by decide +kernel
theorem dX11_isChordal_24 : decode cX11_isChordal 24 = .ok (.getfield 78, 3) := by decide +kernel
theorem dX11_isChordal_27 : decode cX11_isChordal 27 = .ok (.if_icmp .ne 7, 3) := by decide +kernel
theorem dX11_isChordal_30 : decode cX11_isChordal 30 = .ok (.iconst 1, 1) := by decide +kernel
theorem dX11_isChordal_31 : decode cX11_isChordal 31 = .ok (.goto 4, 3) := by decide +kernel
theorem dX11_isChordal_34 : decode cX11_isChordal 34 = .ok (.iconst 0, 1) := by decide +kernel
theorem dX11_isChordal_35 : decode cX11_isChordal 35 = .ok (.ireturn, 1) := by decide +kernel
theorem dX11_degree_0 : decode cX11_degree 0 = .ok (.aload_n 0, 1) := by decide +kernel
theorem dX11_degree_1 : decode cX11_degree 1 = .ok (.iload_n 1, 1) := by decide +kernel
theorem dX11_degree_2 : decode cX11_degree 2 = .ok (.invokevirtual 168, 3) := by decide +kernel
theorem dX11_degree_5 : decode cX11_degree 5 = .ok (.ifCond .eq 10, 3) := by decide +kernel
theorem dX11_degree_8 : decode cX11_degree 8 = .ok (.iload_n 1, 1) := by decide +kernel
theorem dX11_degree_9 : decode cX11_degree 9 = .ok (.invokestatic 171, 3) := by decide +kernel
theorem dX11_degree_12 : decode cX11_degree 12 = .ok (.goto 4, 3) := by decide +kernel
theorem dX11_degree_15 : decode cX11_degree 15 = .ok (.iconst (-1), 1) := by decide +kernel
theorem dX11_degree_16 : decode cX11_degree 16 = .ok (.ireturn, 1) := by decide +kernel
theorem dX11_exponent_0 : decode cX11_exponent 0 = .ok (.aload_n 0, 1) := by decide +kernel
theorem dX11_exponent_1 : decode cX11_exponent 1 = .ok (.iload_n 1, 1) := by decide +kernel
theorem dX11_exponent_2 : decode cX11_exponent 2 = .ok (.invokevirtual 168, 3) := by decide +kernel
theorem dX11_exponent_5 : decode cX11_exponent 5 = .ok (.ifCond .eq 19, 3) := by decide +kernel
theorem dX11_exponent_8 : decode cX11_exponent 8 = .ok (.aload_n 0, 1) := by decide +kernel
theorem dX11_exponent_9 : decode cX11_exponent 9 = .ok (.iload_n 2, 1) := by decide +kernel
theorem dX11_exponent_10 : decode cX11_exponent 10 = .ok (.invokevirtual 89, 3) := by decide +kernel
theorem dX11_exponent_13 : decode cX11_exponent 13 = .ok (.ifCond .eq 11, 3) := by decide +kernel
theorem dX11_exponent_16 : decode cX11_exponent 16 = .ok (.iload_n 1, 1) := by decide +kernel
theorem dX11_exponent_17 : decode cX11_exponent 17 = .ok (.iload_n 2, 1) := by decide +kernel
theorem dX11_exponent_18 : decode cX11_exponent 18 = .ok (.invokestatic 174, 3) := by decide +kernel
theorem dX11_exponent_21 : decode cX11_exponent 21 = .ok (.goto 4, 3) := by decide +kernel
theorem dX11_exponent_24 : decode cX11_exponent 24 = .ok (.iconst (-1), 1) := by decide +kernel
theorem dX11_exponent_25 : decode cX11_exponent 25 = .ok (.ireturn, 1) := by decide +kernel
theorem dX11_powerOrder_0 : decode cX11_powerOrder 0 = .ok (.aload_n 0, 1) := by decide +kernel
theorem dX11_powerOrder_1 : decode cX11_powerOrder 1 = .ok (.iload_n 1, 1) := by decide +kernel
theorem dX11_powerOrder_2 : decode cX11_powerOrder 2 = .ok (.invokevirtual 168, 3) := by decide +kernel
theorem dX11_powerOrder_5 : decode cX11_powerOrder 5 = .ok (.ifCond .eq 14, 3) := by decide +kernel
theorem dX11_powerOrder_8 : decode cX11_powerOrder 8 = .ok (.aload_n 0, 1) := by decide +kernel
theorem dX11_powerOrder_9 : decode cX11_powerOrder 9 = .ok (.getfield 23, 3) := by decide +kernel
theorem dX11_powerOrder_12 : decode cX11_powerOrder 12 = .ok (.iload_n 1, 1) := by decide +kernel
theorem dX11_powerOrder_13 : decode cX11_powerOrder 13 = .ok (.invokevirtual 140, 3) := by decide +kernel
theorem dX11_powerOrder_16 : decode cX11_powerOrder 16 = .ok (.goto 4, 3) := by decide +kernel
theorem dX11_powerOrder_19 : decode cX11_powerOrder 19 = .ok (.iconst (-1), 1) := by decide +kernel
theorem dX11_powerOrder_20 : decode cX11_powerOrder 20 = .ok (.ireturn, 1) := by decide +kernel
theorem dX11_symbolicOrder_0 : decode cX11_symbolicOrder 0 = .ok (.aload_n 0, 1) := by decide +kernel
theorem dX11_symbolicOrder_1 : decode cX11_symbolicOrder 1 = .ok (.iload_n 1, 1) := by decide +kernel
theorem dX11_symbolicOrder_2 : decode cX11_symbolicOrder 2 = .ok (.invokevirtual 168, 3) := by decide +kernel
theorem dX11_symbolicOrder_5 : decode cX11_symbolicOrder 5 = .ok (.ifCond .eq 14, 3) := by decide +kernel
theorem dX11_symbolicOrder_8 : decode cX11_symbolicOrder 8 = .ok (.aload_n 0, 1) := by decide +kernel
theorem dX11_symbolicOrder_9 : decode cX11_symbolicOrder 9 = .ok (.getfield 23, 3) := by decide +kernel
theorem dX11_symbolicOrder_12 : decode cX11_symbolicOrder 12 = .ok (.iload_n 1, 1) := by decide +kernel
theorem dX11_symbolicOrder_13 : decode cX11_symbolicOrder 13 = .ok (.invokevirtual 178, 3) := by decide +kernel
theorem dX11_symbolicOrder_16 : decode cX11_symbolicOrder 16 = .ok (.goto 4, 3) := by decide +kernel
theorem dX11_symbolicOrder_19 : decode cX11_symbolicOrder 19 = .ok (.iconst (-1), 1) := by decide +kernel
theorem dX11_symbolicOrder_20 : decode cX11_symbolicOrder 20 = .ok (.ireturn, 1) := by decide +kernel
theorem dX11_multiply_0 : decode cX11_multiply 0 = .ok (.aload_n 0, 1) := by decide +kernel
theorem dX11_multiply_1 : decode cX11_multiply 1 = .ok (.iload_n 1, 1) := by decide +kernel
theorem dX11_multiply_2 : decode cX11_multiply 2 = .ok (.invokevirtual 168, 3) := by decide +kernel
theorem dX11_multiply_5 : decode cX11_multiply 5 = .ok (.ifCond .eq 11, 3) := by decide +kernel
theorem dX11_multiply_8 : decode cX11_multiply 8 = .ok (.aload_n 0, 1) := by decide +kernel
theorem dX11_multiply_9 : decode cX11_multiply 9 = .ok (.iload_n 2, 1) := by decide +kernel
theorem dX11_multiply_10 : decode cX11_multiply 10 = .ok (.invokevirtual 168, 3) := by decide +kernel
theorem dX11_multiply_13 : decode cX11_multiply 13 = .ok (.ifCond .ne 5, 3) := by decide +kernel
theorem dX11_multiply_16 : decode cX11_multiply 16 = .ok (.iconst (-1), 1) := by decide +kernel
theorem dX11_multiply_17 : decode cX11_multiply 17 = .ok (.ireturn, 1) := by decide +kernel
theorem dX11_multiply_18 : decode cX11_multiply 18 = .ok (.iload_n 1, 1) := by decide +kernel
theorem dX11_multiply_19 : decode cX11_multiply 19 = .ok (.sipush 16383, 3) := by decide +kernel
theorem dX11_multiply_22 : decode cX11_multiply 22 = .ok (.iload_n 2, 1) := by decide +kernel
theorem dX11_multiply_23 : decode cX11_multiply 23 = .ok (.isub, 1) := by decide +kernel
theorem dX11_multiply_24 : decode cX11_multiply 24 = .ok (.invokestatic 181, 3) := by decide +kernel
theorem dX11_multiply_27 : decode cX11_multiply 27 = .ok (.ifCond .eq 9, 3) := by decide +kernel
theorem dX11_multiply_30 : decode cX11_multiply 30 = .ok (.iload_n 1, 1) := by decide +kernel
theorem dX11_multiply_31 : decode cX11_multiply 31 = .ok (.iload_n 2, 1) := by decide +kernel
theorem dX11_multiply_32 : decode cX11_multiply 32 = .ok (.iadd, 1) := by decide +kernel
theorem dX11_multiply_33 : decode cX11_multiply 33 = .ok (.goto 5, 3) := by decide +kernel
theorem dX11_multiply_36 : decode cX11_multiply 36 = .ok (.bipush (-3), 2) := by decide +kernel
theorem dX11_multiply_38 : decode cX11_multiply 38 = .ok (.ireturn, 1) := by decide +kernel
theorem dX11_divide_0 : decode cX11_divide 0 = .ok (.aload_n 0, 1) := by decide +kernel
theorem dX11_divide_1 : decode cX11_divide 1 = .ok (.iload_n 1, 1) := by decide +kernel
theorem dX11_divide_2 : decode cX11_divide 2 = .ok (.invokevirtual 168, 3) := by decide +kernel
theorem dX11_divide_5 : decode cX11_divide 5 = .ok (.ifCond .eq 11, 3) := by decide +kernel
theorem dX11_divide_8 : decode cX11_divide 8 = .ok (.aload_n 0, 1) := by decide +kernel
theorem dX11_divide_9 : decode cX11_divide 9 = .ok (.iload_n 2, 1) := by decide +kernel
theorem dX11_divide_10 : decode cX11_divide 10 = .ok (.invokevirtual 168, 3) := by decide +kernel
theorem dX11_divide_13 : decode cX11_divide 13 = .ok (.ifCond .ne 5, 3) := by decide +kernel
theorem dX11_divide_16 : decode cX11_divide 16 = .ok (.iconst (-1), 1) := by decide +kernel
theorem dX11_divide_17 : decode cX11_divide 17 = .ok (.ireturn, 1) := by decide +kernel
theorem dX11_divide_18 : decode cX11_divide 18 = .ok (.iload_n 2, 1) := by decide +kernel
theorem dX11_divide_19 : decode cX11_divide 19 = .ok (.iload_n 1, 1) := by decide +kernel
theorem dX11_divide_20 : decode cX11_divide 20 = .ok (.invokestatic 181, 3) := by decide +kernel
theorem dX11_divide_23 : decode cX11_divide 23 = .ok (.ifCond .eq 9, 3) := by decide +kernel
theorem dX11_divide_26 : decode cX11_divide 26 = .ok (.iload_n 1, 1) := by decide +kernel
theorem dX11_divide_27 : decode cX11_divide 27 = .ok (.iload_n 2, 1) := by decide +kernel
theorem dX11_divide_28 : decode cX11_divide 28 = .ok (.isub, 1) := by decide +kernel
theorem dX11_divide_29 : decode cX11_divide 29 = .ok (.goto 5, 3) := by decide +kernel
theorem dX11_divide_32 : decode cX11_divide 32 = .ok (.bipush (-5), 2) := by decide +kernel
theorem dX11_divide_34 : decode cX11_divide 34 = .ok (.ireturn, 1) := by decide +kernel
theorem dX11_lcm_0 : decode cX11_lcm 0 = .ok (.aload_n 0, 1) := by decide +kernel
theorem dX11_lcm_1 : decode cX11_lcm 1 = .ok (.iload_n 1, 1) := by decide +kernel
theorem dX11_lcm_2 : decode cX11_lcm 2 = .ok (.invokevirtual 168, 3) := by decide +kernel
theorem dX11_lcm_5 : decode cX11_lcm 5 = .ok (.ifCond .eq 23, 3) := by decide +kernel
theorem dX11_lcm_8 : decode cX11_lcm 8 = .ok (.aload_n 0, 1) := by decide +kernel
theorem dX11_lcm_9 : decode cX11_lcm 9 = .ok (.iload_n 2, 1) := by decide +kernel
theorem dX11_lcm_10 : decode cX11_lcm 10 = .ok (.invokevirtual 168, 3) := by decide +kernel
theorem dX11_lcm_13 : decode cX11_lcm 13 = .ok (.ifCond .eq 15, 3) := by decide +kernel
theorem dX11_lcm_16 : decode cX11_lcm 16 = .ok (.iload_n 1, 1) := by decide +kernel
theorem dX11_lcm_17 : decode cX11_lcm 17 = .ok (.iload_n 2, 1) := by decide +kernel
theorem dX11_lcm_18 : decode cX11_lcm 18 = .ok (.iadd, 1) := by decide +kernel
theorem dX11_lcm_19 : decode cX11_lcm 19 = .ok (.iload_n 1, 1) := by decide +kernel
theorem dX11_lcm_20 : decode cX11_lcm 20 = .ok (.iload_n 2, 1) := by decide +kernel
theorem dX11_lcm_21 : decode cX11_lcm 21 = .ok (.invokestatic 185, 3) := by decide +kernel
theorem dX11_lcm_24 : decode cX11_lcm 24 = .ok (.isub, 1) := by decide +kernel
theorem dX11_lcm_25 : decode cX11_lcm 25 = .ok (.goto 4, 3) := by decide +kernel
theorem dX11_lcm_28 : decode cX11_lcm 28 = .ok (.iconst (-1), 1) := by decide +kernel
theorem dX11_lcm_29 : decode cX11_lcm 29 = .ok (.ireturn, 1) := by decide +kernel
theorem dX11_gcd_0 : decode cX11_gcd 0 = .ok (.aload_n 0, 1) := by decide +kernel
theorem dX11_gcd_1 : decode cX11_gcd 1 = .ok (.iload_n 1, 1) := by decide +kernel
theorem dX11_gcd_2 : decode cX11_gcd 2 = .ok (.invokevirtual 168, 3) := by decide +kernel
theorem dX11_gcd_5 : decode cX11_gcd 5 = .ok (.ifCond .eq 19, 3) := by decide +kernel
theorem dX11_gcd_8 : decode cX11_gcd 8 = .ok (.aload_n 0, 1) := by decide +kernel
theorem dX11_gcd_9 : decode cX11_gcd 9 = .ok (.iload_n 2, 1) := by decide +kernel
theorem dX11_gcd_10 : decode cX11_gcd 10 = .ok (.invokevirtual 168, 3) := by decide +kernel
theorem dX11_gcd_13 : decode cX11_gcd 13 = .ok (.ifCond .eq 11, 3) := by decide +kernel
theorem dX11_gcd_16 : decode cX11_gcd 16 = .ok (.iload_n 1, 1) := by decide +kernel
theorem dX11_gcd_17 : decode cX11_gcd 17 = .ok (.iload_n 2, 1) := by decide +kernel
theorem dX11_gcd_18 : decode cX11_gcd 18 = .ok (.invokestatic 185, 3) := by decide +kernel
theorem dX11_gcd_21 : decode cX11_gcd 21 = .ok (.goto 4, 3) := by decide +kernel
theorem dX11_gcd_24 : decode cX11_gcd 24 = .ok (.iconst (-1), 1) := by decide +kernel
theorem dX11_gcd_25 : decode cX11_gcd 25 = .ok (.ireturn, 1) := by decide +kernel
theorem dX11_generatorCount_0 : decode cX11_generatorCount 0 = .ok (.iload_n 1, 1) := by decide +kernel
theorem dX11_generatorCount_1 : decode cX11_generatorCount 1 = .ok (.invokestatic 188, 3) := by decide +kernel
theorem dX11_generatorCount_4 : decode cX11_generatorCount 4 = .ok (.ifCond .eq 17, 3) := by decide +kernel
theorem dX11_generatorCount_7 : decode cX11_generatorCount 7 = .ok (.aload_n 0, 1) := by decide +kernel
theorem dX11_generatorCount_8 : decode cX11_generatorCount 8 = .ok (.getfield 23, 3) := by decide +kernel
theorem dX11_generatorCount_11 : decode cX11_generatorCount 11 = .ok (.iload_n 1, 1) := by decide +kernel
theorem dX11_generatorCount_12 : decode cX11_generatorCount 12 = .ok (.invokevirtual 191, 3) := by decide +kernel
theorem dX11_generatorCount_15 : decode cX11_generatorCount 15 = .ok (.getfield 148, 3) := by decide +kernel
theorem dX11_generatorCount_18 : decode cX11_generatorCount 18 = .ok (.goto 4, 3) := by decide +kernel
theorem dX11_generatorCount_21 : decode cX11_generatorCount 21 = .ok (.iconst (-1), 1) := by decide +kernel
theorem dX11_generatorCount_22 : decode cX11_generatorCount 22 = .ok (.ireturn, 1) := by decide +kernel
theorem dX11_generator_0 : decode cX11_generator 0 = .ok (.iload_n 1, 1) := by decide +kernel
theorem dX11_generator_1 : decode cX11_generator 1 = .ok (.invokestatic 188, 3) := by decide +kernel
theorem dX11_generator_4 : decode cX11_generator 4 = .ok (.ifCond .eq 18, 3) := by decide +kernel
theorem dX11_generator_7 : decode cX11_generator 7 = .ok (.aload_n 0, 1) := by decide +kernel
theorem dX11_generator_8 : decode cX11_generator 8 = .ok (.getfield 23, 3) := by decide +kernel
theorem dX11_generator_11 : decode cX11_generator 11 = .ok (.iload_n 1, 1) := by decide +kernel
theorem dX11_generator_12 : decode cX11_generator 12 = .ok (.invokevirtual 191, 3) := by decide +kernel
theorem dX11_generator_15 : decode cX11_generator 15 = .ok (.iload_n 2, 1) := by decide +kernel
theorem dX11_generator_16 : decode cX11_generator 16 = .ok (.invokestatic 151, 3) := by decide +kernel
theorem dX11_generator_19 : decode cX11_generator 19 = .ok (.goto 4, 3) := by decide +kernel
theorem dX11_generator_22 : decode cX11_generator 22 = .ok (.iconst (-1), 1) := by decide +kernel
theorem dX11_generator_23 : decode cX11_generator 23 = .ok (.ireturn, 1) := by decide +kernel
theorem dX11_symbolicGeneratorCount_0 : decode cX11_symbolicGeneratorCount 0 = .ok (.iload_n 1, 1) := by decide +kernel
theorem dX11_symbolicGeneratorCount_1 : decode cX11_symbolicGeneratorCount 1 = .ok (.invokestatic 188, 3) := by decide +kernel
theorem dX11_symbolicGeneratorCount_4 : decode cX11_symbolicGeneratorCount 4 = .ok (.ifCond .eq 17, 3) := by decide +kernel
theorem dX11_symbolicGeneratorCount_7 : decode cX11_symbolicGeneratorCount 7 = .ok (.aload_n 0, 1) := by decide +kernel
theorem dX11_symbolicGeneratorCount_8 : decode cX11_symbolicGeneratorCount 8 = .ok (.getfield 23, 3) := by decide +kernel
theorem dX11_symbolicGeneratorCount_11 : decode cX11_symbolicGeneratorCount 11 = .ok (.iload_n 1, 1) := by decide +kernel
theorem dX11_symbolicGeneratorCount_12 : decode cX11_symbolicGeneratorCount 12 = .ok (.invokevirtual 194, 3) := by decide +kernel
theorem dX11_symbolicGeneratorCount_15 : decode cX11_symbolicGeneratorCount 15 = .ok (.getfield 148, 3) := by decide +kernel
theorem dX11_symbolicGeneratorCount_18 : decode cX11_symbolicGeneratorCount 18 = .ok (.goto 4, 3) := by decide +kernel
theorem dX11_symbolicGeneratorCount_21 : decode cX11_symbolicGeneratorCount 21 = .ok (.iconst (-1), 1) := by decide +kernel
theorem dX11_symbolicGeneratorCount_22 : decode cX11_symbolicGeneratorCount 22 = .ok (.ireturn, 1) := by decide +kernel
theorem dX11_symbolicGenerator_0 : decode cX11_symbolicGenerator 0 = .ok (.iload_n 1, 1) := by decide +kernel
theorem dX11_symbolicGenerator_1 : decode cX11_symbolicGenerator 1 = .ok (.invokestatic 188, 3) := by decide +kernel
theorem dX11_symbolicGenerator_4 : decode cX11_symbolicGenerator 4 = .ok (.ifCond .eq 18, 3) := by decide +kernel
theorem dX11_symbolicGenerator_7 : decode cX11_symbolicGenerator 7 = .ok (.aload_n 0, 1) := by decide +kernel
theorem dX11_symbolicGenerator_8 : decode cX11_symbolicGenerator 8 = .ok (.getfield 23, 3) := by decide +kernel
theorem dX11_symbolicGenerator_11 : decode cX11_symbolicGenerator 11 = .ok (.iload_n 1, 1) := by decide +kernel
theorem dX11_symbolicGenerator_12 : decode cX11_symbolicGenerator 12 = .ok (.invokevirtual 194, 3) := by decide +kernel
theorem dX11_symbolicGenerator_15 : decode cX11_symbolicGenerator 15 = .ok (.iload_n 2, 1) := by decide +kernel
theorem dX11_symbolicGenerator_16 : decode cX11_symbolicGenerator 16 = .ok (.invokestatic 151, 3) := by decide +kernel
theorem dX11_symbolicGenerator_19 : decode cX11_symbolicGenerator 19 = .ok (.goto 4, 3) := by decide +kernel
theorem dX11_symbolicGenerator_22 : decode cX11_symbolicGenerator 22 = .ok (.iconst (-1), 1) := by decide +kernel
theorem dX11_symbolicGenerator_23 : decode cX11_symbolicGenerator 23 = .ok (.ireturn, 1) := by decide +kernel
theorem dX11_powersAgree_0 : decode cX11_powersAgree 0 = .ok (.iload_n 1, 1) := by decide +kernel
theorem dX11_powersAgree_1 : decode cX11_powersAgree 1 = .ok (.invokestatic 188, 3) := by decide +kernel
theorem dX11_powersAgree_4 : decode cX11_powersAgree 4 = .ok (.ifCond .ne 5, 3) := by decide +kernel
theorem dX11_powersAgree_7 : decode cX11_powersAgree 7 = .ok (.iconst (-1), 1) := by decide +kernel
theorem dX11_powersAgree_8 : decode cX11_powersAgree 8 = .ok (.ireturn, 1) := by decide +kernel
theorem dX11_powersAgree_9 : decode cX11_powersAgree 9 = .ok (.aload_n 0, 1) := by decide +kernel
theorem dX11_powersAgree_10 : decode cX11_powersAgree 10 = .ok (.getfield 23, 3) := by decide +kernel
theorem dX11_powersAgree_13 : decode cX11_powersAgree 13 = .ok (.iload_n 1, 1) := by decide +kernel
theorem dX11_powersAgree_14 : decode cX11_powersAgree 14 = .ok (.invokevirtual 191, 3) := by decide +kernel
theorem dX11_powersAgree_17 : decode cX11_powersAgree 17 = .ok (.aload_n 0, 1) := by decide +kernel
theorem dX11_powersAgree_18 : decode cX11_powersAgree 18 = .ok (.getfield 23, 3) := by decide +kernel
theorem dX11_powersAgree_21 : decode cX11_powersAgree 21 = .ok (.iload_n 1, 1) := by decide +kernel
theorem dX11_powersAgree_22 : decode cX11_powersAgree 22 = .ok (.invokevirtual 194, 3) := by decide +kernel
theorem dX11_powersAgree_25 : decode cX11_powersAgree 25 = .ok (.invokevirtual 197, 3) := by decide +kernel
theorem dX11_powersAgree_28 : decode cX11_powersAgree 28 = .ok (.bipush (-2), 2) := by decide +kernel
theorem dX11_powersAgree_30 : decode cX11_powersAgree 30 = .ok (.if_icmp .ne 7, 3) := by decide +kernel
theorem dX11_powersAgree_33 : decode cX11_powersAgree 33 = .ok (.iconst 1, 1) := by decide +kernel
theorem dX11_powersAgree_34 : decode cX11_powersAgree 34 = .ok (.goto 4, 3) := by decide +kernel
theorem dX11_powersAgree_37 : decode cX11_powersAgree 37 = .ok (.iconst 0, 1) := by decide +kernel
theorem dX11_powersAgree_38 : decode cX11_powersAgree 38 = .ok (.ireturn, 1) := by decide +kernel
theorem dX11_firstDifference_0 : decode cX11_firstDifference 0 = .ok (.iload_n 1, 1) := by decide +kernel
theorem dX11_firstDifference_1 : decode cX11_firstDifference 1 = .ok (.invokestatic 188, 3) := by decide +kernel
theorem dX11_firstDifference_4 : decode cX11_firstDifference 4 = .ok (.ifCond .eq 14, 3) := by decide +kernel
theorem dX11_firstDifference_7 : decode cX11_firstDifference 7 = .ok (.aload_n 0, 1) := by decide +kernel
theorem dX11_firstDifference_8 : decode cX11_firstDifference 8 = .ok (.getfield 23, 3) := by decide +kernel
theorem dX11_firstDifference_11 : decode cX11_firstDifference 11 = .ok (.iload_n 1, 1) := by decide +kernel
theorem dX11_firstDifference_12 : decode cX11_firstDifference 12 = .ok (.invokevirtual 201, 3) := by decide +kernel
theorem dX11_firstDifference_15 : decode cX11_firstDifference 15 = .ok (.goto 4, 3) := by decide +kernel
theorem dX11_firstDifference_18 : decode cX11_firstDifference 18 = .ok (.iconst (-1), 1) := by decide +kernel
theorem dX11_firstDifference_19 : decode cX11_firstDifference 19 = .ok (.ireturn, 1) := by decide +kernel
theorem dX11_countInPower_0 : decode cX11_countInPower 0 = .ok (.iload_n 1, 1) := by decide +kernel
theorem dX11_countInPower_1 : decode cX11_countInPower 1 = .ok (.invokestatic 188, 3) := by decide +kernel
theorem dX11_countInPower_4 : decode cX11_countInPower 4 = .ok (.ifCond .eq 10, 3) := by decide +kernel
theorem dX11_countInPower_7 : decode cX11_countInPower 7 = .ok (.iload_n 2, 1) := by decide +kernel
theorem dX11_countInPower_8 : decode cX11_countInPower 8 = .ok (.invokestatic 204, 3) := by decide +kernel
theorem dX11_countInPower_11 : decode cX11_countInPower 11 = .ok (.ifCond .ne 5, 3) := by decide +kernel
theorem dX11_countInPower_14 : decode cX11_countInPower 14 = .ok (.iconst (-1), 1) := by decide +kernel
theorem dX11_countInPower_15 : decode cX11_countInPower 15 = .ok (.ireturn, 1) := by decide +kernel
theorem dX11_countInPower_16 : decode cX11_countInPower 16 = .ok (.iconst 0, 1) := by decide +kernel
theorem dX11_countInPower_17 : decode cX11_countInPower 17 = .ok (.istore_n 3, 1) := by decide +kernel
theorem dX11_countInPower_18 : decode cX11_countInPower 18 = .ok (.aload_n 0, 1) := by decide +kernel
theorem dX11_countInPower_19 : decode cX11_countInPower 19 = .ok (.getfield 14, 3) := by decide +kernel
theorem dX11_countInPower_22 : decode cX11_countInPower 22 = .ok (.invokevirtual 137, 3) := by decide +kernel
theorem dX11_countInPower_25 : decode cX11_countInPower 25 = .ok (.istore 4, 2) := by decide +kernel
theorem dX11_countInPower_27 : decode cX11_countInPower 27 = .ok (.iconst 0, 1) := by decide +kernel
theorem dX11_countInPower_28 : decode cX11_countInPower 28 = .ok (.istore 5, 2) := by decide +kernel
theorem dX11_countInPower_30 : decode cX11_countInPower 30 = .ok (.iload 5, 2) := by decide +kernel
theorem dX11_countInPower_32 : decode cX11_countInPower 32 = .ok (.iload 4, 2) := by decide +kernel
theorem dX11_countInPower_34 : decode cX11_countInPower 34 = .ok (.if_icmp .gt 34, 3) := by decide +kernel
theorem dX11_countInPower_37 : decode cX11_countInPower 37 = .ok (.iload 5, 2) := by decide +kernel
theorem dX11_countInPower_39 : decode cX11_countInPower 39 = .ok (.invokestatic 171, 3) := by decide +kernel
theorem dX11_countInPower_42 : decode cX11_countInPower 42 = .ok (.iload_n 2, 1) := by decide +kernel
theorem dX11_countInPower_43 : decode cX11_countInPower 43 = .ok (.if_icmp .ne 19, 3) := by decide +kernel
theorem dX11_countInPower_46 : decode cX11_countInPower 46 = .ok (.aload_n 0, 1) := by decide +kernel
theorem dX11_countInPower_47 : decode cX11_countInPower 47 = .ok (.getfield 23, 3) := by decide +kernel
theorem dX11_countInPower_50 : decode cX11_countInPower 50 = .ok (.iload 5, 2) := by decide +kernel
theorem dX11_countInPower_52 : decode cX11_countInPower 52 = .ok (.invokevirtual 140, 3) := by decide +kernel
theorem dX11_countInPower_55 : decode cX11_countInPower 55 = .ok (.iload_n 1, 1) := by decide +kernel
theorem dX11_countInPower_56 : decode cX11_countInPower 56 = .ok (.if_icmp .lt 6, 3) := by decide +kernel
theorem dX11_countInPower_59 : decode cX11_countInPower 59 = .ok (.iinc 3 1, 3) := by decide +kernel
theorem dX11_countInPower_62 : decode cX11_countInPower 62 = .ok (.iinc 5 1, 3) := by decide +kernel
theorem dX11_countInPower_65 : decode cX11_countInPower 65 = .ok (.goto (-35), 3) := by decide +kernel
theorem dX11_countInPower_68 : decode cX11_countInPower 68 = .ok (.iload_n 3, 1) := by decide +kernel
theorem dX11_countInPower_69 : decode cX11_countInPower 69 = .ok (.ireturn, 1) := by decide +kernel
theorem dX11_countInSymbolicPower_0 : decode cX11_countInSymbolicPower 0 = .ok (.iload_n 1, 1) := by decide +kernel
theorem dX11_countInSymbolicPower_1 : decode cX11_countInSymbolicPower 1 = .ok (.invokestatic 188, 3) := by decide +kernel
theorem dX11_countInSymbolicPower_4 : decode cX11_countInSymbolicPower 4 = .ok (.ifCond .eq 10, 3) := by decide +kernel
theorem dX11_countInSymbolicPower_7 : decode cX11_countInSymbolicPower 7 = .ok (.iload_n 2, 1) := by decide +kernel
theorem dX11_countInSymbolicPower_8 : decode cX11_countInSymbolicPower 8 = .ok (.invokestatic 204, 3) := by decide +kernel
theorem dX11_countInSymbolicPower_11 : decode cX11_countInSymbolicPower 11 = .ok (.ifCond .ne 5, 3) := by decide +kernel
theorem dX11_countInSymbolicPower_14 : decode cX11_countInSymbolicPower 14 = .ok (.iconst (-1), 1) := by decide +kernel
theorem dX11_countInSymbolicPower_15 : decode cX11_countInSymbolicPower 15 = .ok (.ireturn, 1) := by decide +kernel
theorem dX11_countInSymbolicPower_16 : decode cX11_countInSymbolicPower 16 = .ok (.iconst 0, 1) := by decide +kernel
theorem dX11_countInSymbolicPower_17 : decode cX11_countInSymbolicPower 17 = .ok (.istore_n 3, 1) := by decide +kernel
theorem dX11_countInSymbolicPower_18 : decode cX11_countInSymbolicPower 18 = .ok (.aload_n 0, 1) := by decide +kernel
theorem dX11_countInSymbolicPower_19 : decode cX11_countInSymbolicPower 19 = .ok (.getfield 14, 3) := by decide +kernel
theorem dX11_countInSymbolicPower_22 : decode cX11_countInSymbolicPower 22 = .ok (.invokevirtual 137, 3) := by decide +kernel
theorem dX11_countInSymbolicPower_25 : decode cX11_countInSymbolicPower 25 = .ok (.istore 4, 2) := by decide +kernel
theorem dX11_countInSymbolicPower_27 : decode cX11_countInSymbolicPower 27 = .ok (.iconst 0, 1) := by decide +kernel
theorem dX11_countInSymbolicPower_28 : decode cX11_countInSymbolicPower 28 = .ok (.istore 5, 2) := by decide +kernel
theorem dX11_countInSymbolicPower_30 : decode cX11_countInSymbolicPower 30 = .ok (.iload 5, 2) := by decide +kernel
theorem dX11_countInSymbolicPower_32 : decode cX11_countInSymbolicPower 32 = .ok (.iload 4, 2) := by decide +kernel
theorem dX11_countInSymbolicPower_34 : decode cX11_countInSymbolicPower 34 = .ok (.if_icmp .gt 34, 3) := by decide +kernel
theorem dX11_countInSymbolicPower_37 : decode cX11_countInSymbolicPower 37 = .ok (.iload 5, 2) := by decide +kernel
theorem dX11_countInSymbolicPower_39 : decode cX11_countInSymbolicPower 39 = .ok (.invokestatic 171, 3) := by decide +kernel
theorem dX11_countInSymbolicPower_42 : decode cX11_countInSymbolicPower 42 = .ok (.iload_n 2, 1) := by decide +kernel
theorem dX11_countInSymbolicPower_43 : decode cX11_countInSymbolicPower 43 = .ok (.if_icmp .ne 19, 3) := by decide +kernel
theorem dX11_countInSymbolicPower_46 : decode cX11_countInSymbolicPower 46 = .ok (.aload_n 0, 1) := by decide +kernel
theorem dX11_countInSymbolicPower_47 : decode cX11_countInSymbolicPower 47 = .ok (.getfield 23, 3) := by decide +kernel
theorem dX11_countInSymbolicPower_50 : decode cX11_countInSymbolicPower 50 = .ok (.iload 5, 2) := by decide +kernel
theorem dX11_countInSymbolicPower_52 : decode cX11_countInSymbolicPower 52 = .ok (.invokevirtual 178, 3) := by decide +kernel
theorem dX11_countInSymbolicPower_55 : decode cX11_countInSymbolicPower 55 = .ok (.iload_n 1, 1) := by decide +kernel
theorem dX11_countInSymbolicPower_56 : decode cX11_countInSymbolicPower 56 = .ok (.if_icmp .lt 6, 3) := by decide +kernel
theorem dX11_countInSymbolicPower_59 : decode cX11_countInSymbolicPower 59 = .ok (.iinc 3 1, 3) := by decide +kernel
theorem dX11_countInSymbolicPower_62 : decode cX11_countInSymbolicPower 62 = .ok (.iinc 5 1, 3) := by decide +kernel
theorem dX11_countInSymbolicPower_65 : decode cX11_countInSymbolicPower 65 = .ok (.goto (-35), 3) := by decide +kernel
theorem dX11_countInSymbolicPower_68 : decode cX11_countInSymbolicPower 68 = .ok (.iload_n 3, 1) := by decide +kernel
theorem dX11_countInSymbolicPower_69 : decode cX11_countInSymbolicPower 69 = .ok (.ireturn, 1) := by decide +kernel
theorem dX11_orderedGenerator_0 : decode cX11_orderedGenerator 0 = .ok (.aload_n 0, 1) := by decide +kernel
theorem dX11_orderedGenerator_1 : decode cX11_orderedGenerator 1 = .ok (.iload_n 1, 1) := by decide +kernel
theorem dX11_orderedGenerator_2 : decode cX11_orderedGenerator 2 = .ok (.iload_n 2, 1) := by decide +kernel
theorem dX11_orderedGenerator_3 : decode cX11_orderedGenerator 3 = .ok (.iload_n 3, 1) := by decide +kernel
theorem dX11_orderedGenerator_4 : decode cX11_orderedGenerator 4 = .ok (.invokevirtual 207, 3) := by decide +kernel
theorem dX11_orderedGenerator_7 : decode cX11_orderedGenerator 7 = .ok (.istore 4, 2) := by decide +kernel
theorem dX11_orderedGenerator_9 : decode cX11_orderedGenerator 9 = .ok (.iload 4, 2) := by decide +kernel
theorem dX11_orderedGenerator_11 : decode cX11_orderedGenerator 11 = .ok (.ifCond .eq 8, 3) := by decide +kernel
theorem dX11_orderedGenerator_14 : decode cX11_orderedGenerator 14 = .ok (.iload 4, 2) := by decide +kernel
theorem dX11_orderedGenerator_16 : decode cX11_orderedGenerator 16 = .ok (.goto 15, 3) := by decide +kernel
theorem dX11_orderedGenerator_19 : decode cX11_orderedGenerator 19 = .ok (.aload_n 0, 1) := by decide +kernel
theorem dX11_orderedGenerator_20 : decode cX11_orderedGenerator 20 = .ok (.getfield 32, 3) := by decide +kernel
theorem dX11_orderedGenerator_23 : decode cX11_orderedGenerator 23 = .ok (.getfield 211, 3) := by decide +kernel
theorem dX11_orderedGenerator_26 : decode cX11_orderedGenerator 26 = .ok (.getfield 215, 3) := by decide +kernel
theorem dX11_orderedGenerator_29 : decode cX11_orderedGenerator 29 = .ok (.iload_n 3, 1) := by decide +kernel
theorem dX11_orderedGenerator_30 : decode cX11_orderedGenerator 30 = .ok (.iaload, 1) := by decide +kernel
theorem dX11_orderedGenerator_31 : decode cX11_orderedGenerator 31 = .ok (.ireturn, 1) := by decide +kernel
theorem dX11_colonVariables_0 : decode cX11_colonVariables 0 = .ok (.aload_n 0, 1) := by decide +kernel
theorem dX11_colonVariables_1 : decode cX11_colonVariables 1 = .ok (.iload_n 1, 1) := by decide +kernel
theorem dX11_colonVariables_2 : decode cX11_colonVariables 2 = .ok (.iload_n 2, 1) := by decide +kernel
theorem dX11_colonVariables_3 : decode cX11_colonVariables 3 = .ok (.iload_n 3, 1) := by decide +kernel
theorem dX11_colonVariables_4 : decode cX11_colonVariables 4 = .ok (.invokevirtual 207, 3) := by decide +kernel
theorem dX11_colonVariables_7 : decode cX11_colonVariables 7 = .ok (.istore 4, 2) := by decide +kernel
theorem dX11_colonVariables_9 : decode cX11_colonVariables 9 = .ok (.iload 4, 2) := by decide +kernel
theorem dX11_colonVariables_11 : decode cX11_colonVariables 11 = .ok (.ifCond .eq 8, 3) := by decide +kernel
theorem dX11_colonVariables_14 : decode cX11_colonVariables 14 = .ok (.iload 4, 2) := by decide +kernel
theorem dX11_colonVariables_16 : decode cX11_colonVariables 16 = .ok (.goto 14, 3) := by decide +kernel
theorem dX11_colonVariables_19 : decode cX11_colonVariables 19 = .ok (.aload_n 0, 1) := by decide +kernel
theorem dX11_colonVariables_20 : decode cX11_colonVariables 20 = .ok (.getfield 32, 3) := by decide +kernel
theorem dX11_colonVariables_23 : decode cX11_colonVariables 23 = .ok (.iload_n 3, 1) := by decide +kernel
theorem dX11_colonVariables_24 : decode cX11_colonVariables 24 = .ok (.invokevirtual 219, 3) := by decide +kernel
theorem dX11_colonVariables_27 : decode cX11_colonVariables 27 = .ok (.invokestatic 222, 3) := by decide +kernel
theorem dX11_colonVariables_30 : decode cX11_colonVariables 30 = .ok (.ireturn, 1) := by decide +kernel
theorem dX11_isLinearStep_0 : decode cX11_isLinearStep 0 = .ok (.aload_n 0, 1) := by decide +kernel
theorem dX11_isLinearStep_1 : decode cX11_isLinearStep 1 = .ok (.iload_n 1, 1) := by decide +kernel
theorem dX11_isLinearStep_2 : decode cX11_isLinearStep 2 = .ok (.iload_n 2, 1) := by decide +kernel
theorem dX11_isLinearStep_3 : decode cX11_isLinearStep 3 = .ok (.iload_n 3, 1) := by decide +kernel
theorem dX11_isLinearStep_4 : decode cX11_isLinearStep 4 = .ok (.invokevirtual 207, 3) := by decide +kernel
theorem dX11_isLinearStep_7 : decode cX11_isLinearStep 7 = .ok (.istore 4, 2) := by decide +kernel
theorem dX11_isLinearStep_9 : decode cX11_isLinearStep 9 = .ok (.iload 4, 2) := by decide +kernel
theorem dX11_isLinearStep_11 : decode cX11_isLinearStep 11 = .ok (.ifCond .eq 6, 3) := by decide +kernel
theorem dX11_isLinearStep_14 : decode cX11_isLinearStep 14 = .ok (.iload 4, 2) := by decide +kernel
theorem dX11_isLinearStep_16 : decode cX11_isLinearStep 16 = .ok (.ireturn, 1) := by decide +kernel
theorem dX11_isLinearStep_17 : decode cX11_isLinearStep 17 = .ok (.aload_n 0, 1) := by decide +kernel
theorem dX11_isLinearStep_18 : decode cX11_isLinearStep 18 = .ok (.getfield 32, 3) := by decide +kernel
theorem dX11_isLinearStep_21 : decode cX11_isLinearStep 21 = .ok (.iload_n 3, 1) := by decide +kernel
theorem dX11_isLinearStep_22 : decode cX11_isLinearStep 22 = .ok (.invokevirtual 225, 3) := by decide +kernel
theorem dX11_isLinearStep_25 : decode cX11_isLinearStep 25 = .ok (.ifCond .eq 7, 3) := by decide +kernel
theorem dX11_isLinearStep_28 : decode cX11_isLinearStep 28 = .ok (.iconst 1, 1) := by decide +kernel
theorem dX11_isLinearStep_29 : decode cX11_isLinearStep 29 = .ok (.goto 4, 3) := by decide +kernel
theorem dX11_isLinearStep_32 : decode cX11_isLinearStep 32 = .ok (.iconst 0, 1) := by decide +kernel
theorem dX11_isLinearStep_33 : decode cX11_isLinearStep 33 = .ok (.ireturn, 1) := by decide +kernel
theorem dX11_firstNonLinearStep_0 : decode cX11_firstNonLinearStep 0 = .ok (.iload_n 1, 1) := by decide +kernel
theorem dX11_firstNonLinearStep_1 : decode cX11_firstNonLinearStep 1 = .ok (.invokestatic 188, 3) := by decide +kernel
theorem dX11_firstNonLinearStep_4 : decode cX11_firstNonLinearStep 4 = .ok (.ifCond .eq 15, 3) := by decide +kernel
theorem dX11_firstNonLinearStep_7 : decode cX11_firstNonLinearStep 7 = .ok (.aload_n 0, 1) := by decide +kernel
theorem dX11_firstNonLinearStep_8 : decode cX11_firstNonLinearStep 8 = .ok (.getfield 32, 3) := by decide +kernel
theorem dX11_firstNonLinearStep_11 : decode cX11_firstNonLinearStep 11 = .ok (.iload_n 1, 1) := by decide +kernel
theorem dX11_firstNonLinearStep_12 : decode cX11_firstNonLinearStep 12 = .ok (.iload_n 2, 1) := by decide +kernel
theorem dX11_firstNonLinearStep_13 : decode cX11_firstNonLinearStep 13 = .ok (.invokevirtual 228, 3) := by decide +kernel
theorem dX11_firstNonLinearStep_16 : decode cX11_firstNonLinearStep 16 = .ok (.ifCond .ne 5, 3) := by decide +kernel
theorem dX11_firstNonLinearStep_19 : decode cX11_firstNonLinearStep 19 = .ok (.iconst (-1), 1) := by decide +kernel
theorem dX11_firstNonLinearStep_20 : decode cX11_firstNonLinearStep 20 = .ok (.ireturn, 1) := by decide +kernel
theorem dX11_firstNonLinearStep_21 : decode cX11_firstNonLinearStep 21 = .ok (.aload_n 0, 1) := by decide +kernel
theorem dX11_firstNonLinearStep_22 : decode cX11_firstNonLinearStep 22 = .ok (.getfield 32, 3) := by decide +kernel
theorem dX11_firstNonLinearStep_25 : decode cX11_firstNonLinearStep 25 = .ok (.invokevirtual 231, 3) := by decide +kernel
theorem dX11_firstNonLinearStep_28 : decode cX11_firstNonLinearStep 28 = .ok (.ireturn, 1) := by decide +kernel
theorem dX11_bettiNumber_0 : decode cX11_bettiNumber 0 = .ok (.iload_n 1, 1) := by decide +kernel
theorem dX11_bettiNumber_1 : decode cX11_bettiNumber 1 = .ok (.invokestatic 188, 3) := by decide +kernel
theorem dX11_bettiNumber_4 : decode cX11_bettiNumber 4 = .ok (.ifCond .eq 25, 3) := by decide +kernel
theorem dX11_bettiNumber_7 : decode cX11_bettiNumber 7 = .ok (.iload_n 3, 1) := by decide +kernel
theorem dX11_bettiNumber_8 : decode cX11_bettiNumber 8 = .ok (.ifCond .lt 21, 3) := by decide +kernel
theorem dX11_bettiNumber_11 : decode cX11_bettiNumber 11 = .ok (.iload_n 3, 1) := by decide +kernel
theorem dX11_bettiNumber_12 : decode cX11_bettiNumber 12 = .ok (.bipush 7, 2) := by decide +kernel
theorem dX11_bettiNumber_14 : decode cX11_bettiNumber 14 = .ok (.if_icmp .gt 15, 3) := by decide +kernel
theorem dX11_bettiNumber_17 : decode cX11_bettiNumber 17 = .ok (.aload_n 0, 1) := by decide +kernel
theorem dX11_bettiNumber_18 : decode cX11_bettiNumber 18 = .ok (.getfield 32, 3) := by decide +kernel
theorem dX11_bettiNumber_21 : decode cX11_bettiNumber 21 = .ok (.iload_n 1, 1) := by decide +kernel
theorem dX11_bettiNumber_22 : decode cX11_bettiNumber 22 = .ok (.iload_n 2, 1) := by decide +kernel
theorem dX11_bettiNumber_23 : decode cX11_bettiNumber 23 = .ok (.invokevirtual 228, 3) := by decide +kernel
theorem dX11_bettiNumber_26 : decode cX11_bettiNumber 26 = .ok (.ifCond .ne 7, 3) := by decide +kernel
theorem dX11_bettiNumber_29 : decode cX11_bettiNumber 29 = .ok (.ldc2_w 234, 3) := by decide +kernel
theorem dX11_bettiNumber_32 : decode cX11_bettiNumber 32 = .ok (.lreturn, 1) := by decide +kernel
theorem dX11_bettiNumber_33 : decode cX11_bettiNumber 33 = .ok (.aload_n 0, 1) := by decide +kernel
theorem dX11_bettiNumber_34 : decode cX11_bettiNumber 34 = .ok (.getfield 32, 3) := by decide +kernel
theorem dX11_bettiNumber_37 : decode cX11_bettiNumber 37 = .ok (.invokevirtual 231, 3) := by decide +kernel
theorem dX11_bettiNumber_40 : decode cX11_bettiNumber 40 = .ok (.bipush (-2), 2) := by decide +kernel
theorem dX11_bettiNumber_42 : decode cX11_bettiNumber 42 = .ok (.if_icmp .ne 14, 3) := by decide +kernel
theorem dX11_bettiNumber_45 : decode cX11_bettiNumber 45 = .ok (.aload_n 0, 1) := by decide +kernel
theorem dX11_bettiNumber_46 : decode cX11_bettiNumber 46 = .ok (.getfield 32, 3) := by decide +kernel
theorem dX11_bettiNumber_49 : decode cX11_bettiNumber 49 = .ok (.iload_n 3, 1) := by decide +kernel
theorem dX11_bettiNumber_50 : decode cX11_bettiNumber 50 = .ok (.invokevirtual 236, 3) := by decide +kernel
theorem dX11_bettiNumber_53 : decode cX11_bettiNumber 53 = .ok (.goto 6, 3) := by decide +kernel
theorem dX11_bettiNumber_56 : decode cX11_bettiNumber 56 = .ok (.ldc2_w 234, 3) := by decide +kernel
theorem dX11_bettiNumber_59 : decode cX11_bettiNumber 59 = .ok (.lreturn, 1) := by decide +kernel
theorem dX11_stepError_0 : decode cX11_stepError 0 = .ok (.iload_n 1, 1) := by decide +kernel
theorem dX11_stepError_1 : decode cX11_stepError 1 = .ok (.invokestatic 188, 3) := by decide +kernel
theorem dX11_stepError_4 : decode cX11_stepError 4 = .ok (.ifCond .eq 19, 3) := by decide +kernel
theorem dX11_stepError_7 : decode cX11_stepError 7 = .ok (.iload_n 3, 1) := by decide +kernel
theorem dX11_stepError_8 : decode cX11_stepError 8 = .ok (.ifCond .lt 15, 3) := by decide +kernel
theorem dX11_stepError_11 : decode cX11_stepError 11 = .ok (.aload_n 0, 1) := by decide +kernel
theorem dX11_stepError_12 : decode cX11_stepError 12 = .ok (.getfield 32, 3) := by decide +kernel
theorem dX11_stepError_15 : decode cX11_stepError 15 = .ok (.iload_n 1, 1) := by decide +kernel
theorem dX11_stepError_16 : decode cX11_stepError 16 = .ok (.iload_n 2, 1) := by decide +kernel
theorem dX11_stepError_17 : decode cX11_stepError 17 = .ok (.invokevirtual 228, 3) := by decide +kernel
theorem dX11_stepError_20 : decode cX11_stepError 20 = .ok (.ifCond .ne 5, 3) := by decide +kernel
theorem dX11_stepError_23 : decode cX11_stepError 23 = .ok (.iconst (-1), 1) := by decide +kernel
theorem dX11_stepError_24 : decode cX11_stepError 24 = .ok (.ireturn, 1) := by decide +kernel
theorem dX11_stepError_25 : decode cX11_stepError 25 = .ok (.iload_n 3, 1) := by decide +kernel
theorem dX11_stepError_26 : decode cX11_stepError 26 = .ok (.aload_n 0, 1) := by decide +kernel
theorem dX11_stepError_27 : decode cX11_stepError 27 = .ok (.getfield 32, 3) := by decide +kernel
theorem dX11_stepError_30 : decode cX11_stepError 30 = .ok (.getfield 211, 3) := by decide +kernel
theorem dX11_stepError_33 : decode cX11_stepError 33 = .ok (.getfield 148, 3) := by decide +kernel
theorem dX11_stepError_36 : decode cX11_stepError 36 = .ok (.if_icmp .ge 7, 3) := by decide +kernel
theorem dX11_stepError_39 : decode cX11_stepError 39 = .ok (.iconst 0, 1) := by decide +kernel
theorem dX11_stepError_40 : decode cX11_stepError 40 = .ok (.goto 5, 3) := by decide +kernel
theorem dX11_stepError_43 : decode cX11_stepError 43 = .ok (.bipush (-2), 2) := by decide +kernel
theorem dX11_stepError_45 : decode cX11_stepError 45 = .ok (.ireturn, 1) := by decide +kernel
theorem dX11_addDegreeTest_0 : decode cX11_addDegreeTest 0 = .ok (.iload_n 1, 1) := by decide +kernel
theorem dX11_addDegreeTest_1 : decode cX11_addDegreeTest 1 = .ok (.invokestatic 204, 3) := by decide +kernel
theorem dX11_addDegreeTest_4 : decode cX11_addDegreeTest 4 = .ok (.ifCond .eq 16, 3) := by decide +kernel
theorem dX11_addDegreeTest_7 : decode cX11_addDegreeTest 7 = .ok (.aload_n 0, 1) := by decide +kernel
theorem dX11_addDegreeTest_8 : decode cX11_addDegreeTest 8 = .ok (.getfield 46, 3) := by decide +kernel
theorem dX11_addDegreeTest_11 : decode cX11_addDegreeTest 11 = .ok (.iconst 0, 1) := by decide +kernel
theorem dX11_addDegreeTest_12 : decode cX11_addDegreeTest 12 = .ok (.iload_n 1, 1) := by decide +kernel
theorem dX11_addDegreeTest_13 : decode cX11_addDegreeTest 13 = .ok (.iconst 0, 1) := by decide +kernel
theorem dX11_addDegreeTest_14 : decode cX11_addDegreeTest 14 = .ok (.invokevirtual 239, 3) := by decide +kernel
theorem dX11_addDegreeTest_17 : decode cX11_addDegreeTest 17 = .ok (.goto 4, 3) := by decide +kernel
theorem dX11_addDegreeTest_20 : decode cX11_addDegreeTest 20 = .ok (.iconst (-1), 1) := by decide +kernel
theorem dX11_addDegreeTest_21 : decode cX11_addDegreeTest 21 = .ok (.ireturn, 1) := by decide +kernel
theorem dX11_addExponentTest_0 : decode cX11_addExponentTest 0 = .ok (.iload_n 1, 1) := by decide +kernel
theorem dX11_addExponentTest_1 : decode cX11_addExponentTest 1 = .ok (.invokestatic 242, 3) := by decide +kernel
theorem dX11_addExponentTest_4 : decode cX11_addExponentTest 4 = .ok (.ifCond .eq 12, 3) := by decide +kernel
theorem dX11_addExponentTest_7 : decode cX11_addExponentTest 7 = .ok (.iload_n 2, 1) := by decide +kernel
theorem dX11_addExponentTest_8 : decode cX11_addExponentTest 8 = .ok (.ifCond .lt 8, 3) := by decide +kernel
theorem dX11_addExponentTest_11 : decode cX11_addExponentTest 11 = .ok (.iload_n 2, 1) := by decide +kernel
theorem dX11_addExponentTest_12 : decode cX11_addExponentTest 12 = .ok (.iconst 3, 1) := by decide +kernel
theorem dX11_addExponentTest_13 : decode cX11_addExponentTest 13 = .ok (.if_icmp .le 5, 3) := by decide +kernel
theorem dX11_addExponentTest_16 : decode cX11_addExponentTest 16 = .ok (.iconst (-1), 1) := by decide +kernel
theorem dX11_addExponentTest_17 : decode cX11_addExponentTest 17 = .ok (.ireturn, 1) := by decide +kernel
theorem dX11_addExponentTest_18 : decode cX11_addExponentTest 18 = .ok (.aload_n 0, 1) := by decide +kernel
theorem dX11_addExponentTest_19 : decode cX11_addExponentTest 19 = .ok (.getfield 46, 3) := by decide +kernel
theorem dX11_addExponentTest_22 : decode cX11_addExponentTest 22 = .ok (.iconst 1, 1) := by decide +kernel
theorem dX11_addExponentTest_23 : decode cX11_addExponentTest 23 = .ok (.iload_n 1, 1) := by decide +kernel
theorem dX11_addExponentTest_24 : decode cX11_addExponentTest 24 = .ok (.iload_n 2, 1) := by decide +kernel
theorem dX11_addExponentTest_25 : decode cX11_addExponentTest 25 = .ok (.invokevirtual 239, 3) := by decide +kernel
theorem dX11_addExponentTest_28 : decode cX11_addExponentTest 28 = .ok (.ireturn, 1) := by decide +kernel
theorem dX11_addSquareFreeTest_0 : decode cX11_addSquareFreeTest 0 = .ok (.aload_n 0, 1) := by decide +kernel
theorem dX11_addSquareFreeTest_1 : decode cX11_addSquareFreeTest 1 = .ok (.getfield 46, 3) := by decide +kernel
theorem dX11_addSquareFreeTest_4 : decode cX11_addSquareFreeTest 4 = .ok (.iconst 2, 1) := by decide +kernel
theorem dX11_addSquareFreeTest_5 : decode cX11_addSquareFreeTest 5 = .ok (.iconst 0, 1) := by decide +kernel
theorem dX11_addSquareFreeTest_6 : decode cX11_addSquareFreeTest 6 = .ok (.iconst 0, 1) := by decide +kernel
theorem dX11_addSquareFreeTest_7 : decode cX11_addSquareFreeTest 7 = .ok (.invokevirtual 239, 3) := by decide +kernel
theorem dX11_addSquareFreeTest_10 : decode cX11_addSquareFreeTest 10 = .ok (.ireturn, 1) := by decide +kernel
theorem dX11_addPowerTest_0 : decode cX11_addPowerTest 0 = .ok (.iload_n 1, 1) := by decide +kernel
theorem dX11_addPowerTest_1 : decode cX11_addPowerTest 1 = .ok (.invokestatic 188, 3) := by decide +kernel
theorem dX11_addPowerTest_4 : decode cX11_addPowerTest 4 = .ok (.ifCond .eq 16, 3) := by decide +kernel
theorem dX11_addPowerTest_7 : decode cX11_addPowerTest 7 = .ok (.aload_n 0, 1) := by decide +kernel
theorem dX11_addPowerTest_8 : decode cX11_addPowerTest 8 = .ok (.getfield 46, 3) := by decide +kernel
theorem dX11_addPowerTest_11 : decode cX11_addPowerTest 11 = .ok (.iconst 3, 1) := by decide +kernel
theorem dX11_addPowerTest_12 : decode cX11_addPowerTest 12 = .ok (.iload_n 1, 1) := by decide +kernel
theorem dX11_addPowerTest_13 : decode cX11_addPowerTest 13 = .ok (.iconst 0, 1) := by decide +kernel
theorem dX11_addPowerTest_14 : decode cX11_addPowerTest 14 = .ok (.invokevirtual 239, 3) := by decide +kernel
theorem dX11_addPowerTest_17 : decode cX11_addPowerTest 17 = .ok (.goto 4, 3) := by decide +kernel
theorem dX11_addPowerTest_20 : decode cX11_addPowerTest 20 = .ok (.iconst (-1), 1) := by decide +kernel
theorem dX11_addPowerTest_21 : decode cX11_addPowerTest 21 = .ok (.ireturn, 1) := by decide +kernel
theorem dX11_addSymbolicTest_0 : decode cX11_addSymbolicTest 0 = .ok (.iload_n 1, 1) := by decide +kernel
theorem dX11_addSymbolicTest_1 : decode cX11_addSymbolicTest 1 = .ok (.invokestatic 188, 3) := by decide +kernel
theorem dX11_addSymbolicTest_4 : decode cX11_addSymbolicTest 4 = .ok (.ifCond .eq 16, 3) := by decide +kernel
theorem dX11_addSymbolicTest_7 : decode cX11_addSymbolicTest 7 = .ok (.aload_n 0, 1) := by decide +kernel
theorem dX11_addSymbolicTest_8 : decode cX11_addSymbolicTest 8 = .ok (.getfield 46, 3) := by decide +kernel
theorem dX11_addSymbolicTest_11 : decode cX11_addSymbolicTest 11 = .ok (.iconst 4, 1) := by decide +kernel
theorem dX11_addSymbolicTest_12 : decode cX11_addSymbolicTest 12 = .ok (.iload_n 1, 1) := by decide +kernel
theorem dX11_addSymbolicTest_13 : decode cX11_addSymbolicTest 13 = .ok (.iconst 0, 1) := by decide +kernel
theorem dX11_addSymbolicTest_14 : decode cX11_addSymbolicTest 14 = .ok (.invokevirtual 239, 3) := by decide +kernel
theorem dX11_addSymbolicTest_17 : decode cX11_addSymbolicTest 17 = .ok (.goto 4, 3) := by decide +kernel
theorem dX11_addSymbolicTest_20 : decode cX11_addSymbolicTest 20 = .ok (.iconst (-1), 1) := by decide +kernel
theorem dX11_addSymbolicTest_21 : decode cX11_addSymbolicTest 21 = .ok (.ireturn, 1) := by decide +kernel
theorem dX11_addAndTest_0 : decode cX11_addAndTest 0 = .ok (.aload_n 0, 1) := by decide +kernel
theorem dX11_addAndTest_1 : decode cX11_addAndTest 1 = .ok (.iload_n 1, 1) := by decide +kernel
theorem dX11_addAndTest_2 : decode cX11_addAndTest 2 = .ok (.invokevirtual 245, 3) := by decide +kernel
theorem dX11_addAndTest_5 : decode cX11_addAndTest 5 = .ok (.ifCond .eq 24, 3) := by decide +kernel
theorem dX11_addAndTest_8 : decode cX11_addAndTest 8 = .ok (.aload_n 0, 1) := by decide +kernel
theorem dX11_addAndTest_9 : decode cX11_addAndTest 9 = .ok (.iload_n 2, 1) := by decide +kernel
theorem dX11_addAndTest_10 : decode cX11_addAndTest 10 = .ok (.invokevirtual 245, 3) := by decide +kernel
theorem dX11_addAndTest_13 : decode cX11_addAndTest 13 = .ok (.ifCond .eq 16, 3) := by decide +kernel
theorem dX11_addAndTest_16 : decode cX11_addAndTest 16 = .ok (.aload_n 0, 1) := by decide +kernel
theorem dX11_addAndTest_17 : decode cX11_addAndTest 17 = .ok (.getfield 46, 3) := by decide +kernel
theorem dX11_addAndTest_20 : decode cX11_addAndTest 20 = .ok (.iconst 5, 1) := by decide +kernel
theorem dX11_addAndTest_21 : decode cX11_addAndTest 21 = .ok (.iload_n 1, 1) := by decide +kernel
theorem dX11_addAndTest_22 : decode cX11_addAndTest 22 = .ok (.iload_n 2, 1) := by decide +kernel
theorem dX11_addAndTest_23 : decode cX11_addAndTest 23 = .ok (.invokevirtual 239, 3) := by decide +kernel
theorem dX11_addAndTest_26 : decode cX11_addAndTest 26 = .ok (.goto 4, 3) := by decide +kernel
theorem dX11_addAndTest_29 : decode cX11_addAndTest 29 = .ok (.iconst (-1), 1) := by decide +kernel
theorem dX11_addAndTest_30 : decode cX11_addAndTest 30 = .ok (.ireturn, 1) := by decide +kernel
theorem dX11_addOrTest_0 : decode cX11_addOrTest 0 = .ok (.aload_n 0, 1) := by decide +kernel
theorem dX11_addOrTest_1 : decode cX11_addOrTest 1 = .ok (.iload_n 1, 1) := by decide +kernel
theorem dX11_addOrTest_2 : decode cX11_addOrTest 2 = .ok (.invokevirtual 245, 3) := by decide +kernel
theorem dX11_addOrTest_5 : decode cX11_addOrTest 5 = .ok (.ifCond .eq 25, 3) := by decide +kernel
theorem dX11_addOrTest_8 : decode cX11_addOrTest 8 = .ok (.aload_n 0, 1) := by decide +kernel
theorem dX11_addOrTest_9 : decode cX11_addOrTest 9 = .ok (.iload_n 2, 1) := by decide +kernel
theorem dX11_addOrTest_10 : decode cX11_addOrTest 10 = .ok (.invokevirtual 245, 3) := by decide +kernel
theorem dX11_addOrTest_13 : decode cX11_addOrTest 13 = .ok (.ifCond .eq 17, 3) := by decide +kernel
theorem dX11_addOrTest_16 : decode cX11_addOrTest 16 = .ok (.aload_n 0, 1) := by decide +kernel
theorem dX11_addOrTest_17 : decode cX11_addOrTest 17 = .ok (.getfield 46, 3) := by decide +kernel
theorem dX11_addOrTest_20 : decode cX11_addOrTest 20 = .ok (.bipush 6, 2) := by decide +kernel
theorem dX11_addOrTest_22 : decode cX11_addOrTest 22 = .ok (.iload_n 1, 1) := by decide +kernel
theorem dX11_addOrTest_23 : decode cX11_addOrTest 23 = .ok (.iload_n 2, 1) := by decide +kernel
theorem dX11_addOrTest_24 : decode cX11_addOrTest 24 = .ok (.invokevirtual 239, 3) := by decide +kernel
theorem dX11_addOrTest_27 : decode cX11_addOrTest 27 = .ok (.goto 4, 3) := by decide +kernel
theorem dX11_addOrTest_30 : decode cX11_addOrTest 30 = .ok (.iconst (-1), 1) := by decide +kernel
theorem dX11_addOrTest_31 : decode cX11_addOrTest 31 = .ok (.ireturn, 1) := by decide +kernel
theorem dX11_addNotTest_0 : decode cX11_addNotTest 0 = .ok (.aload_n 0, 1) := by decide +kernel
theorem dX11_addNotTest_1 : decode cX11_addNotTest 1 = .ok (.iload_n 1, 1) := by decide +kernel
theorem dX11_addNotTest_2 : decode cX11_addNotTest 2 = .ok (.invokevirtual 245, 3) := by decide +kernel
theorem dX11_addNotTest_5 : decode cX11_addNotTest 5 = .ok (.ifCond .eq 17, 3) := by decide +kernel
theorem dX11_addNotTest_8 : decode cX11_addNotTest 8 = .ok (.aload_n 0, 1) := by decide +kernel
theorem dX11_addNotTest_9 : decode cX11_addNotTest 9 = .ok (.getfield 46, 3) := by decide +kernel
theorem dX11_addNotTest_12 : decode cX11_addNotTest 12 = .ok (.bipush 7, 2) := by decide +kernel
theorem dX11_addNotTest_14 : decode cX11_addNotTest 14 = .ok (.iload_n 1, 1) := by decide +kernel
theorem dX11_addNotTest_15 : decode cX11_addNotTest 15 = .ok (.iload_n 1, 1) := by decide +kernel
theorem dX11_addNotTest_16 : decode cX11_addNotTest 16 = .ok (.invokevirtual 239, 3) := by decide +kernel
theorem dX11_addNotTest_19 : decode cX11_addNotTest 19 = .ok (.goto 4, 3) := by decide +kernel
theorem dX11_addNotTest_22 : decode cX11_addNotTest 22 = .ok (.iconst (-1), 1) := by decide +kernel
theorem dX11_addNotTest_23 : decode cX11_addNotTest 23 = .ok (.ireturn, 1) := by decide +kernel
theorem dX11_testCount_0 : decode cX11_testCount 0 = .ok (.aload_n 0, 1) := by decide +kernel
theorem dX11_testCount_1 : decode cX11_testCount 1 = .ok (.getfield 46, 3) := by decide +kernel
theorem dX11_testCount_4 : decode cX11_testCount 4 = .ok (.getfield 248, 3) := by decide +kernel
theorem dX11_testCount_7 : decode cX11_testCount 7 = .ok (.ireturn, 1) := by decide +kernel
theorem dX11_passes_0 : decode cX11_passes 0 = .ok (.aload_n 0, 1) := by decide +kernel
theorem dX11_passes_1 : decode cX11_passes 1 = .ok (.iload_n 1, 1) := by decide +kernel
theorem dX11_passes_2 : decode cX11_passes 2 = .ok (.invokevirtual 245, 3) := by decide +kernel
theorem dX11_passes_5 : decode cX11_passes 5 = .ok (.ifCond .eq 11, 3) := by decide +kernel
theorem dX11_passes_8 : decode cX11_passes 8 = .ok (.aload_n 0, 1) := by decide +kernel
theorem dX11_passes_9 : decode cX11_passes 9 = .ok (.iload_n 2, 1) := by decide +kernel
theorem dX11_passes_10 : decode cX11_passes 10 = .ok (.invokevirtual 168, 3) := by decide +kernel
theorem dX11_passes_13 : decode cX11_passes 13 = .ok (.ifCond .ne 5, 3) := by decide +kernel
theorem dX11_passes_16 : decode cX11_passes 16 = .ok (.iconst (-1), 1) := by decide +kernel
theorem dX11_passes_17 : decode cX11_passes 17 = .ok (.ireturn, 1) := by decide +kernel
theorem dX11_passes_18 : decode cX11_passes 18 = .ok (.aload_n 0, 1) := by decide +kernel
theorem dX11_passes_19 : decode cX11_passes 19 = .ok (.getfield 46, 3) := by decide +kernel
theorem dX11_passes_22 : decode cX11_passes 22 = .ok (.iload_n 1, 1) := by decide +kernel
theorem dX11_passes_23 : decode cX11_passes 23 = .ok (.iload_n 2, 1) := by decide +kernel
theorem dX11_passes_24 : decode cX11_passes 24 = .ok (.aload_n 0, 1) := by decide +kernel
theorem dX11_passes_25 : decode cX11_passes 25 = .ok (.getfield 23, 3) := by decide +kernel
theorem dX11_passes_28 : decode cX11_passes 28 = .ok (.invokevirtual 249, 3) := by decide +kernel
theorem dX11_passes_31 : decode cX11_passes 31 = .ok (.ifCond .eq 7, 3) := by decide +kernel
theorem dX11_passes_34 : decode cX11_passes 34 = .ok (.iconst 1, 1) := by decide +kernel
theorem dX11_passes_35 : decode cX11_passes 35 = .ok (.goto 4, 3) := by decide +kernel
theorem dX11_passes_38 : decode cX11_passes 38 = .ok (.iconst 0, 1) := by decide +kernel
theorem dX11_passes_39 : decode cX11_passes 39 = .ok (.ireturn, 1) := by decide +kernel
theorem dX11_passCount_0 : decode cX11_passCount 0 = .ok (.aload_n 0, 1) := by decide +kernel
theorem dX11_passCount_1 : decode cX11_passCount 1 = .ok (.iload_n 1, 1) := by decide +kernel
theorem dX11_passCount_2 : decode cX11_passCount 2 = .ok (.invokevirtual 245, 3) := by decide +kernel
theorem dX11_passCount_5 : decode cX11_passCount 5 = .ok (.ifCond .ne 5, 3) := by decide +kernel
theorem dX11_passCount_8 : decode cX11_passCount 8 = .ok (.iconst (-1), 1) := by decide +kernel
theorem dX11_passCount_9 : decode cX11_passCount 9 = .ok (.ireturn, 1) := by decide +kernel
theorem dX11_passCount_10 : decode cX11_passCount 10 = .ok (.iconst 0, 1) := by decide +kernel
theorem dX11_passCount_11 : decode cX11_passCount 11 = .ok (.istore_n 2, 1) := by decide +kernel
theorem dX11_passCount_12 : decode cX11_passCount 12 = .ok (.aload_n 0, 1) := by decide +kernel
theorem dX11_passCount_13 : decode cX11_passCount 13 = .ok (.getfield 14, 3) := by decide +kernel
theorem dX11_passCount_16 : decode cX11_passCount 16 = .ok (.invokevirtual 137, 3) := by decide +kernel
theorem dX11_passCount_19 : decode cX11_passCount 19 = .ok (.istore_n 3, 1) := by decide +kernel
theorem dX11_passCount_20 : decode cX11_passCount 20 = .ok (.iconst 0, 1) := by decide +kernel
theorem dX11_passCount_21 : decode cX11_passCount 21 = .ok (.istore 4, 2) := by decide +kernel
theorem dX11_passCount_23 : decode cX11_passCount 23 = .ok (.iload 4, 2) := by decide +kernel
theorem dX11_passCount_25 : decode cX11_passCount 25 = .ok (.iload_n 3, 1) := by decide +kernel
theorem dX11_passCount_26 : decode cX11_passCount 26 = .ok (.if_icmp .gt 29, 3) := by decide +kernel
theorem dX11_passCount_29 : decode cX11_passCount 29 = .ok (.aload_n 0, 1) := by decide +kernel
theorem dX11_passCount_30 : decode cX11_passCount 30 = .ok (.getfield 46, 3) := by decide +kernel
theorem dX11_passCount_33 : decode cX11_passCount 33 = .ok (.iload_n 1, 1) := by decide +kernel
theorem dX11_passCount_34 : decode cX11_passCount 34 = .ok (.iload 4, 2) := by decide +kernel
theorem dX11_passCount_36 : decode cX11_passCount 36 = .ok (.aload_n 0, 1) := by decide +kernel
theorem dX11_passCount_37 : decode cX11_passCount 37 = .ok (.getfield 23, 3) := by decide +kernel
theorem dX11_passCount_40 : decode cX11_passCount 40 = .ok (.invokevirtual 249, 3) := by decide +kernel
theorem dX11_passCount_43 : decode cX11_passCount 43 = .ok (.ifCond .eq 6, 3) := by decide +kernel
theorem dX11_passCount_46 : decode cX11_passCount 46 = .ok (.iinc 2 1, 3) := by decide +kernel
theorem dX11_passCount_49 : decode cX11_passCount 49 = .ok (.iinc 4 1, 3) := by decide +kernel
theorem dX11_passCount_52 : decode cX11_passCount 52 = .ok (.goto (-29), 3) := by decide +kernel
theorem dX11_passCount_55 : decode cX11_passCount 55 = .ok (.iload_n 2, 1) := by decide +kernel
theorem dX11_passCount_56 : decode cX11_passCount 56 = .ok (.ireturn, 1) := by decide +kernel
theorem dX11_passing_0 : decode cX11_passing 0 = .ok (.aload_n 0, 1) := by decide +kernel
theorem dX11_passing_1 : decode cX11_passing 1 = .ok (.iload_n 1, 1) := by decide +kernel
theorem dX11_passing_2 : decode cX11_passing 2 = .ok (.invokevirtual 245, 3) := by decide +kernel
theorem dX11_passing_5 : decode cX11_passing 5 = .ok (.ifCond .eq 7, 3) := by decide +kernel
theorem dX11_passing_8 : decode cX11_passing 8 = .ok (.iload_n 2, 1) := by decide +kernel
theorem dX11_passing_9 : decode cX11_passing 9 = .ok (.ifCond .ge 5, 3) := by decide +kernel
theorem dX11_passing_12 : decode cX11_passing 12 = .ok (.iconst (-1), 1) := by decide +kernel
theorem dX11_passing_13 : decode cX11_passing 13 = .ok (.ireturn, 1) := by decide +kernel
theorem dX11_passing_14 : decode cX11_passing 14 = .ok (.iconst 0, 1) := by decide +kernel
theorem dX11_passing_15 : decode cX11_passing 15 = .ok (.istore_n 3, 1) := by decide +kernel
theorem dX11_passing_16 : decode cX11_passing 16 = .ok (.aload_n 0, 1) := by decide +kernel
theorem dX11_passing_17 : decode cX11_passing 17 = .ok (.getfield 14, 3) := by decide +kernel
theorem dX11_passing_20 : decode cX11_passing 20 = .ok (.invokevirtual 137, 3) := by decide +kernel
theorem dX11_passing_23 : decode cX11_passing 23 = .ok (.istore 4, 2) := by decide +kernel
theorem dX11_passing_25 : decode cX11_passing 25 = .ok (.iconst 0, 1) := by decide +kernel
theorem dX11_passing_26 : decode cX11_passing 26 = .ok (.istore 5, 2) := by decide +kernel
theorem dX11_passing_28 : decode cX11_passing 28 = .ok (.iload 5, 2) := by decide +kernel
theorem dX11_passing_30 : decode cX11_passing 30 = .ok (.iload 4, 2) := by decide +kernel
theorem dX11_passing_32 : decode cX11_passing 32 = .ok (.if_icmp .gt 37, 3) := by decide +kernel
theorem dX11_passing_35 : decode cX11_passing 35 = .ok (.aload_n 0, 1) := by decide +kernel
theorem dX11_passing_36 : decode cX11_passing 36 = .ok (.getfield 46, 3) := by decide +kernel
theorem dX11_passing_39 : decode cX11_passing 39 = .ok (.iload_n 1, 1) := by decide +kernel
theorem dX11_passing_40 : decode cX11_passing 40 = .ok (.iload 5, 2) := by decide +kernel
theorem dX11_passing_42 : decode cX11_passing 42 = .ok (.aload_n 0, 1) := by decide +kernel
theorem dX11_passing_43 : decode cX11_passing 43 = .ok (.getfield 23, 3) := by decide +kernel
theorem dX11_passing_46 : decode cX11_passing 46 = .ok (.invokevirtual 249, 3) := by decide +kernel
theorem dX11_passing_49 : decode cX11_passing 49 = .ok (.ifCond .eq 14, 3) := by decide +kernel
theorem dX11_passing_52 : decode cX11_passing 52 = .ok (.iload_n 3, 1) := by decide +kernel
theorem dX11_passing_53 : decode cX11_passing 53 = .ok (.iload_n 2, 1) := by decide +kernel
theorem dX11_passing_54 : decode cX11_passing 54 = .ok (.if_icmp .ne 6, 3) := by decide +kernel
theorem dX11_passing_57 : decode cX11_passing 57 = .ok (.iload 5, 2) := by decide +kernel
theorem dX11_passing_59 : decode cX11_passing 59 = .ok (.ireturn, 1) := by decide +kernel
theorem dX11_passing_60 : decode cX11_passing 60 = .ok (.iinc 3 1, 3) := by decide +kernel
theorem dX11_passing_63 : decode cX11_passing 63 = .ok (.iinc 5 1, 3) := by decide +kernel
theorem dX11_passing_66 : decode cX11_passing 66 = .ok (.goto (-38), 3) := by decide +kernel
theorem dX11_passing_69 : decode cX11_passing 69 = .ok (.bipush (-2), 2) := by decide +kernel
theorem dX11_passing_71 : decode cX11_passing 71 = .ok (.ireturn, 1) := by decide +kernel
theorem dX11_append_0 : decode cX11_append 0 = .ok (.aload_n 0, 1) := by decide +kernel
theorem dX11_append_1 : decode cX11_append 1 = .ok (.iload_n 1, 1) := by decide +kernel
theorem dX11_append_2 : decode cX11_append 2 = .ok (.invokevirtual 168, 3) := by decide +kernel
theorem dX11_append_5 : decode cX11_append 5 = .ok (.ifCond .ne 5, 3) := by decide +kernel
theorem dX11_append_8 : decode cX11_append 8 = .ok (.iconst (-1), 1) := by decide +kernel
theorem dX11_append_9 : decode cX11_append 9 = .ok (.ireturn, 1) := by decide +kernel
theorem dX11_append_10 : decode cX11_append 10 = .ok (.aload_n 0, 1) := by decide +kernel
theorem dX11_append_11 : decode cX11_append 11 = .ok (.getfield 53, 3) := by decide +kernel
theorem dX11_append_14 : decode cX11_append 14 = .ok (.getfield 253, 3) := by decide +kernel
theorem dX11_append_17 : decode cX11_append 17 = .ok (.iload_n 1, 1) := by decide +kernel
theorem dX11_append_18 : decode cX11_append 18 = .ok (.invokevirtual 256, 3) := by decide +kernel
theorem dX11_append_21 : decode cX11_append 21 = .ok (.ifCond .eq 16, 3) := by decide +kernel
theorem dX11_append_24 : decode cX11_append 24 = .ok (.aload_n 0, 1) := by decide +kernel
theorem dX11_append_25 : decode cX11_append 25 = .ok (.getfield 53, 3) := by decide +kernel
theorem dX11_append_28 : decode cX11_append 28 = .ok (.getfield 253, 3) := by decide +kernel
theorem dX11_append_31 : decode cX11_append 31 = .ok (.getfield 148, 3) := by decide +kernel
theorem dX11_append_34 : decode cX11_append 34 = .ok (.goto 5, 3) := by decide +kernel
theorem dX11_append_37 : decode cX11_append 37 = .ok (.bipush (-3), 2) := by decide +kernel
theorem dX11_append_39 : decode cX11_append 39 = .ok (.ireturn, 1) := by decide +kernel
theorem dX11_fillWithGenerators_0 : decode cX11_fillWithGenerators 0 = .ok (.iload_n 1, 1) := by decide +kernel
theorem dX11_fillWithGenerators_1 : decode cX11_fillWithGenerators 1 = .ok (.invokestatic 188, 3) := by decide +kernel
theorem dX11_fillWithGenerators_4 : decode cX11_fillWithGenerators 4 = .ok (.ifCond .eq 18, 3) := by decide +kernel
theorem dX11_fillWithGenerators_7 : decode cX11_fillWithGenerators 7 = .ok (.aload_n 0, 1) := by decide +kernel
theorem dX11_fillWithGenerators_8 : decode cX11_fillWithGenerators 8 = .ok (.aload_n 0, 1) := by decide +kernel
theorem dX11_fillWithGenerators_9 : decode cX11_fillWithGenerators 9 = .ok (.getfield 23, 3) := by decide +kernel
theorem dX11_fillWithGenerators_12 : decode cX11_fillWithGenerators 12 = .ok (.iload_n 1, 1) := by decide +kernel
theorem dX11_fillWithGenerators_13 : decode cX11_fillWithGenerators 13 = .ok (.invokevirtual 191, 3) := by decide +kernel
theorem dX11_fillWithGenerators_16 : decode cX11_fillWithGenerators 16 = .ok (.invokevirtual 258, 3) := by decide +kernel
theorem dX11_fillWithGenerators_19 : decode cX11_fillWithGenerators 19 = .ok (.goto 4, 3) := by decide +kernel
theorem dX11_fillWithGenerators_22 : decode cX11_fillWithGenerators 22 = .ok (.iconst (-1), 1) := by decide +kernel
theorem dX11_fillWithGenerators_23 : decode cX11_fillWithGenerators 23 = .ok (.ireturn, 1) := by decide +kernel
theorem dX11_fillWithSymbolicGenerators_0 : decode cX11_fillWithSymbolicGenerators 0 = .ok (.iload_n 1, 1) := by decide +kernel
theorem dX11_fillWithSymbolicGenerators_1 : decode cX11_fillWithSymbolicGenerators 1 = .ok (.invokestatic 188, 3) := by decide +kernel
theorem dX11_fillWithSymbolicGenerators_4 : decode cX11_fillWithSymbolicGenerators 4 = .ok (.ifCond .eq 18, 3) := by decide +kernel
theorem dX11_fillWithSymbolicGenerators_7 : decode cX11_fillWithSymbolicGenerators 7 = .ok (.aload_n 0, 1) := by decide +kernel
theorem dX11_fillWithSymbolicGenerators_8 : decode cX11_fillWithSymbolicGenerators 8 = .ok (.aload_n 0, 1) := by decide +kernel
theorem dX11_fillWithSymbolicGenerators_9 : decode cX11_fillWithSymbolicGenerators 9 = .ok (.getfield 23, 3) := by decide +kernel
theorem dX11_fillWithSymbolicGenerators_12 : decode cX11_fillWithSymbolicGenerators 12 = .ok (.iload_n 1, 1) := by decide +kernel
theorem dX11_fillWithSymbolicGenerators_13 : decode cX11_fillWithSymbolicGenerators 13 = .ok (.invokevirtual 194, 3) := by decide +kernel
theorem dX11_fillWithSymbolicGenerators_16 : decode cX11_fillWithSymbolicGenerators 16 = .ok (.invokevirtual 258, 3) := by decide +kernel
theorem dX11_fillWithSymbolicGenerators_19 : decode cX11_fillWithSymbolicGenerators 19 = .ok (.goto 4, 3) := by decide +kernel
theorem dX11_fillWithSymbolicGenerators_22 : decode cX11_fillWithSymbolicGenerators 22 = .ok (.iconst (-1), 1) := by decide +kernel
theorem dX11_fillWithSymbolicGenerators_23 : decode cX11_fillWithSymbolicGenerators 23 = .ok (.ireturn, 1) := by decide +kernel
theorem dX11_listSize_0 : decode cX11_listSize 0 = .ok (.aload_n 0, 1) := by decide +kernel
theorem dX11_listSize_1 : decode cX11_listSize 1 = .ok (.getfield 53, 3) := by decide +kernel
theorem dX11_listSize_4 : decode cX11_listSize 4 = .ok (.getfield 253, 3) := by decide +kernel
theorem dX11_listSize_7 : decode cX11_listSize 7 = .ok (.getfield 148, 3) := by decide +kernel
theorem dX11_listSize_10 : decode cX11_listSize 10 = .ok (.ireturn, 1) := by decide +kernel
theorem dX11_element_0 : decode cX11_element 0 = .ok (.aload_n 0, 1) := by decide +kernel
theorem dX11_element_1 : decode cX11_element 1 = .ok (.getfield 53, 3) := by decide +kernel
theorem dX11_element_4 : decode cX11_element 4 = .ok (.getfield 253, 3) := by decide +kernel
theorem dX11_element_7 : decode cX11_element 7 = .ok (.iload_n 1, 1) := by decide +kernel
theorem dX11_element_8 : decode cX11_element 8 = .ok (.invokestatic 151, 3) := by decide +kernel
theorem dX11_element_11 : decode cX11_element 11 = .ok (.ireturn, 1) := by decide +kernel
theorem dX11_clearList_0 : decode cX11_clearList 0 = .ok (.aload_n 0, 1) := by decide +kernel
theorem dX11_clearList_1 : decode cX11_clearList 1 = .ok (.getfield 53, 3) := by decide +kernel
theorem dX11_clearList_4 : decode cX11_clearList 4 = .ok (.getfield 253, 3) := by decide +kernel
theorem dX11_clearList_7 : decode cX11_clearList 7 = .ok (.getfield 148, 3) := by decide +kernel
theorem dX11_clearList_10 : decode cX11_clearList 10 = .ok (.istore_n 1, 1) := by decide +kernel
theorem dX11_clearList_11 : decode cX11_clearList 11 = .ok (.aload_n 0, 1) := by decide +kernel
theorem dX11_clearList_12 : decode cX11_clearList 12 = .ok (.getfield 53, 3) := by decide +kernel
theorem dX11_clearList_15 : decode cX11_clearList 15 = .ok (.getfield 253, 3) := by decide +kernel
theorem dX11_clearList_18 : decode cX11_clearList 18 = .ok (.iconst 0, 1) := by decide +kernel
theorem dX11_clearList_19 : decode cX11_clearList 19 = .ok (.putfield 148, 3) := by decide +kernel
theorem dX11_clearList_22 : decode cX11_clearList 22 = .ok (.iload_n 1, 1) := by decide +kernel
theorem dX11_clearList_23 : decode cX11_clearList 23 = .ok (.ireturn, 1) := by decide +kernel
theorem dX11_minimizeList_0 : decode cX11_minimizeList 0 = .ok (.aload_n 0, 1) := by decide +kernel
theorem dX11_minimizeList_1 : decode cX11_minimizeList 1 = .ok (.getfield 53, 3) := by decide +kernel
theorem dX11_minimizeList_4 : decode cX11_minimizeList 4 = .ok (.invokevirtual 261, 3) := by decide +kernel
theorem dX11_minimizeList_7 : decode cX11_minimizeList 7 = .ok (.aload_n 0, 1) := by decide +kernel
theorem dX11_minimizeList_8 : decode cX11_minimizeList 8 = .ok (.getfield 53, 3) := by decide +kernel
theorem dX11_minimizeList_11 : decode cX11_minimizeList 11 = .ok (.getfield 253, 3) := by decide +kernel
theorem dX11_minimizeList_14 : decode cX11_minimizeList 14 = .ok (.getfield 148, 3) := by decide +kernel
theorem dX11_minimizeList_17 : decode cX11_minimizeList 17 = .ok (.ireturn, 1) := by decide +kernel
theorem dX11_divideListBy_0 : decode cX11_divideListBy 0 = .ok (.iload_n 1, 1) := by decide +kernel
theorem dX11_divideListBy_1 : decode cX11_divideListBy 1 = .ok (.invokestatic 242, 3) := by decide +kernel
theorem dX11_divideListBy_4 : decode cX11_divideListBy 4 = .ok (.ifCond .ne 5, 3) := by decide +kernel
theorem dX11_divideListBy_7 : decode cX11_divideListBy 7 = .ok (.iconst (-1), 1) := by decide +kernel
theorem dX11_divideListBy_8 : decode cX11_divideListBy 8 = .ok (.ireturn, 1) := by decide +kernel
theorem dX11_divideListBy_9 : decode cX11_divideListBy 9 = .ok (.aload_n 0, 1) := by decide +kernel
theorem dX11_divideListBy_10 : decode cX11_divideListBy 10 = .ok (.getfield 53, 3) := by decide +kernel
theorem dX11_divideListBy_13 : decode cX11_divideListBy 13 = .ok (.iload_n 1, 1) := by decide +kernel
theorem dX11_divideListBy_14 : decode cX11_divideListBy 14 = .ok (.invokevirtual 264, 3) := by decide +kernel
theorem dX11_divideListBy_17 : decode cX11_divideListBy 17 = .ok (.aload_n 0, 1) := by decide +kernel
theorem dX11_divideListBy_18 : decode cX11_divideListBy 18 = .ok (.getfield 53, 3) := by decide +kernel
theorem dX11_divideListBy_21 : decode cX11_divideListBy 21 = .ok (.invokevirtual 261, 3) := by decide +kernel
theorem dX11_divideListBy_24 : decode cX11_divideListBy 24 = .ok (.aload_n 0, 1) := by decide +kernel
theorem dX11_divideListBy_25 : decode cX11_divideListBy 25 = .ok (.getfield 53, 3) := by decide +kernel
theorem dX11_divideListBy_28 : decode cX11_divideListBy 28 = .ok (.getfield 253, 3) := by decide +kernel
theorem dX11_divideListBy_31 : decode cX11_divideListBy 31 = .ok (.getfield 148, 3) := by decide +kernel
theorem dX11_divideListBy_34 : decode cX11_divideListBy 34 = .ok (.ireturn, 1) := by decide +kernel
theorem dX11_reverseList_0 : decode cX11_reverseList 0 = .ok (.aload_n 0, 1) := by decide +kernel
theorem dX11_reverseList_1 : decode cX11_reverseList 1 = .ok (.getfield 53, 3) := by decide +kernel
theorem dX11_reverseList_4 : decode cX11_reverseList 4 = .ok (.invokevirtual 268, 3) := by decide +kernel
theorem dX11_reverseList_7 : decode cX11_reverseList 7 = .ok (.aload_n 0, 1) := by decide +kernel
theorem dX11_reverseList_8 : decode cX11_reverseList 8 = .ok (.getfield 53, 3) := by decide +kernel
theorem dX11_reverseList_11 : decode cX11_reverseList 11 = .ok (.getfield 253, 3) := by decide +kernel
theorem dX11_reverseList_14 : decode cX11_reverseList 14 = .ok (.getfield 148, 3) := by decide +kernel
theorem dX11_reverseList_17 : decode cX11_reverseList 17 = .ok (.ireturn, 1) := by decide +kernel
theorem dX11_rotateList_0 : decode cX11_rotateList 0 = .ok (.iload_n 1, 1) := by decide +kernel
theorem dX11_rotateList_1 : decode cX11_rotateList 1 = .ok (.ifCond .lt 9, 3) := by decide +kernel
theorem dX11_rotateList_4 : decode cX11_rotateList 4 = .ok (.iload_n 1, 1) := by decide +kernel
theorem dX11_rotateList_5 : decode cX11_rotateList 5 = .ok (.bipush 24, 2) := by decide +kernel
theorem dX11_rotateList_7 : decode cX11_rotateList 7 = .ok (.if_icmp .le 5, 3) := by decide +kernel
theorem dX11_rotateList_10 : decode cX11_rotateList 10 = .ok (.iconst (-1), 1) := by decide +kernel
theorem dX11_rotateList_11 : decode cX11_rotateList 11 = .ok (.ireturn, 1) := by decide +kernel
theorem dX11_rotateList_12 : decode cX11_rotateList 12 = .ok (.aload_n 0, 1) := by decide +kernel
theorem dX11_rotateList_13 : decode cX11_rotateList 13 = .ok (.getfield 53, 3) := by decide +kernel
theorem dX11_rotateList_16 : decode cX11_rotateList 16 = .ok (.iload_n 1, 1) := by decide +kernel
theorem dX11_rotateList_17 : decode cX11_rotateList 17 = .ok (.invokevirtual 271, 3) := by decide +kernel
theorem dX11_rotateList_20 : decode cX11_rotateList 20 = .ok (.aload_n 0, 1) := by decide +kernel
theorem dX11_rotateList_21 : decode cX11_rotateList 21 = .ok (.getfield 53, 3) := by decide +kernel
theorem dX11_rotateList_24 : decode cX11_rotateList 24 = .ok (.getfield 253, 3) := by decide +kernel
theorem dX11_rotateList_27 : decode cX11_rotateList 27 = .ok (.getfield 148, 3) := by decide +kernel
theorem dX11_rotateList_30 : decode cX11_rotateList 30 = .ok (.ireturn, 1) := by decide +kernel
theorem dX11_swapElements_0 : decode cX11_swapElements 0 = .ok (.aload_n 0, 1) := by decide +kernel
theorem dX11_swapElements_1 : decode cX11_swapElements 1 = .ok (.getfield 53, 3) := by decide +kernel
theorem dX11_swapElements_4 : decode cX11_swapElements 4 = .ok (.getfield 253, 3) := by decide +kernel
theorem dX11_swapElements_7 : decode cX11_swapElements 7 = .ok (.iload_n 1, 1) := by decide +kernel
theorem dX11_swapElements_8 : decode cX11_swapElements 8 = .ok (.invokevirtual 274, 3) := by decide +kernel
theorem dX11_swapElements_11 : decode cX11_swapElements 11 = .ok (.ifCond .eq 17, 3) := by decide +kernel
theorem dX11_swapElements_14 : decode cX11_swapElements 14 = .ok (.aload_n 0, 1) := by decide +kernel
theorem dX11_swapElements_15 : decode cX11_swapElements 15 = .ok (.getfield 53, 3) := by decide +kernel
theorem dX11_swapElements_18 : decode cX11_swapElements 18 = .ok (.getfield 253, 3) := by decide +kernel
theorem dX11_swapElements_21 : decode cX11_swapElements 21 = .ok (.iload_n 2, 1) := by decide +kernel
theorem dX11_swapElements_22 : decode cX11_swapElements 22 = .ok (.invokevirtual 274, 3) := by decide +kernel
theorem dX11_swapElements_25 : decode cX11_swapElements 25 = .ok (.ifCond .ne 6, 3) := by decide +kernel
theorem dX11_swapElements_28 : decode cX11_swapElements 28 = .ok (.bipush (-2), 2) := by decide +kernel
theorem dX11_swapElements_30 : decode cX11_swapElements 30 = .ok (.ireturn, 1) := by decide +kernel
theorem dX11_swapElements_31 : decode cX11_swapElements 31 = .ok (.aload_n 0, 1) := by decide +kernel
theorem dX11_swapElements_32 : decode cX11_swapElements 32 = .ok (.getfield 53, 3) := by decide +kernel
theorem dX11_swapElements_35 : decode cX11_swapElements 35 = .ok (.iload_n 1, 1) := by decide +kernel
theorem dX11_swapElements_36 : decode cX11_swapElements 36 = .ok (.iload_n 2, 1) := by decide +kernel
theorem dX11_swapElements_37 : decode cX11_swapElements 37 = .ok (.invokevirtual 277, 3) := by decide +kernel
theorem dX11_swapElements_40 : decode cX11_swapElements 40 = .ok (.aload_n 0, 1) := by decide +kernel
theorem dX11_swapElements_41 : decode cX11_swapElements 41 = .ok (.getfield 53, 3) := by decide +kernel
theorem dX11_swapElements_44 : decode cX11_swapElements 44 = .ok (.getfield 253, 3) := by decide +kernel
theorem dX11_swapElements_47 : decode cX11_swapElements 47 = .ok (.getfield 148, 3) := by decide +kernel
theorem dX11_swapElements_50 : decode cX11_swapElements 50 = .ok (.ireturn, 1) := by decide +kernel
theorem dX11_indexOfDivisor_0 : decode cX11_indexOfDivisor 0 = .ok (.aload_n 0, 1) := by decide +kernel
theorem dX11_indexOfDivisor_1 : decode cX11_indexOfDivisor 1 = .ok (.iload_n 1, 1) := by decide +kernel
theorem dX11_indexOfDivisor_2 : decode cX11_indexOfDivisor 2 = .ok (.invokevirtual 168, 3) := by decide +kernel
theorem dX11_indexOfDivisor_5 : decode cX11_indexOfDivisor 5 = .ok (.ifCond .eq 14, 3) := by decide +kernel
theorem dX11_indexOfDivisor_8 : decode cX11_indexOfDivisor 8 = .ok (.aload_n 0, 1) := by decide +kernel
theorem dX11_indexOfDivisor_9 : decode cX11_indexOfDivisor 9 = .ok (.getfield 53, 3) := by decide +kernel
theorem dX11_indexOfDivisor_12 : decode cX11_indexOfDivisor 12 = .ok (.iload_n 1, 1) := by decide +kernel
theorem dX11_indexOfDivisor_13 : decode cX11_indexOfDivisor 13 = .ok (.invokevirtual 281, 3) := by decide +kernel
theorem dX11_indexOfDivisor_16 : decode cX11_indexOfDivisor 16 = .ok (.goto 4, 3) := by decide +kernel
theorem dX11_indexOfDivisor_19 : decode cX11_indexOfDivisor 19 = .ok (.iconst (-1), 1) := by decide +kernel
theorem dX11_indexOfDivisor_20 : decode cX11_indexOfDivisor 20 = .ok (.ireturn, 1) := by decide +kernel
theorem dX11_polarizedVariableCount_0 : decode cX11_polarizedVariableCount 0 = .ok (.aload_n 0, 1) := by decide +kernel
theorem dX11_polarizedVariableCount_1 : decode cX11_polarizedVariableCount 1 = .ok (.getfield 53, 3) := by decide +kernel
theorem dX11_polarizedVariableCount_4 : decode cX11_polarizedVariableCount 4 = .ok (.invokevirtual 284, 3) := by decide +kernel
theorem dX11_polarizedVariableCount_7 : decode cX11_polarizedVariableCount 7 = .ok (.ireturn, 1) := by decide +kernel
theorem dX11_polarized_0 : decode cX11_polarized 0 = .ok (.iload_n 1, 1) := by decide +kernel
theorem dX11_polarized_1 : decode cX11_polarized 1 = .ok (.ifCond .ge 5, 3) := by decide +kernel
theorem dX11_polarized_4 : decode cX11_polarized 4 = .ok (.iconst (-1), 1) := by decide +kernel
theorem dX11_polarized_5 : decode cX11_polarized 5 = .ok (.ireturn, 1) := by decide +kernel
theorem dX11_polarized_6 : decode cX11_polarized 6 = .ok (.aload_n 0, 1) := by decide +kernel
theorem dX11_polarized_7 : decode cX11_polarized 7 = .ok (.getfield 53, 3) := by decide +kernel
theorem dX11_polarized_10 : decode cX11_polarized 10 = .ok (.getfield 253, 3) := by decide +kernel
theorem dX11_polarized_13 : decode cX11_polarized 13 = .ok (.iload_n 1, 1) := by decide +kernel
theorem dX11_polarized_14 : decode cX11_polarized 14 = .ok (.invokevirtual 274, 3) := by decide +kernel
theorem dX11_polarized_17 : decode cX11_polarized 17 = .ok (.ifCond .eq 14, 3) := by decide +kernel
theorem dX11_polarized_20 : decode cX11_polarized 20 = .ok (.aload_n 0, 1) := by decide +kernel
theorem dX11_polarized_21 : decode cX11_polarized 21 = .ok (.getfield 53, 3) := by decide +kernel
theorem dX11_polarized_24 : decode cX11_polarized 24 = .ok (.iload_n 1, 1) := by decide +kernel
theorem dX11_polarized_25 : decode cX11_polarized 25 = .ok (.invokevirtual 287, 3) := by decide +kernel
theorem dX11_polarized_28 : decode cX11_polarized 28 = .ok (.goto 5, 3) := by decide +kernel
theorem dX11_polarized_31 : decode cX11_polarized 31 = .ok (.bipush (-2), 2) := by decide +kernel
theorem dX11_polarized_33 : decode cX11_polarized 33 = .ok (.ireturn, 1) := by decide +kernel
theorem dX11_hittingNumber_0 : decode cX11_hittingNumber 0 = .ok (.aload_n 0, 1) := by decide +kernel
theorem dX11_hittingNumber_1 : decode cX11_hittingNumber 1 = .ok (.getfield 53, 3) := by decide +kernel
theorem dX11_hittingNumber_4 : decode cX11_hittingNumber 4 = .ok (.invokevirtual 290, 3) := by decide +kernel
theorem dX11_hittingNumber_7 : decode cX11_hittingNumber 7 = .ok (.ireturn, 1) := by decide +kernel
theorem dX11_fillList_0 : decode cX11_fillList 0 = .ok (.aload_n 1, 1) := by decide +kernel
theorem dX11_fillList_1 : decode cX11_fillList 1 = .ok (.getfield 148, 3) := by decide +kernel
theorem dX11_fillList_4 : decode cX11_fillList 4 = .ok (.bipush 24, 2) := by decide +kernel
theorem dX11_fillList_6 : decode cX11_fillList 6 = .ok (.if_icmp .le 6, 3) := by decide +kernel
theorem dX11_fillList_9 : decode cX11_fillList 9 = .ok (.bipush (-3), 2) := by decide +kernel
theorem dX11_fillList_11 : decode cX11_fillList 11 = .ok (.ireturn, 1) := by decide +kernel
theorem dX11_fillList_12 : decode cX11_fillList 12 = .ok (.aload_n 0, 1) := by decide +kernel
theorem dX11_fillList_13 : decode cX11_fillList 13 = .ok (.getfield 53, 3) := by decide +kernel
theorem dX11_fillList_16 : decode cX11_fillList 16 = .ok (.getfield 253, 3) := by decide +kernel
theorem dX11_fillList_19 : decode cX11_fillList 19 = .ok (.aload_n 1, 1) := by decide +kernel
theorem dX11_fillList_20 : decode cX11_fillList 20 = .ok (.invokevirtual 293, 3) := by decide +kernel
theorem dX11_fillList_23 : decode cX11_fillList 23 = .ok (.aload_n 0, 1) := by decide +kernel
theorem dX11_fillList_24 : decode cX11_fillList 24 = .ok (.getfield 53, 3) := by decide +kernel
theorem dX11_fillList_27 : decode cX11_fillList 27 = .ok (.getfield 253, 3) := by decide +kernel
theorem dX11_fillList_30 : decode cX11_fillList 30 = .ok (.getfield 148, 3) := by decide +kernel
theorem dX11_fillList_33 : decode cX11_fillList 33 = .ok (.ireturn, 1) := by decide +kernel
theorem dX11_feed_0 : decode cX11_feed 0 = .ok (.iload_n 1, 1) := by decide +kernel
theorem dX11_feed_1 : decode cX11_feed 1 = .ok (.ifCond .lt 10, 3) := by decide +kernel
theorem dX11_feed_4 : decode cX11_feed 4 = .ok (.iload_n 1, 1) := by decide +kernel
theorem dX11_feed_5 : decode cX11_feed 5 = .ok (.sipush 255, 3) := by decide +kernel
theorem dX11_feed_8 : decode cX11_feed 8 = .ok (.if_icmp .le 5, 3) := by decide +kernel
theorem dX11_feed_11 : decode cX11_feed 11 = .ok (.iconst (-1), 1) := by decide +kernel
theorem dX11_feed_12 : decode cX11_feed 12 = .ok (.ireturn, 1) := by decide +kernel
theorem dX11_feed_13 : decode cX11_feed 13 = .ok (.aload_n 0, 1) := by decide +kernel
theorem dX11_feed_14 : decode cX11_feed 14 = .ok (.getfield 60, 3) := by decide +kernel
theorem dX11_feed_17 : decode cX11_feed 17 = .ok (.getfield 297, 3) := by decide +kernel
theorem dX11_feed_20 : decode cX11_feed 20 = .ok (.iload_n 1, 1) := by decide +kernel
theorem dX11_feed_21 : decode cX11_feed 21 = .ok (.invokevirtual 256, 3) := by decide +kernel
theorem dX11_feed_24 : decode cX11_feed 24 = .ok (.ifCond .eq 16, 3) := by decide +kernel
theorem dX11_feed_27 : decode cX11_feed 27 = .ok (.aload_n 0, 1) := by decide +kernel
theorem dX11_feed_28 : decode cX11_feed 28 = .ok (.getfield 60, 3) := by decide +kernel
theorem dX11_feed_31 : decode cX11_feed 31 = .ok (.getfield 297, 3) := by decide +kernel
theorem dX11_feed_34 : decode cX11_feed 34 = .ok (.getfield 148, 3) := by decide +kernel
theorem dX11_feed_37 : decode cX11_feed 37 = .ok (.goto 5, 3) := by decide +kernel
theorem dX11_feed_40 : decode cX11_feed 40 = .ok (.bipush (-3), 2) := by decide +kernel
theorem dX11_feed_42 : decode cX11_feed 42 = .ok (.ireturn, 1) := by decide +kernel
theorem dX11_discardInput_0 : decode cX11_discardInput 0 = .ok (.aload_n 0, 1) := by decide +kernel
theorem dX11_discardInput_1 : decode cX11_discardInput 1 = .ok (.getfield 60, 3) := by decide +kernel
theorem dX11_discardInput_4 : decode cX11_discardInput 4 = .ok (.getfield 297, 3) := by decide +kernel
theorem dX11_discardInput_7 : decode cX11_discardInput 7 = .ok (.getfield 148, 3) := by decide +kernel
theorem dX11_discardInput_10 : decode cX11_discardInput 10 = .ok (.istore_n 1, 1) := by decide +kernel
theorem dX11_discardInput_11 : decode cX11_discardInput 11 = .ok (.aload_n 0, 1) := by decide +kernel
theorem dX11_discardInput_12 : decode cX11_discardInput 12 = .ok (.getfield 60, 3) := by decide +kernel
theorem dX11_discardInput_15 : decode cX11_discardInput 15 = .ok (.getfield 297, 3) := by decide +kernel
theorem dX11_discardInput_18 : decode cX11_discardInput 18 = .ok (.iconst 0, 1) := by decide +kernel
theorem dX11_discardInput_19 : decode cX11_discardInput 19 = .ok (.putfield 148, 3) := by decide +kernel
theorem dX11_discardInput_22 : decode cX11_discardInput 22 = .ok (.iload_n 1, 1) := by decide +kernel
theorem dX11_discardInput_23 : decode cX11_discardInput 23 = .ok (.ireturn, 1) := by decide +kernel
theorem dX11_inputLength_0 : decode cX11_inputLength 0 = .ok (.aload_n 0, 1) := by decide +kernel
theorem dX11_inputLength_1 : decode cX11_inputLength 1 = .ok (.getfield 60, 3) := by decide +kernel
theorem dX11_inputLength_4 : decode cX11_inputLength 4 = .ok (.getfield 297, 3) := by decide +kernel
theorem dX11_inputLength_7 : decode cX11_inputLength 7 = .ok (.getfield 148, 3) := by decide +kernel
theorem dX11_inputLength_10 : decode cX11_inputLength 10 = .ok (.ireturn, 1) := by decide +kernel
theorem dX11_parse_0 : decode cX11_parse 0 = .ok (.aload_n 0, 1) := by decide +kernel
theorem dX11_parse_1 : decode cX11_parse 1 = .ok (.getfield 60, 3) := by decide +kernel
theorem dX11_parse_4 : decode cX11_parse 4 = .ok (.invokevirtual 300, 3) := by decide +kernel
theorem dX11_parse_7 : decode cX11_parse 7 = .ok (.istore_n 1, 1) := by decide +kernel
theorem dX11_parse_8 : decode cX11_parse 8 = .ok (.aload_n 0, 1) := by decide +kernel
theorem dX11_parse_9 : decode cX11_parse 9 = .ok (.getfield 60, 3) := by decide +kernel
theorem dX11_parse_12 : decode cX11_parse 12 = .ok (.getfield 297, 3) := by decide +kernel
theorem dX11_parse_15 : decode cX11_parse 15 = .ok (.iconst 0, 1) := by decide +kernel
theorem dX11_parse_16 : decode cX11_parse 16 = .ok (.putfield 148, 3) := by decide +kernel
theorem dX11_parse_19 : decode cX11_parse 19 = .ok (.iload_n 1, 1) := by decide +kernel
theorem dX11_parse_20 : decode cX11_parse 20 = .ok (.bipush (-2), 2) := by decide +kernel
theorem dX11_parse_22 : decode cX11_parse 22 = .ok (.if_icmp .eq 9, 3) := by decide +kernel
theorem dX11_parse_25 : decode cX11_parse 25 = .ok (.sipush (-1000), 3) := by decide +kernel
theorem dX11_parse_28 : decode cX11_parse 28 = .ok (.iload_n 1, 1) := by decide +kernel
theorem dX11_parse_29 : decode cX11_parse 29 = .ok (.isub, 1) := by decide +kernel
theorem dX11_parse_30 : decode cX11_parse 30 = .ok (.ireturn, 1) := by decide +kernel
theorem dX11_parse_31 : decode cX11_parse 31 = .ok (.aload_n 0, 1) := by decide +kernel
theorem dX11_parse_32 : decode cX11_parse 32 = .ok (.getfield 53, 3) := by decide +kernel
theorem dX11_parse_35 : decode cX11_parse 35 = .ok (.getfield 253, 3) := by decide +kernel
theorem dX11_parse_38 : decode cX11_parse 38 = .ok (.aload_n 0, 1) := by decide +kernel
theorem dX11_parse_39 : decode cX11_parse 39 = .ok (.getfield 60, 3) := by decide +kernel
theorem dX11_parse_42 : decode cX11_parse 42 = .ok (.getfield 303, 3) := by decide +kernel
theorem dX11_parse_45 : decode cX11_parse 45 = .ok (.invokevirtual 293, 3) := by decide +kernel
theorem dX11_parse_48 : decode cX11_parse 48 = .ok (.aload_n 0, 1) := by decide +kernel
theorem dX11_parse_49 : decode cX11_parse 49 = .ok (.getfield 53, 3) := by decide +kernel
theorem dX11_parse_52 : decode cX11_parse 52 = .ok (.getfield 253, 3) := by decide +kernel
theorem dX11_parse_55 : decode cX11_parse 55 = .ok (.getfield 148, 3) := by decide +kernel
theorem dX11_parse_58 : decode cX11_parse 58 = .ok (.ireturn, 1) := by decide +kernel
theorem dX11_formattedLength_0 : decode cX11_formattedLength 0 = .ok (.aload_n 0, 1) := by decide +kernel
theorem dX11_formattedLength_1 : decode cX11_formattedLength 1 = .ok (.getfield 53, 3) := by decide +kernel
theorem dX11_formattedLength_4 : decode cX11_formattedLength 4 = .ok (.invokevirtual 306, 3) := by decide +kernel
theorem dX11_formattedLength_7 : decode cX11_formattedLength 7 = .ok (.getfield 148, 3) := by decide +kernel
theorem dX11_formattedLength_10 : decode cX11_formattedLength 10 = .ok (.ireturn, 1) := by decide +kernel
theorem dX11_formattedByte_0 : decode cX11_formattedByte 0 = .ok (.aload_n 0, 1) := by decide +kernel
theorem dX11_formattedByte_1 : decode cX11_formattedByte 1 = .ok (.getfield 53, 3) := by decide +kernel
theorem dX11_formattedByte_4 : decode cX11_formattedByte 4 = .ok (.invokevirtual 306, 3) := by decide +kernel
theorem dX11_formattedByte_7 : decode cX11_formattedByte 7 = .ok (.iload_n 1, 1) := by decide +kernel
theorem dX11_formattedByte_8 : decode cX11_formattedByte 8 = .ok (.invokestatic 151, 3) := by decide +kernel
theorem dX11_formattedByte_11 : decode cX11_formattedByte 11 = .ok (.ireturn, 1) := by decide +kernel
theorem dX11_saveList_0 : decode cX11_saveList 0 = .ok (.iload_n 1, 1) := by decide +kernel
theorem dX11_saveList_1 : decode cX11_saveList 1 = .ok (.invokestatic 309, 3) := by decide +kernel
theorem dX11_saveList_4 : decode cX11_saveList 4 = .ok (.ifCond .ne 5, 3) := by decide +kernel
theorem dX11_saveList_7 : decode cX11_saveList 7 = .ok (.iconst (-1), 1) := by decide +kernel
theorem dX11_saveList_8 : decode cX11_saveList 8 = .ok (.ireturn, 1) := by decide +kernel
theorem dX11_saveList_9 : decode cX11_saveList 9 = .ok (.aload_n 0, 1) := by decide +kernel
theorem dX11_saveList_10 : decode cX11_saveList 10 = .ok (.getfield 66, 3) := by decide +kernel
theorem dX11_saveList_13 : decode cX11_saveList 13 = .ok (.iload_n 1, 1) := by decide +kernel
theorem dX11_saveList_14 : decode cX11_saveList 14 = .ok (.aaload, 1) := by decide +kernel
theorem dX11_saveList_15 : decode cX11_saveList 15 = .ok (.iconst 1, 1) := by decide +kernel
theorem dX11_saveList_16 : decode cX11_saveList 16 = .ok (.putfield 312, 3) := by decide +kernel
theorem dX11_saveList_19 : decode cX11_saveList 19 = .ok (.aload_n 0, 1) := by decide +kernel
theorem dX11_saveList_20 : decode cX11_saveList 20 = .ok (.getfield 66, 3) := by decide +kernel
theorem dX11_saveList_23 : decode cX11_saveList 23 = .ok (.iload_n 1, 1) := by decide +kernel
theorem dX11_saveList_24 : decode cX11_saveList 24 = .ok (.aaload, 1) := by decide +kernel
theorem dX11_saveList_25 : decode cX11_saveList 25 = .ok (.getfield 315, 3) := by decide +kernel
theorem dX11_saveList_28 : decode cX11_saveList 28 = .ok (.aload_n 0, 1) := by decide +kernel
theorem dX11_saveList_29 : decode cX11_saveList 29 = .ok (.getfield 53, 3) := by decide +kernel
theorem dX11_saveList_32 : decode cX11_saveList 32 = .ok (.getfield 253, 3) := by decide +kernel
theorem dX11_saveList_35 : decode cX11_saveList 35 = .ok (.invokevirtual 293, 3) := by decide +kernel
theorem dX11_saveList_38 : decode cX11_saveList 38 = .ok (.aload_n 0, 1) := by decide +kernel
theorem dX11_saveList_39 : decode cX11_saveList 39 = .ok (.getfield 53, 3) := by decide +kernel
theorem dX11_saveList_42 : decode cX11_saveList 42 = .ok (.getfield 253, 3) := by decide +kernel
theorem dX11_saveList_45 : decode cX11_saveList 45 = .ok (.getfield 148, 3) := by decide +kernel
theorem dX11_saveList_48 : decode cX11_saveList 48 = .ok (.ireturn, 1) := by decide +kernel
theorem dX11_loadList_0 : decode cX11_loadList 0 = .ok (.aload_n 0, 1) := by decide +kernel
theorem dX11_loadList_1 : decode cX11_loadList 1 = .ok (.iload_n 1, 1) := by decide +kernel
theorem dX11_loadList_2 : decode cX11_loadList 2 = .ok (.iconst 1, 1) := by decide +kernel
theorem dX11_loadList_3 : decode cX11_loadList 3 = .ok (.invokevirtual 316, 3) := by decide +kernel
theorem dX11_loadList_6 : decode cX11_loadList 6 = .ok (.istore_n 2, 1) := by decide +kernel
theorem dX11_loadList_7 : decode cX11_loadList 7 = .ok (.iload_n 2, 1) := by decide +kernel
theorem dX11_loadList_8 : decode cX11_loadList 8 = .ok (.ifCond .eq 5, 3) := by decide +kernel
theorem dX11_loadList_11 : decode cX11_loadList 11 = .ok (.iload_n 2, 1) := by decide +kernel
theorem dX11_loadList_12 : decode cX11_loadList 12 = .ok (.ireturn, 1) := by decide +kernel
theorem dX11_loadList_13 : decode cX11_loadList 13 = .ok (.aload_n 0, 1) := by decide +kernel
theorem dX11_loadList_14 : decode cX11_loadList 14 = .ok (.getfield 53, 3) := by decide +kernel
theorem dX11_loadList_17 : decode cX11_loadList 17 = .ok (.getfield 253, 3) := by decide +kernel
theorem dX11_loadList_20 : decode cX11_loadList 20 = .ok (.aload_n 0, 1) := by decide +kernel
theorem dX11_loadList_21 : decode cX11_loadList 21 = .ok (.getfield 66, 3) := by decide +kernel
theorem dX11_loadList_24 : decode cX11_loadList 24 = .ok (.iload_n 1, 1) := by decide +kernel
theorem dX11_loadList_25 : decode cX11_loadList 25 = .ok (.aaload, 1) := by decide +kernel
theorem dX11_loadList_26 : decode cX11_loadList 26 = .ok (.getfield 315, 3) := by decide +kernel
theorem dX11_loadList_29 : decode cX11_loadList 29 = .ok (.invokevirtual 293, 3) := by decide +kernel
theorem dX11_loadList_32 : decode cX11_loadList 32 = .ok (.aload_n 0, 1) := by decide +kernel
theorem dX11_loadList_33 : decode cX11_loadList 33 = .ok (.getfield 53, 3) := by decide +kernel
theorem dX11_loadList_36 : decode cX11_loadList 36 = .ok (.getfield 253, 3) := by decide +kernel
theorem dX11_loadList_39 : decode cX11_loadList 39 = .ok (.getfield 148, 3) := by decide +kernel
theorem dX11_loadList_42 : decode cX11_loadList 42 = .ok (.ireturn, 1) := by decide +kernel
theorem dX11_clearSlot_0 : decode cX11_clearSlot 0 = .ok (.iload_n 1, 1) := by decide +kernel
theorem dX11_clearSlot_1 : decode cX11_clearSlot 1 = .ok (.invokestatic 309, 3) := by decide +kernel
theorem dX11_clearSlot_4 : decode cX11_clearSlot 4 = .ok (.ifCond .ne 5, 3) := by decide +kernel
theorem dX11_clearSlot_7 : decode cX11_clearSlot 7 = .ok (.iconst (-1), 1) := by decide +kernel
theorem dX11_clearSlot_8 : decode cX11_clearSlot 8 = .ok (.ireturn, 1) := by decide +kernel
theorem dX11_clearSlot_9 : decode cX11_clearSlot 9 = .ok (.aload_n 0, 1) := by decide +kernel
theorem dX11_clearSlot_10 : decode cX11_clearSlot 10 = .ok (.getfield 66, 3) := by decide +kernel
theorem dX11_clearSlot_13 : decode cX11_clearSlot 13 = .ok (.iload_n 1, 1) := by decide +kernel
theorem dX11_clearSlot_14 : decode cX11_clearSlot 14 = .ok (.aaload, 1) := by decide +kernel
theorem dX11_clearSlot_15 : decode cX11_clearSlot 15 = .ok (.getfield 312, 3) := by decide +kernel
theorem dX11_clearSlot_18 : decode cX11_clearSlot 18 = .ok (.istore_n 2, 1) := by decide +kernel
theorem dX11_clearSlot_19 : decode cX11_clearSlot 19 = .ok (.aload_n 0, 1) := by decide +kernel
theorem dX11_clearSlot_20 : decode cX11_clearSlot 20 = .ok (.getfield 66, 3) := by decide +kernel
theorem dX11_clearSlot_23 : decode cX11_clearSlot 23 = .ok (.iload_n 1, 1) := by decide +kernel
theorem dX11_clearSlot_24 : decode cX11_clearSlot 24 = .ok (.aaload, 1) := by decide +kernel
theorem dX11_clearSlot_25 : decode cX11_clearSlot 25 = .ok (.iconst 0, 1) := by decide +kernel
theorem dX11_clearSlot_26 : decode cX11_clearSlot 26 = .ok (.putfield 312, 3) := by decide +kernel
theorem dX11_clearSlot_29 : decode cX11_clearSlot 29 = .ok (.iload_n 2, 1) := by decide +kernel
theorem dX11_clearSlot_30 : decode cX11_clearSlot 30 = .ok (.ireturn, 1) := by decide +kernel
theorem dX11_newArray_0 : decode cX11_newArray 0 = .ok (.iload_n 1, 1) := by decide +kernel
theorem dX11_newArray_1 : decode cX11_newArray 1 = .ok (.invokestatic 309, 3) := by decide +kernel
theorem dX11_newArray_4 : decode cX11_newArray 4 = .ok (.ifCond .eq 9, 3) := by decide +kernel
theorem dX11_newArray_7 : decode cX11_newArray 7 = .ok (.iload_n 2, 1) := by decide +kernel
theorem dX11_newArray_8 : decode cX11_newArray 8 = .ok (.bipush 30, 2) := by decide +kernel
theorem dX11_newArray_10 : decode cX11_newArray 10 = .ok (.if_icmp .le 5, 3) := by decide +kernel
theorem dX11_newArray_13 : decode cX11_newArray 13 = .ok (.iconst (-1), 1) := by decide +kernel
theorem dX11_newArray_14 : decode cX11_newArray 14 = .ok (.ireturn, 1) := by decide +kernel
theorem dX11_newArray_15 : decode cX11_newArray 15 = .ok (.iload_n 2, 1) := by decide +kernel
theorem dX11_newArray_16 : decode cX11_newArray 16 = .ok (.ifCond .ge 6, 3) := by decide +kernel
theorem dX11_newArray_19 : decode cX11_newArray 19 = .ok (.bipush (-14), 2) := by decide +kernel
theorem dX11_newArray_21 : decode cX11_newArray 21 = .ok (.ireturn, 1) := by decide +kernel
theorem dX11_newArray_22 : decode cX11_newArray 22 = .ok (.aload_n 0, 1) := by decide +kernel
theorem dX11_newArray_23 : decode cX11_newArray 23 = .ok (.getfield 66, 3) := by decide +kernel
theorem dX11_newArray_26 : decode cX11_newArray 26 = .ok (.iload_n 1, 1) := by decide +kernel
theorem dX11_newArray_27 : decode cX11_newArray 27 = .ok (.aaload, 1) := by decide +kernel
theorem dX11_newArray_28 : decode cX11_newArray 28 = .ok (.iconst 2, 1) := by decide +kernel
theorem dX11_newArray_29 : decode cX11_newArray 29 = .ok (.putfield 312, 3) := by decide +kernel
theorem dX11_newArray_32 : decode cX11_newArray 32 = .ok (.aload_n 0, 1) := by decide +kernel
theorem dX11_newArray_33 : decode cX11_newArray 33 = .ok (.getfield 66, 3) := by decide +kernel
theorem dX11_newArray_36 : decode cX11_newArray 36 = .ok (.iload_n 1, 1) := by decide +kernel
theorem dX11_newArray_37 : decode cX11_newArray 37 = .ok (.aaload, 1) := by decide +kernel
theorem dX11_newArray_38 : decode cX11_newArray 38 = .ok (.getfield 315, 3) := by decide +kernel
theorem dX11_newArray_41 : decode cX11_newArray 41 = .ok (.iload_n 2, 1) := by decide +kernel
theorem dX11_newArray_42 : decode cX11_newArray 42 = .ok (.invokevirtual 319, 3) := by decide +kernel
theorem dX11_newArray_45 : decode cX11_newArray 45 = .ok (.iload_n 2, 1) := by decide +kernel
theorem dX11_newArray_46 : decode cX11_newArray 46 = .ok (.ireturn, 1) := by decide +kernel
theorem dX11_setArrayElement_0 : decode cX11_setArrayElement 0 = .ok (.aload_n 0, 1) := by decide +kernel
theorem dX11_setArrayElement_1 : decode cX11_setArrayElement 1 = .ok (.iload_n 1, 1) := by decide +kernel
theorem dX11_setArrayElement_2 : decode cX11_setArrayElement 2 = .ok (.iconst 2, 1) := by decide +kernel
theorem dX11_setArrayElement_3 : decode cX11_setArrayElement 3 = .ok (.invokevirtual 316, 3) := by decide +kernel
theorem dX11_setArrayElement_6 : decode cX11_setArrayElement 6 = .ok (.istore 4, 2) := by decide +kernel
theorem dX11_setArrayElement_8 : decode cX11_setArrayElement 8 = .ok (.iload 4, 2) := by decide +kernel
theorem dX11_setArrayElement_10 : decode cX11_setArrayElement 10 = .ok (.ifCond .eq 6, 3) := by decide +kernel
theorem dX11_setArrayElement_13 : decode cX11_setArrayElement 13 = .ok (.iload 4, 2) := by decide +kernel
theorem dX11_setArrayElement_15 : decode cX11_setArrayElement 15 = .ok (.ireturn, 1) := by decide +kernel
theorem dX11_setArrayElement_16 : decode cX11_setArrayElement 16 = .ok (.aload_n 0, 1) := by decide +kernel
theorem dX11_setArrayElement_17 : decode cX11_setArrayElement 17 = .ok (.getfield 66, 3) := by decide +kernel
theorem dX11_setArrayElement_20 : decode cX11_setArrayElement 20 = .ok (.iload_n 1, 1) := by decide +kernel
theorem dX11_setArrayElement_21 : decode cX11_setArrayElement 21 = .ok (.aaload, 1) := by decide +kernel
theorem dX11_setArrayElement_22 : decode cX11_setArrayElement 22 = .ok (.getfield 315, 3) := by decide +kernel
theorem dX11_setArrayElement_25 : decode cX11_setArrayElement 25 = .ok (.iload_n 2, 1) := by decide +kernel
theorem dX11_setArrayElement_26 : decode cX11_setArrayElement 26 = .ok (.invokevirtual 274, 3) := by decide +kernel
theorem dX11_setArrayElement_29 : decode cX11_setArrayElement 29 = .ok (.ifCond .ne 6, 3) := by decide +kernel
theorem dX11_setArrayElement_32 : decode cX11_setArrayElement 32 = .ok (.bipush (-13), 2) := by decide +kernel
theorem dX11_setArrayElement_34 : decode cX11_setArrayElement 34 = .ok (.ireturn, 1) := by decide +kernel
theorem dX11_setArrayElement_35 : decode cX11_setArrayElement 35 = .ok (.aload_n 0, 1) := by decide +kernel
theorem dX11_setArrayElement_36 : decode cX11_setArrayElement 36 = .ok (.getfield 66, 3) := by decide +kernel
theorem dX11_setArrayElement_39 : decode cX11_setArrayElement 39 = .ok (.iload_n 1, 1) := by decide +kernel
theorem dX11_setArrayElement_40 : decode cX11_setArrayElement 40 = .ok (.aaload, 1) := by decide +kernel
theorem dX11_setArrayElement_41 : decode cX11_setArrayElement 41 = .ok (.getfield 315, 3) := by decide +kernel
theorem dX11_setArrayElement_44 : decode cX11_setArrayElement 44 = .ok (.getfield 215, 3) := by decide +kernel
theorem dX11_setArrayElement_47 : decode cX11_setArrayElement 47 = .ok (.iload_n 2, 1) := by decide +kernel
theorem dX11_setArrayElement_48 : decode cX11_setArrayElement 48 = .ok (.iload_n 3, 1) := by decide +kernel
theorem dX11_setArrayElement_49 : decode cX11_setArrayElement 49 = .ok (.iastore, 1) := by decide +kernel
theorem dX11_setArrayElement_50 : decode cX11_setArrayElement 50 = .ok (.iconst 1, 1) := by decide +kernel
theorem dX11_setArrayElement_51 : decode cX11_setArrayElement 51 = .ok (.ireturn, 1) := by decide +kernel
theorem dX11_arrayElement_0 : decode cX11_arrayElement 0 = .ok (.aload_n 0, 1) := by decide +kernel
theorem dX11_arrayElement_1 : decode cX11_arrayElement 1 = .ok (.iload_n 1, 1) := by decide +kernel
theorem dX11_arrayElement_2 : decode cX11_arrayElement 2 = .ok (.iconst 2, 1) := by decide +kernel
theorem dX11_arrayElement_3 : decode cX11_arrayElement 3 = .ok (.invokevirtual 316, 3) := by decide +kernel
theorem dX11_arrayElement_6 : decode cX11_arrayElement 6 = .ok (.ifCond .ne 19, 3) := by decide +kernel
theorem dX11_arrayElement_9 : decode cX11_arrayElement 9 = .ok (.aload_n 0, 1) := by decide +kernel
theorem dX11_arrayElement_10 : decode cX11_arrayElement 10 = .ok (.getfield 66, 3) := by decide +kernel
theorem dX11_arrayElement_13 : decode cX11_arrayElement 13 = .ok (.iload_n 1, 1) := by decide +kernel
theorem dX11_arrayElement_14 : decode cX11_arrayElement 14 = .ok (.aaload, 1) := by decide +kernel
theorem dX11_arrayElement_15 : decode cX11_arrayElement 15 = .ok (.getfield 315, 3) := by decide +kernel
theorem dX11_arrayElement_18 : decode cX11_arrayElement 18 = .ok (.iload_n 2, 1) := by decide +kernel
theorem dX11_arrayElement_19 : decode cX11_arrayElement 19 = .ok (.invokevirtual 274, 3) := by decide +kernel
theorem dX11_arrayElement_22 : decode cX11_arrayElement 22 = .ok (.ifCond .ne 7, 3) := by decide +kernel
theorem dX11_arrayElement_25 : decode cX11_arrayElement 25 = .ok (.ldc2_w 234, 3) := by decide +kernel
theorem dX11_arrayElement_28 : decode cX11_arrayElement 28 = .ok (.lreturn, 1) := by decide +kernel
theorem dX11_arrayElement_29 : decode cX11_arrayElement 29 = .ok (.aload_n 0, 1) := by decide +kernel
theorem dX11_arrayElement_30 : decode cX11_arrayElement 30 = .ok (.getfield 66, 3) := by decide +kernel
theorem dX11_arrayElement_33 : decode cX11_arrayElement 33 = .ok (.iload_n 1, 1) := by decide +kernel
theorem dX11_arrayElement_34 : decode cX11_arrayElement 34 = .ok (.aaload, 1) := by decide +kernel
theorem dX11_arrayElement_35 : decode cX11_arrayElement 35 = .ok (.getfield 315, 3) := by decide +kernel
theorem dX11_arrayElement_38 : decode cX11_arrayElement 38 = .ok (.getfield 215, 3) := by decide +kernel
theorem dX11_arrayElement_41 : decode cX11_arrayElement 41 = .ok (.iload_n 2, 1) := by decide +kernel
theorem dX11_arrayElement_42 : decode cX11_arrayElement 42 = .ok (.iaload, 1) := by decide +kernel
theorem dX11_arrayElement_43 : decode cX11_arrayElement 43 = .ok (.i2l, 1) := by decide +kernel
theorem dX11_arrayElement_44 : decode cX11_arrayElement 44 = .ok (.lreturn, 1) := by decide +kernel
theorem dX11_firstMismatch_0 : decode cX11_firstMismatch 0 = .ok (.iload_n 2, 1) := by decide +kernel
theorem dX11_firstMismatch_1 : decode cX11_firstMismatch 1 = .ok (.invokestatic 188, 3) := by decide +kernel
theorem dX11_firstMismatch_4 : decode cX11_firstMismatch 4 = .ok (.ifCond .ne 5, 3) := by decide +kernel
theorem dX11_firstMismatch_7 : decode cX11_firstMismatch 7 = .ok (.iconst (-1), 1) := by decide +kernel
theorem dX11_firstMismatch_8 : decode cX11_firstMismatch 8 = .ok (.ireturn, 1) := by decide +kernel
theorem dX11_firstMismatch_9 : decode cX11_firstMismatch 9 = .ok (.aload_n 0, 1) := by decide +kernel
theorem dX11_firstMismatch_10 : decode cX11_firstMismatch 10 = .ok (.iload_n 1, 1) := by decide +kernel
theorem dX11_firstMismatch_11 : decode cX11_firstMismatch 11 = .ok (.iconst 2, 1) := by decide +kernel
theorem dX11_firstMismatch_12 : decode cX11_firstMismatch 12 = .ok (.invokevirtual 316, 3) := by decide +kernel
theorem dX11_firstMismatch_15 : decode cX11_firstMismatch 15 = .ok (.istore_n 3, 1) := by decide +kernel
theorem dX11_firstMismatch_16 : decode cX11_firstMismatch 16 = .ok (.iload_n 3, 1) := by decide +kernel
theorem dX11_firstMismatch_17 : decode cX11_firstMismatch 17 = .ok (.ifCond .eq 7, 3) := by decide +kernel
theorem dX11_firstMismatch_20 : decode cX11_firstMismatch 20 = .ok (.iload_n 3, 1) := by decide +kernel
theorem dX11_firstMismatch_21 : decode cX11_firstMismatch 21 = .ok (.goto 23, 3) := by decide +kernel
theorem dX11_firstMismatch_24 : decode cX11_firstMismatch 24 = .ok (.aload_n 0, 1) := by decide +kernel
theorem dX11_firstMismatch_25 : decode cX11_firstMismatch 25 = .ok (.getfield 66, 3) := by decide +kernel
theorem dX11_firstMismatch_28 : decode cX11_firstMismatch 28 = .ok (.iload_n 1, 1) := by decide +kernel
theorem dX11_firstMismatch_29 : decode cX11_firstMismatch 29 = .ok (.aaload, 1) := by decide +kernel
theorem dX11_firstMismatch_30 : decode cX11_firstMismatch 30 = .ok (.getfield 315, 3) := by decide +kernel
theorem dX11_firstMismatch_33 : decode cX11_firstMismatch 33 = .ok (.aload_n 0, 1) := by decide +kernel
theorem dX11_firstMismatch_34 : decode cX11_firstMismatch 34 = .ok (.getfield 23, 3) := by decide +kernel
theorem dX11_firstMismatch_37 : decode cX11_firstMismatch 37 = .ok (.iload_n 2, 1) := by decide +kernel
theorem dX11_firstMismatch_38 : decode cX11_firstMismatch 38 = .ok (.invokevirtual 191, 3) := by decide +kernel
theorem dX11_firstMismatch_41 : decode cX11_firstMismatch 41 = .ok (.invokevirtual 197, 3) := by decide +kernel
theorem dX11_firstMismatch_44 : decode cX11_firstMismatch 44 = .ok (.ireturn, 1) := by decide +kernel
theorem dX11_usedSlotCount_0 : decode cX11_usedSlotCount 0 = .ok (.iconst 0, 1) := by decide +kernel
theorem dX11_usedSlotCount_1 : decode cX11_usedSlotCount 1 = .ok (.istore_n 1, 1) := by decide +kernel
theorem dX11_usedSlotCount_2 : decode cX11_usedSlotCount 2 = .ok (.iconst 0, 1) := by decide +kernel
theorem dX11_usedSlotCount_3 : decode cX11_usedSlotCount 3 = .ok (.istore_n 2, 1) := by decide +kernel
theorem dX11_usedSlotCount_4 : decode cX11_usedSlotCount 4 = .ok (.iload_n 2, 1) := by decide +kernel
theorem dX11_usedSlotCount_5 : decode cX11_usedSlotCount 5 = .ok (.iconst 4, 1) := by decide +kernel
theorem dX11_usedSlotCount_6 : decode cX11_usedSlotCount 6 = .ok (.if_icmp .ge 24, 3) := by decide +kernel
theorem dX11_usedSlotCount_9 : decode cX11_usedSlotCount 9 = .ok (.aload_n 0, 1) := by decide +kernel
theorem dX11_usedSlotCount_10 : decode cX11_usedSlotCount 10 = .ok (.getfield 66, 3) := by decide +kernel
theorem dX11_usedSlotCount_13 : decode cX11_usedSlotCount 13 = .ok (.iload_n 2, 1) := by decide +kernel
theorem dX11_usedSlotCount_14 : decode cX11_usedSlotCount 14 = .ok (.aaload, 1) := by decide +kernel
theorem dX11_usedSlotCount_15 : decode cX11_usedSlotCount 15 = .ok (.getfield 312, 3) := by decide +kernel
theorem dX11_usedSlotCount_18 : decode cX11_usedSlotCount 18 = .ok (.ifCond .eq 6, 3) := by decide +kernel
theorem dX11_usedSlotCount_21 : decode cX11_usedSlotCount 21 = .ok (.iinc 1 1, 3) := by decide +kernel
theorem dX11_usedSlotCount_24 : decode cX11_usedSlotCount 24 = .ok (.iinc 2 1, 3) := by decide +kernel
theorem dX11_usedSlotCount_27 : decode cX11_usedSlotCount 27 = .ok (.goto (-23), 3) := by decide +kernel
theorem dX11_usedSlotCount_30 : decode cX11_usedSlotCount 30 = .ok (.iload_n 1, 1) := by decide +kernel
theorem dX11_usedSlotCount_31 : decode cX11_usedSlotCount 31 = .ok (.ireturn, 1) := by decide +kernel
theorem dX11_slotError_0 : decode cX11_slotError 0 = .ok (.iload_n 1, 1) := by decide +kernel
theorem dX11_slotError_1 : decode cX11_slotError 1 = .ok (.invokestatic 309, 3) := by decide +kernel
theorem dX11_slotError_4 : decode cX11_slotError 4 = .ok (.ifCond .ne 5, 3) := by decide +kernel
theorem dX11_slotError_7 : decode cX11_slotError 7 = .ok (.iconst (-1), 1) := by decide +kernel
theorem dX11_slotError_8 : decode cX11_slotError 8 = .ok (.ireturn, 1) := by decide +kernel
theorem dX11_slotError_9 : decode cX11_slotError 9 = .ok (.aload_n 0, 1) := by decide +kernel
theorem dX11_slotError_10 : decode cX11_slotError 10 = .ok (.getfield 66, 3) := by decide +kernel
theorem dX11_slotError_13 : decode cX11_slotError 13 = .ok (.iload_n 1, 1) := by decide +kernel
theorem dX11_slotError_14 : decode cX11_slotError 14 = .ok (.aaload, 1) := by decide +kernel
theorem dX11_slotError_15 : decode cX11_slotError 15 = .ok (.getfield 312, 3) := by decide +kernel
theorem dX11_slotError_18 : decode cX11_slotError 18 = .ok (.ifCond .ne 6, 3) := by decide +kernel
theorem dX11_slotError_21 : decode cX11_slotError 21 = .ok (.bipush (-11), 2) := by decide +kernel
theorem dX11_slotError_23 : decode cX11_slotError 23 = .ok (.ireturn, 1) := by decide +kernel
theorem dX11_slotError_24 : decode cX11_slotError 24 = .ok (.aload_n 0, 1) := by decide +kernel
theorem dX11_slotError_25 : decode cX11_slotError 25 = .ok (.getfield 66, 3) := by decide +kernel
theorem dX11_slotError_28 : decode cX11_slotError 28 = .ok (.iload_n 1, 1) := by decide +kernel
theorem dX11_slotError_29 : decode cX11_slotError 29 = .ok (.aaload, 1) := by decide +kernel
theorem dX11_slotError_30 : decode cX11_slotError 30 = .ok (.getfield 312, 3) := by decide +kernel
theorem dX11_slotError_33 : decode cX11_slotError 33 = .ok (.iload_n 2, 1) := by decide +kernel
theorem dX11_slotError_34 : decode cX11_slotError 34 = .ok (.if_icmp .ne 7, 3) := by decide +kernel
theorem dX11_slotError_37 : decode cX11_slotError 37 = .ok (.iconst 0, 1) := by decide +kernel
theorem dX11_slotError_38 : decode cX11_slotError 38 = .ok (.goto 5, 3) := by decide +kernel
theorem dX11_slotError_41 : decode cX11_slotError 41 = .ok (.bipush (-12), 2) := by decide +kernel
theorem dX11_slotError_43 : decode cX11_slotError 43 = .ok (.ireturn, 1) := by decide +kernel
theorem dX11_takeSnapshot_0 : decode cX11_takeSnapshot 0 = .ok (.aload_n 0, 1) := by decide +kernel
theorem dX11_takeSnapshot_1 : decode cX11_takeSnapshot 1 = .ok (.getfield 74, 3) := by decide +kernel
theorem dX11_takeSnapshot_4 : decode cX11_takeSnapshot 4 = .ok (.iconst 1, 1) := by decide +kernel
theorem dX11_takeSnapshot_5 : decode cX11_takeSnapshot 5 = .ok (.putfield 322, 3) := by decide +kernel
theorem dX11_takeSnapshot_8 : decode cX11_takeSnapshot 8 = .ok (.aload_n 0, 1) := by decide +kernel
theorem dX11_takeSnapshot_9 : decode cX11_takeSnapshot 9 = .ok (.getfield 74, 3) := by decide +kernel
theorem dX11_takeSnapshot_12 : decode cX11_takeSnapshot 12 = .ok (.aload_n 0, 1) := by decide +kernel
theorem dX11_takeSnapshot_13 : decode cX11_takeSnapshot 13 = .ok (.getfield 14, 3) := by decide +kernel
theorem dX11_takeSnapshot_16 : decode cX11_takeSnapshot 16 = .ok (.getfield 78, 3) := by decide +kernel
theorem dX11_takeSnapshot_19 : decode cX11_takeSnapshot 19 = .ok (.putfield 326, 3) := by decide +kernel
theorem dX11_takeSnapshot_22 : decode cX11_takeSnapshot 22 = .ok (.aload_n 0, 1) := by decide +kernel
theorem dX11_takeSnapshot_23 : decode cX11_takeSnapshot 23 = .ok (.getfield 74, 3) := by decide +kernel
theorem dX11_takeSnapshot_26 : decode cX11_takeSnapshot 26 = .ok (.aload_n 0, 1) := by decide +kernel
theorem dX11_takeSnapshot_27 : decode cX11_takeSnapshot 27 = .ok (.getfield 14, 3) := by decide +kernel
theorem dX11_takeSnapshot_30 : decode cX11_takeSnapshot 30 = .ok (.getfield 93, 3) := by decide +kernel
theorem dX11_takeSnapshot_33 : decode cX11_takeSnapshot 33 = .ok (.putfield 327, 3) := by decide +kernel
theorem dX11_takeSnapshot_36 : decode cX11_takeSnapshot 36 = .ok (.aload_n 0, 1) := by decide +kernel
theorem dX11_takeSnapshot_37 : decode cX11_takeSnapshot 37 = .ok (.getfield 74, 3) := by decide +kernel
theorem dX11_takeSnapshot_40 : decode cX11_takeSnapshot 40 = .ok (.aload_n 0, 1) := by decide +kernel
theorem dX11_takeSnapshot_41 : decode cX11_takeSnapshot 41 = .ok (.getfield 46, 3) := by decide +kernel
theorem dX11_takeSnapshot_44 : decode cX11_takeSnapshot 44 = .ok (.getfield 248, 3) := by decide +kernel
theorem dX11_takeSnapshot_47 : decode cX11_takeSnapshot 47 = .ok (.putfield 328, 3) := by decide +kernel
theorem dX11_takeSnapshot_50 : decode cX11_takeSnapshot 50 = .ok (.aload_n 0, 1) := by decide +kernel
theorem dX11_takeSnapshot_51 : decode cX11_takeSnapshot 51 = .ok (.getfield 74, 3) := by decide +kernel
theorem dX11_takeSnapshot_54 : decode cX11_takeSnapshot 54 = .ok (.getfield 331, 3) := by decide +kernel
theorem dX11_takeSnapshot_57 : decode cX11_takeSnapshot 57 = .ok (.aload_n 0, 1) := by decide +kernel
theorem dX11_takeSnapshot_58 : decode cX11_takeSnapshot 58 = .ok (.getfield 53, 3) := by decide +kernel
theorem dX11_takeSnapshot_61 : decode cX11_takeSnapshot 61 = .ok (.getfield 253, 3) := by decide +kernel
theorem dX11_takeSnapshot_64 : decode cX11_takeSnapshot 64 = .ok (.invokevirtual 293, 3) := by decide +kernel
theorem dX11_takeSnapshot_67 : decode cX11_takeSnapshot 67 = .ok (.aload_n 0, 1) := by decide +kernel
theorem dX11_takeSnapshot_68 : decode cX11_takeSnapshot 68 = .ok (.getfield 14, 3) := by decide +kernel
theorem dX11_takeSnapshot_71 : decode cX11_takeSnapshot 71 = .ok (.getfield 78, 3) := by decide +kernel
theorem dX11_takeSnapshot_74 : decode cX11_takeSnapshot 74 = .ok (.ireturn, 1) := by decide +kernel
theorem dX11_restoreSnapshot_0 : decode cX11_restoreSnapshot 0 = .ok (.aload_n 0, 1) := by decide +kernel
theorem dX11_restoreSnapshot_1 : decode cX11_restoreSnapshot 1 = .ok (.getfield 74, 3) := by decide +kernel
theorem dX11_restoreSnapshot_4 : decode cX11_restoreSnapshot 4 = .ok (.getfield 322, 3) := by decide +kernel
theorem dX11_restoreSnapshot_7 : decode cX11_restoreSnapshot 7 = .ok (.ifCond .ne 6, 3) := by decide +kernel
theorem dX11_restoreSnapshot_10 : decode cX11_restoreSnapshot 10 = .ok (.bipush (-5), 2) := by decide +kernel
theorem dX11_restoreSnapshot_12 : decode cX11_restoreSnapshot 12 = .ok (.ireturn, 1) := by decide +kernel
theorem dX11_restoreSnapshot_13 : decode cX11_restoreSnapshot 13 = .ok (.aload_n 0, 1) := by decide +kernel
theorem dX11_restoreSnapshot_14 : decode cX11_restoreSnapshot 14 = .ok (.aload_n 0, 1) := by decide +kernel
theorem dX11_restoreSnapshot_15 : decode cX11_restoreSnapshot 15 = .ok (.getfield 74, 3) := by decide +kernel
theorem dX11_restoreSnapshot_18 : decode cX11_restoreSnapshot 18 = .ok (.getfield 326, 3) := by decide +kernel
theorem dX11_restoreSnapshot_21 : decode cX11_restoreSnapshot 21 = .ok (.aload_n 0, 1) := by decide +kernel
theorem dX11_restoreSnapshot_22 : decode cX11_restoreSnapshot 22 = .ok (.getfield 74, 3) := by decide +kernel
theorem dX11_restoreSnapshot_25 : decode cX11_restoreSnapshot 25 = .ok (.getfield 327, 3) := by decide +kernel
theorem dX11_restoreSnapshot_28 : decode cX11_restoreSnapshot 28 = .ok (.invokevirtual 82, 3) := by decide +kernel
theorem dX11_restoreSnapshot_31 : decode cX11_restoreSnapshot 31 = .ok (.aload_n 0, 1) := by decide +kernel
theorem dX11_restoreSnapshot_32 : decode cX11_restoreSnapshot 32 = .ok (.getfield 46, 3) := by decide +kernel
theorem dX11_restoreSnapshot_35 : decode cX11_restoreSnapshot 35 = .ok (.aload_n 0, 1) := by decide +kernel
theorem dX11_restoreSnapshot_36 : decode cX11_restoreSnapshot 36 = .ok (.getfield 74, 3) := by decide +kernel
theorem dX11_restoreSnapshot_39 : decode cX11_restoreSnapshot 39 = .ok (.getfield 328, 3) := by decide +kernel
theorem dX11_restoreSnapshot_42 : decode cX11_restoreSnapshot 42 = .ok (.putfield 248, 3) := by decide +kernel
theorem dX11_restoreSnapshot_45 : decode cX11_restoreSnapshot 45 = .ok (.aload_n 0, 1) := by decide +kernel
theorem dX11_restoreSnapshot_46 : decode cX11_restoreSnapshot 46 = .ok (.getfield 53, 3) := by decide +kernel
theorem dX11_restoreSnapshot_49 : decode cX11_restoreSnapshot 49 = .ok (.getfield 253, 3) := by decide +kernel
theorem dX11_restoreSnapshot_52 : decode cX11_restoreSnapshot 52 = .ok (.aload_n 0, 1) := by decide +kernel
theorem dX11_restoreSnapshot_53 : decode cX11_restoreSnapshot 53 = .ok (.getfield 74, 3) := by decide +kernel
theorem dX11_restoreSnapshot_56 : decode cX11_restoreSnapshot 56 = .ok (.getfield 331, 3) := by decide +kernel
theorem dX11_restoreSnapshot_59 : decode cX11_restoreSnapshot 59 = .ok (.invokevirtual 293, 3) := by decide +kernel
theorem dX11_restoreSnapshot_62 : decode cX11_restoreSnapshot 62 = .ok (.aload_n 0, 1) := by decide +kernel
theorem dX11_restoreSnapshot_63 : decode cX11_restoreSnapshot 63 = .ok (.getfield 39, 3) := by decide +kernel
theorem dX11_restoreSnapshot_66 : decode cX11_restoreSnapshot 66 = .ok (.iconst 0, 1) := by decide +kernel
theorem dX11_restoreSnapshot_67 : decode cX11_restoreSnapshot 67 = .ok (.putfield 86, 3) := by decide +kernel
theorem dX11_restoreSnapshot_70 : decode cX11_restoreSnapshot 70 = .ok (.aload_n 0, 1) := by decide +kernel
theorem dX11_restoreSnapshot_71 : decode cX11_restoreSnapshot 71 = .ok (.getfield 14, 3) := by decide +kernel
theorem dX11_restoreSnapshot_74 : decode cX11_restoreSnapshot 74 = .ok (.getfield 78, 3) := by decide +kernel
theorem dX11_restoreSnapshot_77 : decode cX11_restoreSnapshot 77 = .ok (.ireturn, 1) := by decide +kernel
theorem dX11_isVertex_0 : decode cX11_isVertex 0 = .ok (.iload_n 1, 1) := by decide +kernel
theorem dX11_isVertex_1 : decode cX11_isVertex 1 = .ok (.ifCond .lt 18, 3) := by decide +kernel
theorem dX11_isVertex_4 : decode cX11_isVertex 4 = .ok (.iload_n 1, 1) := by decide +kernel
theorem dX11_isVertex_5 : decode cX11_isVertex 5 = .ok (.aload_n 0, 1) := by decide +kernel
theorem dX11_isVertex_6 : decode cX11_isVertex 6 = .ok (.getfield 14, 3) := by decide +kernel
theorem dX11_isVertex_9 : decode cX11_isVertex 9 = .ok (.getfield 78, 3) := by decide +kernel
theorem dX11_isVertex_12 : decode cX11_isVertex 12 = .ok (.if_icmp .ge 7, 3) := by decide +kernel
theorem dX11_isVertex_15 : decode cX11_isVertex 15 = .ok (.iconst 1, 1) := by decide +kernel
theorem dX11_isVertex_16 : decode cX11_isVertex 16 = .ok (.goto 4, 3) := by decide +kernel
theorem dX11_isVertex_19 : decode cX11_isVertex 19 = .ok (.iconst 0, 1) := by decide +kernel
theorem dX11_isVertex_20 : decode cX11_isVertex 20 = .ok (.ireturn, 1) := by decide +kernel
theorem dX11_isCode_0 : decode cX11_isCode 0 = .ok (.iload_n 1, 1) := by decide +kernel
theorem dX11_isCode_1 : decode cX11_isCode 1 = .ok (.ifCond .lt 18, 3) := by decide +kernel
theorem dX11_isCode_4 : decode cX11_isCode 4 = .ok (.iload_n 1, 1) := by decide +kernel
theorem dX11_isCode_5 : decode cX11_isCode 5 = .ok (.aload_n 0, 1) := by decide +kernel
theorem dX11_isCode_6 : decode cX11_isCode 6 = .ok (.getfield 14, 3) := by decide +kernel
theorem dX11_isCode_9 : decode cX11_isCode 9 = .ok (.invokevirtual 137, 3) := by decide +kernel
theorem dX11_isCode_12 : decode cX11_isCode 12 = .ok (.if_icmp .gt 7, 3) := by decide +kernel
theorem dX11_isCode_15 : decode cX11_isCode 15 = .ok (.iconst 1, 1) := by decide +kernel
theorem dX11_isCode_16 : decode cX11_isCode 16 = .ok (.goto 4, 3) := by decide +kernel
theorem dX11_isCode_19 : decode cX11_isCode 19 = .ok (.iconst 0, 1) := by decide +kernel
theorem dX11_isCode_20 : decode cX11_isCode 20 = .ok (.ireturn, 1) := by decide +kernel
theorem dX11_isTest_0 : decode cX11_isTest 0 = .ok (.iload_n 1, 1) := by decide +kernel
theorem dX11_isTest_1 : decode cX11_isTest 1 = .ok (.ifCond .lt 18, 3) := by decide +kernel
theorem dX11_isTest_4 : decode cX11_isTest 4 = .ok (.iload_n 1, 1) := by decide +kernel
theorem dX11_isTest_5 : decode cX11_isTest 5 = .ok (.aload_n 0, 1) := by decide +kernel
theorem dX11_isTest_6 : decode cX11_isTest 6 = .ok (.getfield 46, 3) := by decide +kernel
theorem dX11_isTest_9 : decode cX11_isTest 9 = .ok (.getfield 248, 3) := by decide +kernel
theorem dX11_isTest_12 : decode cX11_isTest 12 = .ok (.if_icmp .ge 7, 3) := by decide +kernel
theorem dX11_isTest_15 : decode cX11_isTest 15 = .ok (.iconst 1, 1) := by decide +kernel
theorem dX11_isTest_16 : decode cX11_isTest 16 = .ok (.goto 4, 3) := by decide +kernel
theorem dX11_isTest_19 : decode cX11_isTest 19 = .ok (.iconst 0, 1) := by decide +kernel
theorem dX11_isTest_20 : decode cX11_isTest 20 = .ok (.ireturn, 1) := by decide +kernel
theorem dX11_isVariable_0 : decode cX11_isVariable 0 = .ok (.iload_n 0, 1) := by decide +kernel
theorem dX11_isVariable_1 : decode cX11_isVariable 1 = .ok (.ifCond .lt 13, 3) := by decide +kernel
theorem dX11_isVariable_4 : decode cX11_isVariable 4 = .ok (.iload_n 0, 1) := by decide +kernel
theorem dX11_isVariable_5 : decode cX11_isVariable 5 = .ok (.bipush 7, 2) := by decide +kernel
theorem dX11_isVariable_7 : decode cX11_isVariable 7 = .ok (.if_icmp .ge 7, 3) := by decide +kernel
theorem dX11_isVariable_10 : decode cX11_isVariable 10 = .ok (.iconst 1, 1) := by decide +kernel
theorem dX11_isVariable_11 : decode cX11_isVariable 11 = .ok (.goto 4, 3) := by decide +kernel
