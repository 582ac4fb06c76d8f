section
-- ===== PART A: goes FIRST, ahead of the names: the tables' words, and 'selects' of the private methods out of them =====
/-- a private method of a class that the tables say can be made, by its rows of tables_1 -/
def lw_okq (q : MethodName × Nat) : Prop := (q.1.cls ≠ "java/lang/invoke/MethodHandle" ∧ q.1.cls ≠ "java/lang/invoke/VarHandle") ∧ Cond.instantiable q.1.cls q.2 ∈ tables_1 ∧ Cond.privateMethod q.1 ∈ tables_1 ∧ Cond.instanceMethod q.1 ∈ tables_1
theorem lw_p0 : lw_okq (⟨"EdgeIdeals", "replaceGraph", "(IJ)V"⟩, 9) := ⟨⟨by decide +kernel, by decide +kernel⟩, List.mem_of_getElem? (i := 19) (by decide +kernel), List.mem_of_getElem? (i := 307) (by decide +kernel), List.mem_of_getElem? (i := 308) (by decide +kernel)⟩
theorem lw_p1 : lw_okq (⟨"EdgeIdeals", "isVertex", "(I)Z"⟩, 9) := ⟨⟨by decide +kernel, by decide +kernel⟩, List.mem_of_getElem? (i := 19) (by decide +kernel), List.mem_of_getElem? (i := 323) (by decide +kernel), List.mem_of_getElem? (i := 324) (by decide +kernel)⟩
theorem lw_p2 : lw_okq (⟨"EdgeIdeals", "recordChange", "(J)V"⟩, 9) := ⟨⟨by decide +kernel, by decide +kernel⟩, List.mem_of_getElem? (i := 19) (by decide +kernel), List.mem_of_getElem? (i := 330) (by decide +kernel), List.mem_of_getElem? (i := 331) (by decide +kernel)⟩
theorem lw_p3 : lw_okq (⟨"EdgeIdeals", "isCode", "(I)Z"⟩, 9) := ⟨⟨by decide +kernel, by decide +kernel⟩, List.mem_of_getElem? (i := 19) (by decide +kernel), List.mem_of_getElem? (i := 544) (by decide +kernel), List.mem_of_getElem? (i := 545) (by decide +kernel)⟩
theorem lw_p4 : lw_okq (⟨"EdgeIdeals", "stepError", "(III)I"⟩, 9) := ⟨⟨by decide +kernel, by decide +kernel⟩, List.mem_of_getElem? (i := 19) (by decide +kernel), List.mem_of_getElem? (i := 661) (by decide +kernel), List.mem_of_getElem? (i := 662) (by decide +kernel)⟩
theorem lw_p5 : lw_okq (⟨"EdgeIdeals", "isTest", "(I)Z"⟩, 9) := ⟨⟨by decide +kernel, by decide +kernel⟩, List.mem_of_getElem? (i := 19) (by decide +kernel), List.mem_of_getElem? (i := 773) (by decide +kernel), List.mem_of_getElem? (i := 774) (by decide +kernel)⟩
theorem lw_p6 : lw_okq (⟨"EdgeIdeals", "fillList", "(LEdgeIdeals$Row;)I"⟩, 9) := ⟨⟨by decide +kernel, by decide +kernel⟩, List.mem_of_getElem? (i := 19) (by decide +kernel), List.mem_of_getElem? (i := 822) (by decide +kernel), List.mem_of_getElem? (i := 823) (by decide +kernel)⟩
theorem lw_p7 : lw_okq (⟨"EdgeIdeals", "slotError", "(II)I"⟩, 9) := ⟨⟨by decide +kernel, by decide +kernel⟩, List.mem_of_getElem? (i := 19) (by decide +kernel), List.mem_of_getElem? (i := 1009) (by decide +kernel), List.mem_of_getElem? (i := 1010) (by decide +kernel)⟩
theorem lw_p8 : lw_okq (⟨"EdgeIdealsModel", "isVertex", "(I)Z"⟩, 31) := ⟨⟨by decide +kernel, by decide +kernel⟩, List.mem_of_getElem? (i := 1049) (by decide +kernel), List.mem_of_getElem? (i := 1163) (by decide +kernel), List.mem_of_getElem? (i := 1164) (by decide +kernel)⟩
theorem lw_p9 : lw_okq (⟨"EdgeIdealsModel", "recordChange", "()V"⟩, 31) := ⟨⟨by decide +kernel, by decide +kernel⟩, List.mem_of_getElem? (i := 1049) (by decide +kernel), List.mem_of_getElem? (i := 1167) (by decide +kernel), List.mem_of_getElem? (i := 1168) (by decide +kernel)⟩
theorem lw_p10 : lw_okq (⟨"EdgeIdealsModel", "isEdge", "(II)Z"⟩, 31) := ⟨⟨by decide +kernel, by decide +kernel⟩, List.mem_of_getElem? (i := 1049) (by decide +kernel), List.mem_of_getElem? (i := 1171) (by decide +kernel), List.mem_of_getElem? (i := 1172) (by decide +kernel)⟩
theorem lw_p11 : lw_okq (⟨"EdgeIdealsModel", "hasBuiltEdge", "(III)Z"⟩, 31) := ⟨⟨by decide +kernel, by decide +kernel⟩, List.mem_of_getElem? (i := 1049) (by decide +kernel), List.mem_of_getElem? (i := 1180) (by decide +kernel), List.mem_of_getElem? (i := 1181) (by decide +kernel)⟩
theorem lw_p12 : lw_okq (⟨"EdgeIdealsModel", "reachable", "(I)I"⟩, 31) := ⟨⟨by decide +kernel, by decide +kernel⟩, List.mem_of_getElem? (i := 1049) (by decide +kernel), List.mem_of_getElem? (i := 1208) (by decide +kernel), List.mem_of_getElem? (i := 1209) (by decide +kernel)⟩
theorem lw_p13 : lw_okq (⟨"EdgeIdealsModel", "allVertices", "()I"⟩, 31) := ⟨⟨by decide +kernel, by decide +kernel⟩, List.mem_of_getElem? (i := 1049) (by decide +kernel), List.mem_of_getElem? (i := 1216) (by decide +kernel), List.mem_of_getElem? (i := 1217) (by decide +kernel)⟩
theorem lw_p14 : lw_okq (⟨"EdgeIdealsModel", "matchingWithin", "(I)I"⟩, 31) := ⟨⟨by decide +kernel, by decide +kernel⟩, List.mem_of_getElem? (i := 1049) (by decide +kernel), List.mem_of_getElem? (i := 1224) (by decide +kernel), List.mem_of_getElem? (i := 1225) (by decide +kernel)⟩
theorem lw_p15 : lw_okq (⟨"EdgeIdealsModel", "update", "()V"⟩, 31) := ⟨⟨by decide +kernel, by decide +kernel⟩, List.mem_of_getElem? (i := 1049) (by decide +kernel), List.mem_of_getElem? (i := 1232) (by decide +kernel), List.mem_of_getElem? (i := 1233) (by decide +kernel)⟩
def lw_privs_1 : List (MethodName × Nat) := [(⟨"EdgeIdeals", "replaceGraph", "(IJ)V"⟩, 9), (⟨"EdgeIdeals", "isVertex", "(I)Z"⟩, 9), (⟨"EdgeIdeals", "recordChange", "(J)V"⟩, 9), (⟨"EdgeIdeals", "isCode", "(I)Z"⟩, 9), (⟨"EdgeIdeals", "stepError", "(III)I"⟩, 9), (⟨"EdgeIdeals", "isTest", "(I)Z"⟩, 9), (⟨"EdgeIdeals", "fillList", "(LEdgeIdeals$Row;)I"⟩, 9), (⟨"EdgeIdeals", "slotError", "(II)I"⟩, 9), (⟨"EdgeIdealsModel", "isVertex", "(I)Z"⟩, 31), (⟨"EdgeIdealsModel", "recordChange", "()V"⟩, 31), (⟨"EdgeIdealsModel", "isEdge", "(II)Z"⟩, 31), (⟨"EdgeIdealsModel", "hasBuiltEdge", "(III)Z"⟩, 31), (⟨"EdgeIdealsModel", "reachable", "(I)I"⟩, 31), (⟨"EdgeIdealsModel", "allVertices", "()I"⟩, 31), (⟨"EdgeIdealsModel", "matchingWithin", "(I)I"⟩, 31), (⟨"EdgeIdealsModel", "update", "()V"⟩, 31)]
theorem lw_r1 : ∀ q ∈ lw_privs_1, lw_okq q := List.forall_mem_cons.mpr ⟨lw_p0, List.forall_mem_cons.mpr ⟨lw_p1, List.forall_mem_cons.mpr ⟨lw_p2, List.forall_mem_cons.mpr ⟨lw_p3, List.forall_mem_cons.mpr ⟨lw_p4, List.forall_mem_cons.mpr ⟨lw_p5, List.forall_mem_cons.mpr ⟨lw_p6, List.forall_mem_cons.mpr ⟨lw_p7, List.forall_mem_cons.mpr ⟨lw_p8, List.forall_mem_cons.mpr ⟨lw_p9, List.forall_mem_cons.mpr ⟨lw_p10, List.forall_mem_cons.mpr ⟨lw_p11, List.forall_mem_cons.mpr ⟨lw_p12, List.forall_mem_cons.mpr ⟨lw_p13, List.forall_mem_cons.mpr ⟨lw_p14, List.forall_mem_cons.mpr ⟨lw_p15, fun _ h => absurd h List.not_mem_nil⟩⟩⟩⟩⟩⟩⟩⟩⟩⟩⟩⟩⟩⟩⟩⟩
theorem lw_p16 : lw_okq (⟨"EdgeIdealsModel", "isMinimalCover", "(I)Z"⟩, 31) := ⟨⟨by decide +kernel, by decide +kernel⟩, List.mem_of_getElem? (i := 1049) (by decide +kernel), List.mem_of_getElem? (i := 1236) (by decide +kernel), List.mem_of_getElem? (i := 1237) (by decide +kernel)⟩
theorem lw_p17 : lw_okq (⟨"EdgeIdealsModel", "isCover", "(I)Z"⟩, 31) := ⟨⟨by decide +kernel, by decide +kernel⟩, List.mem_of_getElem? (i := 1049) (by decide +kernel), List.mem_of_getElem? (i := 1240) (by decide +kernel), List.mem_of_getElem? (i := 1241) (by decide +kernel)⟩
theorem lw_p18 : lw_okq (⟨"EdgeIdealsModel", "codeCount", "()I"⟩, 31) := ⟨⟨by decide +kernel, by decide +kernel⟩, List.mem_of_getElem? (i := 1049) (by decide +kernel), List.mem_of_getElem? (i := 1244) (by decide +kernel), List.mem_of_getElem? (i := 1245) (by decide +kernel)⟩
theorem lw_p19 : lw_okq (⟨"EdgeIdealsModel", "findPowerOrder", "(I)I"⟩, 31) := ⟨⟨by decide +kernel, by decide +kernel⟩, List.mem_of_getElem? (i := 1049) (by decide +kernel), List.mem_of_getElem? (i := 1248) (by decide +kernel), List.mem_of_getElem? (i := 1249) (by decide +kernel)⟩
theorem lw_p20 : lw_okq (⟨"EdgeIdealsModel", "findSymbolicOrder", "(I)I"⟩, 31) := ⟨⟨by decide +kernel, by decide +kernel⟩, List.mem_of_getElem? (i := 1049) (by decide +kernel), List.mem_of_getElem? (i := 1255) (by decide +kernel), List.mem_of_getElem? (i := 1256) (by decide +kernel)⟩
theorem lw_p21 : lw_okq (⟨"EdgeIdealsModel", "eliminate", "(I)V"⟩, 31) := ⟨⟨by decide +kernel, by decide +kernel⟩, List.mem_of_getElem? (i := 1049) (by decide +kernel), List.mem_of_getElem? (i := 1275) (by decide +kernel), List.mem_of_getElem? (i := 1276) (by decide +kernel)⟩
theorem lw_p22 : lw_okq (⟨"EdgeIdealsModel", "isSimplicial", "(III)Z"⟩, 31) := ⟨⟨by decide +kernel, by decide +kernel⟩, List.mem_of_getElem? (i := 1049) (by decide +kernel), List.mem_of_getElem? (i := 1279) (by decide +kernel), List.mem_of_getElem? (i := 1280) (by decide +kernel)⟩
theorem lw_p23 : lw_okq (⟨"EdgeIdealsModel", "isAdjacentIn", "(III)Z"⟩, 31) := ⟨⟨by decide +kernel, by decide +kernel⟩, List.mem_of_getElem? (i := 1049) (by decide +kernel), List.mem_of_getElem? (i := 1283) (by decide +kernel), List.mem_of_getElem? (i := 1284) (by decide +kernel)⟩
theorem lw_p24 : lw_okq (⟨"EdgeIdealsModel", "isCode", "(I)Z"⟩, 31) := ⟨⟨by decide +kernel, by decide +kernel⟩, List.mem_of_getElem? (i := 1049) (by decide +kernel), List.mem_of_getElem? (i := 1299) (by decide +kernel), List.mem_of_getElem? (i := 1300) (by decide +kernel)⟩
theorem lw_p25 : lw_okq (⟨"EdgeIdealsModel", "combined", "(IIZ)I"⟩, 31) := ⟨⟨by decide +kernel, by decide +kernel⟩, List.mem_of_getElem? (i := 1049) (by decide +kernel), List.mem_of_getElem? (i := 1333) (by decide +kernel), List.mem_of_getElem? (i := 1334) (by decide +kernel)⟩
theorem lw_p26 : lw_okq (⟨"EdgeIdealsModel", "countGenerators", "(IZ)I"⟩, 31) := ⟨⟨by decide +kernel, by decide +kernel⟩, List.mem_of_getElem? (i := 1049) (by decide +kernel), List.mem_of_getElem? (i := 1345) (by decide +kernel), List.mem_of_getElem? (i := 1346) (by decide +kernel)⟩
theorem lw_p27 : lw_okq (⟨"EdgeIdealsModel", "findGenerators", "(IZ)V"⟩, 31) := ⟨⟨by decide +kernel, by decide +kernel⟩, List.mem_of_getElem? (i := 1049) (by decide +kernel), List.mem_of_getElem? (i := 1353) (by decide +kernel), List.mem_of_getElem? (i := 1354) (by decide +kernel)⟩
theorem lw_p28 : lw_okq (⟨"EdgeIdealsModel", "isGenerator", "(IIZ)Z"⟩, 31) := ⟨⟨by decide +kernel, by decide +kernel⟩, List.mem_of_getElem? (i := 1049) (by decide +kernel), List.mem_of_getElem? (i := 1357) (by decide +kernel), List.mem_of_getElem? (i := 1358) (by decide +kernel)⟩
theorem lw_p29 : lw_okq (⟨"EdgeIdealsModel", "isIn", "(IIZ)Z"⟩, 31) := ⟨⟨by decide +kernel, by decide +kernel⟩, List.mem_of_getElem? (i := 1049) (by decide +kernel), List.mem_of_getElem? (i := 1361) (by decide +kernel), List.mem_of_getElem? (i := 1362) (by decide +kernel)⟩
theorem lw_p30 : lw_okq (⟨"EdgeIdealsModel", "generatorAt", "(IZI)I"⟩, 31) := ⟨⟨by decide +kernel, by decide +kernel⟩, List.mem_of_getElem? (i := 1049) (by decide +kernel), List.mem_of_getElem? (i := 1369) (by decide +kernel), List.mem_of_getElem? (i := 1370) (by decide +kernel)⟩
theorem lw_p31 : lw_okq (⟨"EdgeIdealsModel", "countIn", "(IIZ)I"⟩, 31) := ⟨⟨by decide +kernel, by decide +kernel⟩, List.mem_of_getElem? (i := 1049) (by decide +kernel), List.mem_of_getElem? (i := 1393) (by decide +kernel), List.mem_of_getElem? (i := 1394) (by decide +kernel)⟩
def lw_privs_2 : List (MethodName × Nat) := [(⟨"EdgeIdealsModel", "isMinimalCover", "(I)Z"⟩, 31), (⟨"EdgeIdealsModel", "isCover", "(I)Z"⟩, 31), (⟨"EdgeIdealsModel", "codeCount", "()I"⟩, 31), (⟨"EdgeIdealsModel", "findPowerOrder", "(I)I"⟩, 31), (⟨"EdgeIdealsModel", "findSymbolicOrder", "(I)I"⟩, 31), (⟨"EdgeIdealsModel", "eliminate", "(I)V"⟩, 31), (⟨"EdgeIdealsModel", "isSimplicial", "(III)Z"⟩, 31), (⟨"EdgeIdealsModel", "isAdjacentIn", "(III)Z"⟩, 31), (⟨"EdgeIdealsModel", "isCode", "(I)Z"⟩, 31), (⟨"EdgeIdealsModel", "combined", "(IIZ)I"⟩, 31), (⟨"EdgeIdealsModel", "countGenerators", "(IZ)I"⟩, 31), (⟨"EdgeIdealsModel", "findGenerators", "(IZ)V"⟩, 31), (⟨"EdgeIdealsModel", "isGenerator", "(IIZ)Z"⟩, 31), (⟨"EdgeIdealsModel", "isIn", "(IIZ)Z"⟩, 31), (⟨"EdgeIdealsModel", "generatorAt", "(IZI)I"⟩, 31), (⟨"EdgeIdealsModel", "countIn", "(IIZ)I"⟩, 31)]
theorem lw_r2 : ∀ q ∈ lw_privs_2, lw_okq q := List.forall_mem_cons.mpr ⟨lw_p16, List.forall_mem_cons.mpr ⟨lw_p17, List.forall_mem_cons.mpr ⟨lw_p18, List.forall_mem_cons.mpr ⟨lw_p19, List.forall_mem_cons.mpr ⟨lw_p20, List.forall_mem_cons.mpr ⟨lw_p21, List.forall_mem_cons.mpr ⟨lw_p22, List.forall_mem_cons.mpr ⟨lw_p23, List.forall_mem_cons.mpr ⟨lw_p24, List.forall_mem_cons.mpr ⟨lw_p25, List.forall_mem_cons.mpr ⟨lw_p26, List.forall_mem_cons.mpr ⟨lw_p27, List.forall_mem_cons.mpr ⟨lw_p28, List.forall_mem_cons.mpr ⟨lw_p29, List.forall_mem_cons.mpr ⟨lw_p30, List.forall_mem_cons.mpr ⟨lw_p31, fun _ h => absurd h List.not_mem_nil⟩⟩⟩⟩⟩⟩⟩⟩⟩⟩⟩⟩⟩⟩⟩⟩
theorem lw_p32 : lw_okq (⟨"EdgeIdealsModel", "orderError", "(III)I"⟩, 31) := ⟨⟨by decide +kernel, by decide +kernel⟩, List.mem_of_getElem? (i := 1049) (by decide +kernel), List.mem_of_getElem? (i := 1406) (by decide +kernel), List.mem_of_getElem? (i := 1407) (by decide +kernel)⟩
theorem lw_p33 : lw_okq (⟨"EdgeIdealsModel", "readOrder", "(I)Z"⟩, 31) := ⟨⟨by decide +kernel, by decide +kernel⟩, List.mem_of_getElem? (i := 1049) (by decide +kernel), List.mem_of_getElem? (i := 1410) (by decide +kernel), List.mem_of_getElem? (i := 1411) (by decide +kernel)⟩
theorem lw_p34 : lw_okq (⟨"EdgeIdealsModel", "sortGenerators", "(I)V"⟩, 31) := ⟨⟨by decide +kernel, by decide +kernel⟩, List.mem_of_getElem? (i := 1049) (by decide +kernel), List.mem_of_getElem? (i := 1414) (by decide +kernel), List.mem_of_getElem? (i := 1415) (by decide +kernel)⟩
theorem lw_p35 : lw_okq (⟨"EdgeIdealsModel", "isBefore", "(II)Z"⟩, 31) := ⟨⟨by decide +kernel, by decide +kernel⟩, List.mem_of_getElem? (i := 1049) (by decide +kernel), List.mem_of_getElem? (i := 1418) (by decide +kernel), List.mem_of_getElem? (i := 1419) (by decide +kernel)⟩
theorem lw_p36 : lw_okq (⟨"EdgeIdealsModel", "colonSet", "(I)I"⟩, 31) := ⟨⟨by decide +kernel, by decide +kernel⟩, List.mem_of_getElem? (i := 1049) (by decide +kernel), List.mem_of_getElem? (i := 1426) (by decide +kernel), List.mem_of_getElem? (i := 1427) (by decide +kernel)⟩
theorem lw_p37 : lw_okq (⟨"EdgeIdealsModel", "singleStep", "(II)I"⟩, 31) := ⟨⟨by decide +kernel, by decide +kernel⟩, List.mem_of_getElem? (i := 1049) (by decide +kernel), List.mem_of_getElem? (i := 1430) (by decide +kernel), List.mem_of_getElem? (i := 1431) (by decide +kernel)⟩
theorem lw_p38 : lw_okq (⟨"EdgeIdealsModel", "isLinear", "(I)Z"⟩, 31) := ⟨⟨by decide +kernel, by decide +kernel⟩, List.mem_of_getElem? (i := 1049) (by decide +kernel), List.mem_of_getElem? (i := 1438) (by decide +kernel), List.mem_of_getElem? (i := 1439) (by decide +kernel)⟩
theorem lw_p39 : lw_okq (⟨"EdgeIdealsModel", "firstNonLinear", "()I"⟩, 31) := ⟨⟨by decide +kernel, by decide +kernel⟩, List.mem_of_getElem? (i := 1049) (by decide +kernel), List.mem_of_getElem? (i := 1446) (by decide +kernel), List.mem_of_getElem? (i := 1447) (by decide +kernel)⟩
theorem lw_p40 : lw_okq (⟨"EdgeIdealsModel", "addTest", "(ZIII)I"⟩, 31) := ⟨⟨by decide +kernel, by decide +kernel⟩, List.mem_of_getElem? (i := 1049) (by decide +kernel), List.mem_of_getElem? (i := 1462) (by decide +kernel), List.mem_of_getElem? (i := 1463) (by decide +kernel)⟩
theorem lw_p41 : lw_okq (⟨"EdgeIdealsModel", "isTest", "(I)Z"⟩, 31) := ⟨⟨by decide +kernel, by decide +kernel⟩, List.mem_of_getElem? (i := 1049) (by decide +kernel), List.mem_of_getElem? (i := 1487) (by decide +kernel), List.mem_of_getElem? (i := 1488) (by decide +kernel)⟩
theorem lw_p42 : lw_okq (⟨"EdgeIdealsModel", "isPassed", "(II)Z"⟩, 31) := ⟨⟨by decide +kernel, by decide +kernel⟩, List.mem_of_getElem? (i := 1049) (by decide +kernel), List.mem_of_getElem? (i := 1507) (by decide +kernel), List.mem_of_getElem? (i := 1508) (by decide +kernel)⟩
theorem lw_p43 : lw_okq (⟨"EdgeIdealsModel", "fill", "(IZ)I"⟩, 31) := ⟨⟨by decide +kernel, by decide +kernel⟩, List.mem_of_getElem? (i := 1049) (by decide +kernel), List.mem_of_getElem? (i := 1527) (by decide +kernel), List.mem_of_getElem? (i := 1528) (by decide +kernel)⟩
theorem lw_p44 : lw_okq (⟨"EdgeIdealsModel", "isRedundant", "(I)Z"⟩, 31) := ⟨⟨by decide +kernel, by decide +kernel⟩, List.mem_of_getElem? (i := 1049) (by decide +kernel), List.mem_of_getElem? (i := 1551) (by decide +kernel), List.mem_of_getElem? (i := 1552) (by decide +kernel)⟩
theorem lw_p45 : lw_okq (⟨"EdgeIdealsModel", "isPosition", "(I)Z"⟩, 31) := ⟨⟨by decide +kernel, by decide +kernel⟩, List.mem_of_getElem? (i := 1049) (by decide +kernel), List.mem_of_getElem? (i := 1568) (by decide +kernel), List.mem_of_getElem? (i := 1569) (by decide +kernel)⟩
theorem lw_p46 : lw_okq (⟨"EdgeIdealsModel", "greatestExponent", "(I)I"⟩, 31) := ⟨⟨by decide +kernel, by decide +kernel⟩, List.mem_of_getElem? (i := 1049) (by decide +kernel), List.mem_of_getElem? (i := 1586) (by decide +kernel), List.mem_of_getElem? (i := 1587) (by decide +kernel)⟩
theorem lw_p47 : lw_okq (⟨"EdgeIdealsModel", "current", "()I"⟩, 31) := ⟨⟨by decide +kernel, by decide +kernel⟩, List.mem_of_getElem? (i := 1049) (by decide +kernel), List.mem_of_getElem? (i := 1614) (by decide +kernel), List.mem_of_getElem? (i := 1615) (by decide +kernel)⟩
def lw_privs_3 : List (MethodName × Nat) := [(⟨"EdgeIdealsModel", "orderError", "(III)I"⟩, 31), (⟨"EdgeIdealsModel", "readOrder", "(I)Z"⟩, 31), (⟨"EdgeIdealsModel", "sortGenerators", "(I)V"⟩, 31), (⟨"EdgeIdealsModel", "isBefore", "(II)Z"⟩, 31), (⟨"EdgeIdealsModel", "colonSet", "(I)I"⟩, 31), (⟨"EdgeIdealsModel", "singleStep", "(II)I"⟩, 31), (⟨"EdgeIdealsModel", "isLinear", "(I)Z"⟩, 31), (⟨"EdgeIdealsModel", "firstNonLinear", "()I"⟩, 31), (⟨"EdgeIdealsModel", "addTest", "(ZIII)I"⟩, 31), (⟨"EdgeIdealsModel", "isTest", "(I)Z"⟩, 31), (⟨"EdgeIdealsModel", "isPassed", "(II)Z"⟩, 31), (⟨"EdgeIdealsModel", "fill", "(IZ)I"⟩, 31), (⟨"EdgeIdealsModel", "isRedundant", "(I)Z"⟩, 31), (⟨"EdgeIdealsModel", "isPosition", "(I)Z"⟩, 31), (⟨"EdgeIdealsModel", "greatestExponent", "(I)I"⟩, 31), (⟨"EdgeIdealsModel", "current", "()I"⟩, 31)]
theorem lw_r3 : ∀ q ∈ lw_privs_3, lw_okq q := List.forall_mem_cons.mpr ⟨lw_p32, List.forall_mem_cons.mpr ⟨lw_p33, List.forall_mem_cons.mpr ⟨lw_p34, List.forall_mem_cons.mpr ⟨lw_p35, List.forall_mem_cons.mpr ⟨lw_p36, List.forall_mem_cons.mpr ⟨lw_p37, List.forall_mem_cons.mpr ⟨lw_p38, List.forall_mem_cons.mpr ⟨lw_p39, List.forall_mem_cons.mpr ⟨lw_p40, List.forall_mem_cons.mpr ⟨lw_p41, List.forall_mem_cons.mpr ⟨lw_p42, List.forall_mem_cons.mpr ⟨lw_p43, List.forall_mem_cons.mpr ⟨lw_p44, List.forall_mem_cons.mpr ⟨lw_p45, List.forall_mem_cons.mpr ⟨lw_p46, List.forall_mem_cons.mpr ⟨lw_p47, fun _ h => absurd h List.not_mem_nil⟩⟩⟩⟩⟩⟩⟩⟩⟩⟩⟩⟩⟩⟩⟩⟩
theorem lw_p48 : lw_okq (⟨"EdgeIdealsModel", "readMonomial", "()I"⟩, 31) := ⟨⟨by decide +kernel, by decide +kernel⟩, List.mem_of_getElem? (i := 1049) (by decide +kernel), List.mem_of_getElem? (i := 1618) (by decide +kernel), List.mem_of_getElem? (i := 1619) (by decide +kernel)⟩
theorem lw_p49 : lw_okq (⟨"EdgeIdealsModel", "format", "()V"⟩, 31) := ⟨⟨by decide +kernel, by decide +kernel⟩, List.mem_of_getElem? (i := 1049) (by decide +kernel), List.mem_of_getElem? (i := 1627) (by decide +kernel), List.mem_of_getElem? (i := 1628) (by decide +kernel)⟩
theorem lw_p50 : lw_okq (⟨"EdgeIdealsModel", "write", "(I)V"⟩, 31) := ⟨⟨by decide +kernel, by decide +kernel⟩, List.mem_of_getElem? (i := 1049) (by decide +kernel), List.mem_of_getElem? (i := 1631) (by decide +kernel), List.mem_of_getElem? (i := 1632) (by decide +kernel)⟩
theorem lw_p51 : lw_okq (⟨"EdgeIdealsModel", "slotError", "(II)I"⟩, 31) := ⟨⟨by decide +kernel, by decide +kernel⟩, List.mem_of_getElem? (i := 1049) (by decide +kernel), List.mem_of_getElem? (i := 1650) (by decide +kernel), List.mem_of_getElem? (i := 1651) (by decide +kernel)⟩
def lw_privs_4 : List (MethodName × Nat) := [(⟨"EdgeIdealsModel", "readMonomial", "()I"⟩, 31), (⟨"EdgeIdealsModel", "format", "()V"⟩, 31), (⟨"EdgeIdealsModel", "write", "(I)V"⟩, 31), (⟨"EdgeIdealsModel", "slotError", "(II)I"⟩, 31)]
theorem lw_r4 : ∀ q ∈ lw_privs_4, lw_okq q := List.forall_mem_cons.mpr ⟨lw_p48, List.forall_mem_cons.mpr ⟨lw_p49, List.forall_mem_cons.mpr ⟨lw_p50, List.forall_mem_cons.mpr ⟨lw_p51, fun _ h => absurd h List.not_mem_nil⟩⟩⟩⟩
def lw_privs : List (MethodName × Nat) := lw_privs_1 ++ (lw_privs_2 ++ (lw_privs_3 ++ (lw_privs_4)))
def lw_tbl : List Cond := k2_sels lw_privs ++ tables_1
theorem lw_privs_ok : ∀ q ∈ lw_privs, lw_okq q := by
  show ∀ q ∈ lw_privs_1 ++ (lw_privs_2 ++ (lw_privs_3 ++ (lw_privs_4))), lw_okq q
  exact List.forall_mem_append.mpr ⟨lw_r1, List.forall_mem_append.mpr ⟨lw_r2, List.forall_mem_append.mpr ⟨lw_r3, lw_r4⟩⟩⟩
end
section
def RX0 : String := "EdgeIdeals$ChangeHistory"
def TX0 : u_T := fun k => match k with
  | 0 => ("EdgeIdeals$ChangeHistory", "matrices", "[J", true)
  | _ => ("EdgeIdeals$ChangeHistory", "size", "I", false)
def tyX0 : Nat → FieldType := fun k => match k with
  | 0 => .array .long
  | _ => .int
abbrev wsX00 : List Cond := u_ws RX0 TX0 2
theorem nmX0 : ∀ a, a < 2 → ∀ b, b < 2 → a ≠ b → (TX0 a).2.1 ≠ (TX0 b).2.1 := by decide +kernel
theorem tyX0_ok : ∀ k, k < 2 → parseFieldDescriptor (TX0 k).2.2.1 = some (tyX0 k) := by decide +kernel
abbrev cX0_init : ByteArray := prog_2_method_1_code
def yX0_init : MethodName := ⟨RX0, "<init>", "()V"⟩
abbrev cX0_push : ByteArray := prog_2_method_2_code
def yX0_push : MethodName := ⟨RX0, "push", "(J)V"⟩
abbrev cX0_pop : ByteArray := prog_2_method_3_code
def yX0_pop : MethodName := ⟨RX0, "pop", "()J"⟩
def RX1 : String := "EdgeIdeals$Graph"
def TX1 : u_T := fun k => match k with
  | 0 => ("EdgeIdeals$Graph", "vertices", "I", false)
  | 1 => ("EdgeIdeals$Graph", "matrix", "J", false)
  | _ => ("EdgeIdeals$Graph", "removed", "LEdgeIdeals$Row;", true)
def tyX1 : Nat → FieldType := fun k => match k with
  | 0 => .int
  | 1 => .long
  | _ => .object "EdgeIdeals$Row"
abbrev wsX10 : List Cond := u_ws RX1 TX1 3
theorem nmX1 : ∀ a, a < 3 → ∀ b, b < 3 → a ≠ b → (TX1 a).2.1 ≠ (TX1 b).2.1 := by decide +kernel
theorem tyX1_ok : ∀ k, k < 3 → parseFieldDescriptor (TX1 k).2.2.1 = some (tyX1 k) := by decide +kernel
abbrev cX1_init : ByteArray := prog_3_method_1_code
def yX1_init : MethodName := ⟨RX1, "<init>", "()V"⟩
abbrev cX1_edgeBits : ByteArray := prog_3_method_2_code
def yX1_edgeBits : MethodName := ⟨RX1, "edgeBits", "(II)J"⟩
abbrev cX1_neighborsIn : ByteArray := prog_3_method_3_code
def yX1_neighborsIn : MethodName := ⟨RX1, "neighborsIn", "(JI)I"⟩
abbrev cX1_allVertices : ByteArray := prog_3_method_4_code
def yX1_allVertices : MethodName := ⟨RX1, "allVertices", "()I"⟩
abbrev cX1_greatestCode : ByteArray := prog_3_method_5_code
def yX1_greatestCode : MethodName := ⟨RX1, "greatestCode", "()I"⟩
abbrev cX1_edgeTotal : ByteArray := prog_3_method_6_code
def yX1_edgeTotal : MethodName := ⟨RX1, "edgeTotal", "()I"⟩
abbrev cX1_matrixOfKind : ByteArray := prog_3_method_7_code
def yX1_matrixOfKind : MethodName := ⟨RX1, "matrixOfKind", "(I)J"⟩
abbrev cX1_pathMatrix : ByteArray := prog_3_method_8_code
def yX1_pathMatrix : MethodName := ⟨RX1, "pathMatrix", "()J"⟩
abbrev cX1_starMatrix : ByteArray := prog_3_method_9_code
def yX1_starMatrix : MethodName := ⟨RX1, "starMatrix", "()J"⟩
abbrev cX1_completeMatrix : ByteArray := prog_3_method_10_code
def yX1_completeMatrix : MethodName := ⟨RX1, "completeMatrix", "()J"⟩
abbrev cX1_componentTotal : ByteArray := prog_3_method_11_code
def yX1_componentTotal : MethodName := ⟨RX1, "componentTotal", "()I"⟩
abbrev cX1_componentOf : ByteArray := prog_3_method_12_code
def yX1_componentOf : MethodName := ⟨RX1, "componentOf", "(I)I"⟩
abbrev cX1_isBipartite : ByteArray := prog_3_method_13_code
def yX1_isBipartite : MethodName := ⟨RX1, "isBipartite", "()Z"⟩
abbrev cX1_isIndependent : ByteArray := prog_3_method_14_code
def yX1_isIndependent : MethodName := ⟨RX1, "isIndependent", "(I)Z"⟩
abbrev cX1_isMinimalCover : ByteArray := prog_3_method_15_code
def yX1_isMinimalCover : MethodName := ⟨RX1, "isMinimalCover", "(I)Z"⟩
abbrev cX1_elimination : ByteArray := prog_3_method_16_code
def yX1_elimination : MethodName := ⟨RX1, "elimination", "(I)LEdgeIdeals$Row;"⟩
abbrev cX1_firstSimplicial : ByteArray := prog_3_method_17_code
def yX1_firstSimplicial : MethodName := ⟨RX1, "firstSimplicial", "(JI)I"⟩
abbrev cX1_isClique : ByteArray := prog_3_method_18_code
def yX1_isClique : MethodName := ⟨RX1, "isClique", "(JI)Z"⟩
def RX2 : String := "EdgeIdeals$Ideal"
def TX2 : u_T := fun k => match k with
  | 0 => ("EdgeIdeals$Ideal", "graph", "LEdgeIdeals$Graph;", true)
  | 1 => ("EdgeIdeals$Ideal", "orders", "[I", true)
  | 2 => ("EdgeIdeals$Ideal", "knownOrders", "I", false)
  | 3 => ("EdgeIdeals$Ideal", "covers", "LEdgeIdeals$Row;", true)
  | 4 => ("EdgeIdeals$Ideal", "coverMasks", "LEdgeIdeals$Row;", true)
  | 5 => ("EdgeIdeals$Ideal", "coversKnown", "Z", false)
  | 6 => ("EdgeIdeals$Ideal", "powerRows", "[LEdgeIdeals$Row;", true)
  | 7 => ("EdgeIdeals$Ideal", "powerKnown", "[Z", true)
  | 8 => ("EdgeIdeals$Ideal", "symbolicRows", "[LEdgeIdeals$Row;", true)
  | _ => ("EdgeIdeals$Ideal", "symbolicKnown", "[Z", true)
def tyX2 : Nat → FieldType := fun k => match k with
  | 0 => .object "EdgeIdeals$Graph"
  | 1 => .array .int
  | 2 => .int
  | 3 => .object "EdgeIdeals$Row"
  | 4 => .object "EdgeIdeals$Row"
  | 5 => .boolean
  | 6 => .array (.object "EdgeIdeals$Row")
  | 7 => .array .boolean
  | 8 => .array (.object "EdgeIdeals$Row")
  | _ => .array .boolean
abbrev wsX20 : List Cond := u_ws RX2 TX2 10
theorem nmX2 : ∀ a, a < 10 → ∀ b, b < 10 → a ≠ b → (TX2 a).2.1 ≠ (TX2 b).2.1 := by decide +kernel
theorem tyX2_ok : ∀ k, k < 10 → parseFieldDescriptor (TX2 k).2.2.1 = some (tyX2 k) := by decide +kernel
abbrev cX2_init : ByteArray := prog_4_method_1_code
def yX2_init : MethodName := ⟨RX2, "<init>", "(LEdgeIdeals$Graph;)V"⟩
abbrev cX2_forget : ByteArray := prog_4_method_2_code
def yX2_forget : MethodName := ⟨RX2, "forget", "()V"⟩
abbrev cX2_powerOrderOf : ByteArray := prog_4_method_3_code
def yX2_powerOrderOf : MethodName := ⟨RX2, "powerOrderOf", "(I)I"⟩
abbrev cX2_orderFromLowerCodes : ByteArray := prog_4_method_4_code
def yX2_orderFromLowerCodes : MethodName := ⟨RX2, "orderFromLowerCodes", "(I)I"⟩
abbrev cX2_minimalCovers : ByteArray := prog_4_method_5_code
def yX2_minimalCovers : MethodName := ⟨RX2, "minimalCovers", "()LEdgeIdeals$Row;"⟩
abbrev cX2_smallestCoverSize : ByteArray := prog_4_method_6_code
def yX2_smallestCoverSize : MethodName := ⟨RX2, "smallestCoverSize", "()I"⟩
abbrev cX2_largestCoverSize : ByteArray := prog_4_method_7_code
def yX2_largestCoverSize : MethodName := ⟨RX2, "largestCoverSize", "()I"⟩
abbrev cX2_symbolicOrderOf : ByteArray := prog_4_method_8_code
def yX2_symbolicOrderOf : MethodName := ⟨RX2, "symbolicOrderOf", "(I)I"⟩
abbrev cX2_generators : ByteArray := prog_4_method_9_code
def yX2_generators : MethodName := ⟨RX2, "generators", "(I)LEdgeIdeals$Row;"⟩
abbrev cX2_isListedGenerator : ByteArray := prog_4_method_10_code
def yX2_isListedGenerator : MethodName := ⟨RX2, "isListedGenerator", "(II)Z"⟩
abbrev cX2_symbolicGenerators : ByteArray := prog_4_method_11_code
def yX2_symbolicGenerators : MethodName := ⟨RX2, "symbolicGenerators", "(I)LEdgeIdeals$Row;"⟩
abbrev cX2_isSymbolicGenerator : ByteArray := prog_4_method_12_code
def yX2_isSymbolicGenerator : MethodName := ⟨RX2, "isSymbolicGenerator", "(II)Z"⟩
abbrev cX2_lowestOnlySymbolic : ByteArray := prog_4_method_13_code
def yX2_lowestOnlySymbolic : MethodName := ⟨RX2, "lowestOnlySymbolic", "(I)I"⟩
def RX3 : String := "EdgeIdeals$Input"
def TX3 : u_T := fun k => match k with
  | 0 => ("EdgeIdeals$Input", "bytes", "LEdgeIdeals$Row;", true)
  | 1 => ("EdgeIdeals$Input", "codes", "LEdgeIdeals$Row;", true)
  | 2 => ("EdgeIdeals$Input", "state", "I", false)
  | 3 => ("EdgeIdeals$Input", "code", "I", false)
  | _ => ("EdgeIdeals$Input", "lastVariable", "I", false)
def tyX3 : Nat → FieldType := fun k => match k with
  | 0 => .object "EdgeIdeals$Row"
  | 1 => .object "EdgeIdeals$Row"
  | 2 => .int
  | 3 => .int
  | _ => .int
abbrev wsX30 : List Cond := u_ws RX3 TX3 5
theorem nmX3 : ∀ a, a < 5 → ∀ b, b < 5 → a ≠ b → (TX3 a).2.1 ≠ (TX3 b).2.1 := by decide +kernel
theorem tyX3_ok : ∀ k, k < 5 → parseFieldDescriptor (TX3 k).2.2.1 = some (tyX3 k) := by decide +kernel
abbrev cX3_init : ByteArray := prog_5_method_1_code
def yX3_init : MethodName := ⟨RX3, "<init>", "()V"⟩
abbrev cX3_read : ByteArray := prog_5_method_2_code
def yX3_read : MethodName := ⟨RX3, "read", "()I"⟩
abbrev cX3_take : ByteArray := prog_5_method_3_code
def yX3_take : MethodName := ⟨RX3, "take", "(I)Z"⟩
abbrev cX3_takeComma : ByteArray := prog_5_method_4_code
def yX3_takeComma : MethodName := ⟨RX3, "takeComma", "()Z"⟩
abbrev cX3_takeOne : ByteArray := prog_5_method_5_code
def yX3_takeOne : MethodName := ⟨RX3, "takeOne", "()Z"⟩
abbrev cX3_takeDigit : ByteArray := prog_5_method_6_code
def yX3_takeDigit : MethodName := ⟨RX3, "takeDigit", "(I)Z"⟩
abbrev cX3_takeLetter : ByteArray := prog_5_method_7_code
def yX3_takeLetter : MethodName := ⟨RX3, "takeLetter", "(I)Z"⟩
def RX4 : String := "EdgeIdeals$LinearQuotients"
def TX4 : u_T := fun k => match k with
  | 0 => ("EdgeIdeals$LinearQuotients", "graph", "LEdgeIdeals$Graph;", true)
  | 1 => ("EdgeIdeals$LinearQuotients", "ideal", "LEdgeIdeals$Ideal;", true)
  | 2 => ("EdgeIdeals$LinearQuotients", "sequence", "[I", true)
  | 3 => ("EdgeIdeals$LinearQuotients", "ordered", "LEdgeIdeals$Row;", true)
  | 4 => ("EdgeIdeals$LinearQuotients", "spare", "LEdgeIdeals$Row;", true)
  | 5 => ("EdgeIdeals$LinearQuotients", "readyPower", "I", false)
  | _ => ("EdgeIdeals$LinearQuotients", "readyOrder", "I", false)
def tyX4 : Nat → FieldType := fun k => match k with
  | 0 => .object "EdgeIdeals$Graph"
  | 1 => .object "EdgeIdeals$Ideal"
  | 2 => .array .int
  | 3 => .object "EdgeIdeals$Row"
  | 4 => .object "EdgeIdeals$Row"
  | 5 => .int
  | _ => .int
abbrev wsX40 : List Cond := u_ws RX4 TX4 7
theorem nmX4 : ∀ a, a < 7 → ∀ b, b < 7 → a ≠ b → (TX4 a).2.1 ≠ (TX4 b).2.1 := by decide +kernel
theorem tyX4_ok : ∀ k, k < 7 → parseFieldDescriptor (TX4 k).2.2.1 = some (tyX4 k) := by decide +kernel
abbrev cX4_init : ByteArray := prog_6_method_1_code
def yX4_init : MethodName := ⟨RX4, "<init>", "(LEdgeIdeals$Graph;LEdgeIdeals$Ideal;)V"⟩
abbrev cX4_forget : ByteArray := prog_6_method_2_code
def yX4_forget : MethodName := ⟨RX4, "forget", "()V"⟩
abbrev cX4_prepare : ByteArray := prog_6_method_3_code
def yX4_prepare : MethodName := ⟨RX4, "prepare", "(II)Z"⟩
abbrev cX4_readSequence : ByteArray := prog_6_method_4_code
def yX4_readSequence : MethodName := ⟨RX4, "readSequence", "(I)Z"⟩
abbrev cX4_sortBySequence : ByteArray := prog_6_method_5_code
def yX4_sortBySequence : MethodName := ⟨RX4, "sortBySequence", "()V"⟩
abbrev cX4_moveToSpare : ByteArray := prog_6_method_6_code
def yX4_moveToSpare : MethodName := ⟨RX4, "moveToSpare", "(II)V"⟩
abbrev cX4_colonUnits : ByteArray := prog_6_method_7_code
def yX4_colonUnits : MethodName := ⟨RX4, "colonUnits", "(I)I"⟩
abbrev cX4_hasExchange : ByteArray := prog_6_method_8_code
def yX4_hasExchange : MethodName := ⟨RX4, "hasExchange", "(II)Z"⟩
abbrev cX4_isLinearAt : ByteArray := prog_6_method_9_code
def yX4_isLinearAt : MethodName := ⟨RX4, "isLinearAt", "(I)Z"⟩
abbrev cX4_firstNonLinear : ByteArray := prog_6_method_10_code
def yX4_firstNonLinear : MethodName := ⟨RX4, "firstNonLinear", "()I"⟩
abbrev cX4_bettiSum : ByteArray := prog_6_method_11_code
def yX4_bettiSum : MethodName := ⟨RX4, "bettiSum", "(I)J"⟩
abbrev cX4_binomial : ByteArray := prog_6_method_12_code
def yX4_binomial : MethodName := ⟨RX4, "binomial", "(II)I"⟩
def RX5 : String := "EdgeIdeals$MonomialList"
def TX5 : u_T := fun k => match k with
  | 0 => ("EdgeIdeals$MonomialList", "row", "LEdgeIdeals$Row;", true)
  | 1 => ("EdgeIdeals$MonomialList", "spare", "LEdgeIdeals$Row;", true)
  | _ => ("EdgeIdeals$MonomialList", "text", "LEdgeIdeals$Row;", true)
def tyX5 : Nat → FieldType := fun k => match k with
  | 0 => .object "EdgeIdeals$Row"
  | 1 => .object "EdgeIdeals$Row"
  | _ => .object "EdgeIdeals$Row"
abbrev wsX50 : List Cond := u_ws RX5 TX5 3
theorem nmX5 : ∀ a, a < 3 → ∀ b, b < 3 → a ≠ b → (TX5 a).2.1 ≠ (TX5 b).2.1 := by decide +kernel
theorem tyX5_ok : ∀ k, k < 3 → parseFieldDescriptor (TX5 k).2.2.1 = some (tyX5 k) := by decide +kernel
abbrev cX5_init : ByteArray := prog_7_method_1_code
def yX5_init : MethodName := ⟨RX5, "<init>", "()V"⟩
abbrev cX5_minimize : ByteArray := prog_7_method_2_code
def yX5_minimize : MethodName := ⟨RX5, "minimize", "()V"⟩
abbrev cX5_isSuperfluous : ByteArray := prog_7_method_3_code
def yX5_isSuperfluous : MethodName := ⟨RX5, "isSuperfluous", "(I)Z"⟩
abbrev cX5_decreaseExponents : ByteArray := prog_7_method_4_code
def yX5_decreaseExponents : MethodName := ⟨RX5, "decreaseExponents", "(I)V"⟩
abbrev cX5_reverse : ByteArray := prog_7_method_5_code
def yX5_reverse : MethodName := ⟨RX5, "reverse", "()V"⟩
abbrev cX5_swap : ByteArray := prog_7_method_6_code
def yX5_swap : MethodName := ⟨RX5, "swap", "(II)V"⟩
abbrev cX5_rotate : ByteArray := prog_7_method_7_code
def yX5_rotate : MethodName := ⟨RX5, "rotate", "(I)V"⟩
abbrev cX5_firstDivisorOf : ByteArray := prog_7_method_8_code
def yX5_firstDivisorOf : MethodName := ⟨RX5, "firstDivisorOf", "(I)I"⟩
abbrev cX5_greatestExponentOf : ByteArray := prog_7_method_9_code
def yX5_greatestExponentOf : MethodName := ⟨RX5, "greatestExponentOf", "(I)I"⟩
abbrev cX5_polarizedTotal : ByteArray := prog_7_method_10_code
def yX5_polarizedTotal : MethodName := ⟨RX5, "polarizedTotal", "()I"⟩
abbrev cX5_polarizationOf : ByteArray := prog_7_method_11_code
def yX5_polarizationOf : MethodName := ⟨RX5, "polarizationOf", "(I)I"⟩
abbrev cX5_smallestHittingSize : ByteArray := prog_7_method_12_code
def yX5_smallestHittingSize : MethodName := ⟨RX5, "smallestHittingSize", "()I"⟩
abbrev cX5_hitsAll : ByteArray := prog_7_method_13_code
def yX5_hitsAll : MethodName := ⟨RX5, "hitsAll", "(I)Z"⟩
abbrev cX5_formatted : ByteArray := prog_7_method_14_code
def yX5_formatted : MethodName := ⟨RX5, "formatted", "()LEdgeIdeals$Row;"⟩
abbrev cX5_formatMonomial : ByteArray := prog_7_method_15_code
def yX5_formatMonomial : MethodName := ⟨RX5, "formatMonomial", "(I)V"⟩
def RX6 : String := "EdgeIdeals$Monomials"
def TX6 : u_T := fun k => match k with
  | _ => ("", "", "", false)
def tyX6 : Nat → FieldType := fun k => match k with
  | _ => .int
abbrev wsX60 : List Cond := u_ws RX6 TX6 0
theorem nmX6 : ∀ a, a < 0 → ∀ b, b < 0 → a ≠ b → (TX6 a).2.1 ≠ (TX6 b).2.1 := by decide +kernel
theorem tyX6_ok : ∀ k, k < 0 → parseFieldDescriptor (TX6 k).2.2.1 = some (tyX6 k) := by decide +kernel
abbrev cX6_unit : ByteArray := prog_8_method_2_code
def yX6_unit : MethodName := ⟨RX6, "unit", "(I)I"⟩
abbrev cX6_exponentOf : ByteArray := prog_8_method_3_code
def yX6_exponentOf : MethodName := ⟨RX6, "exponentOf", "(II)I"⟩
abbrev cX6_degreeOf : ByteArray := prog_8_method_4_code
def yX6_degreeOf : MethodName := ⟨RX6, "degreeOf", "(I)I"⟩
abbrev cX6_exceeding : ByteArray := prog_8_method_5_code
def yX6_exceeding : MethodName := ⟨RX6, "exceeding", "(II)I"⟩
abbrev cX6_divides : ByteArray := prog_8_method_6_code
def yX6_divides : MethodName := ⟨RX6, "divides", "(II)Z"⟩
abbrev cX6_commonDivisor : ByteArray := prog_8_method_7_code
def yX6_commonDivisor : MethodName := ⟨RX6, "commonDivisor", "(II)I"⟩
abbrev cX6_supportOf : ByteArray := prog_8_method_8_code
def yX6_supportOf : MethodName := ⟨RX6, "supportOf", "(I)I"⟩
abbrev cX6_maskOf : ByteArray := prog_8_method_9_code
def yX6_maskOf : MethodName := ⟨RX6, "maskOf", "(I)I"⟩
def RX7 : String := "EdgeIdeals$Row"
def TX7 : u_T := fun k => match k with
  | 0 => ("EdgeIdeals$Row", "items", "[I", true)
  | _ => ("EdgeIdeals$Row", "size", "I", false)
def tyX7 : Nat → FieldType := fun k => match k with
  | 0 => .array .int
  | _ => .int
abbrev wsX70 : List Cond := u_ws RX7 TX7 2
theorem nmX7 : ∀ a, a < 2 → ∀ b, b < 2 → a ≠ b → (TX7 a).2.1 ≠ (TX7 b).2.1 := by decide +kernel
theorem tyX7_ok : ∀ k, k < 2 → parseFieldDescriptor (TX7 k).2.2.1 = some (tyX7 k) := by decide +kernel
abbrev cX7_init : ByteArray := prog_9_method_1_code
def yX7_init : MethodName := ⟨RX7, "<init>", "(I)V"⟩
abbrev cX7_add : ByteArray := prog_9_method_2_code
def yX7_add : MethodName := ⟨RX7, "add", "(I)Z"⟩
abbrev cX7_has : ByteArray := prog_9_method_3_code
def yX7_has : MethodName := ⟨RX7, "has", "(I)Z"⟩
abbrev cX7_copyFrom : ByteArray := prog_9_method_4_code
def yX7_copyFrom : MethodName := ⟨RX7, "copyFrom", "(LEdgeIdeals$Row;)V"⟩
abbrev cX7_fillWithZeros : ByteArray := prog_9_method_5_code
def yX7_fillWithZeros : MethodName := ⟨RX7, "fillWithZeros", "(I)V"⟩
abbrev cX7_mismatch : ByteArray := prog_9_method_6_code
def yX7_mismatch : MethodName := ⟨RX7, "mismatch", "(LEdgeIdeals$Row;)I"⟩
def RX8 : String := "EdgeIdeals$Slot"
def TX8 : u_T := fun k => match k with
  | 0 => ("EdgeIdeals$Slot", "kind", "I", false)
  | _ => ("EdgeIdeals$Slot", "row", "LEdgeIdeals$Row;", true)
def tyX8 : Nat → FieldType := fun k => match k with
  | 0 => .int
  | _ => .object "EdgeIdeals$Row"
abbrev wsX80 : List Cond := u_ws RX8 TX8 2
theorem nmX8 : ∀ a, a < 2 → ∀ b, b < 2 → a ≠ b → (TX8 a).2.1 ≠ (TX8 b).2.1 := by decide +kernel
theorem tyX8_ok : ∀ k, k < 2 → parseFieldDescriptor (TX8 k).2.2.1 = some (tyX8 k) := by decide +kernel
abbrev cX8_init : ByteArray := prog_10_method_1_code
def yX8_init : MethodName := ⟨RX8, "<init>", "()V"⟩
def RX9 : String := "EdgeIdeals$Snapshot"
def TX9 : u_T := fun k => match k with
  | 0 => ("EdgeIdeals$Snapshot", "taken", "Z", false)
  | 1 => ("EdgeIdeals$Snapshot", "vertices", "I", false)
  | 2 => ("EdgeIdeals$Snapshot", "matrix", "J", false)
  | 3 => ("EdgeIdeals$Snapshot", "testTotal", "I", false)
  | _ => ("EdgeIdeals$Snapshot", "list", "LEdgeIdeals$Row;", true)
def tyX9 : Nat → FieldType := fun k => match k with
  | 0 => .boolean
  | 1 => .int
  | 2 => .long
  | 3 => .int
  | _ => .object "EdgeIdeals$Row"
abbrev wsX90 : List Cond := u_ws RX9 TX9 5
theorem nmX9 : ∀ a, a < 5 → ∀ b, b < 5 → a ≠ b → (TX9 a).2.1 ≠ (TX9 b).2.1 := by decide +kernel
theorem tyX9_ok : ∀ k, k < 5 → parseFieldDescriptor (TX9 k).2.2.1 = some (tyX9 k) := by decide +kernel
abbrev cX9_init : ByteArray := prog_11_method_1_code
def yX9_init : MethodName := ⟨RX9, "<init>", "()V"⟩
def RX10 : String := "EdgeIdeals$TestList"
def TX10 : u_T := fun k => match k with
  | 0 => ("EdgeIdeals$TestList", "kinds", "[I", true)
  | 1 => ("EdgeIdeals$TestList", "firsts", "[I", true)
  | 2 => ("EdgeIdeals$TestList", "seconds", "[I", true)
  | 3 => ("EdgeIdeals$TestList", "parts", "[I", true)
  | _ => ("EdgeIdeals$TestList", "size", "I", false)
def tyX10 : Nat → FieldType := fun k => match k with
  | 0 => .array .int
  | 1 => .array .int
  | 2 => .array .int
  | 3 => .array .int
  | _ => .int
abbrev wsX100 : List Cond := u_ws RX10 TX10 5
theorem nmX10 : ∀ a, a < 5 → ∀ b, b < 5 → a ≠ b → (TX10 a).2.1 ≠ (TX10 b).2.1 := by decide +kernel
theorem tyX10_ok : ∀ k, k < 5 → parseFieldDescriptor (TX10 k).2.2.1 = some (tyX10 k) := by decide +kernel
abbrev cX10_init : ByteArray := prog_12_method_1_code
def yX10_init : MethodName := ⟨RX10, "<init>", "()V"⟩
abbrev cX10_add : ByteArray := prog_12_method_2_code
def yX10_add : MethodName := ⟨RX10, "add", "(III)I"⟩
abbrev cX10_accepts : ByteArray := prog_12_method_3_code
def yX10_accepts : MethodName := ⟨RX10, "accepts", "(IILEdgeIdeals$Ideal;)Z"⟩
abbrev cX10_holds : ByteArray := prog_12_method_4_code
def yX10_holds : MethodName := ⟨RX10, "holds", "(IIILEdgeIdeals$Ideal;)Z"⟩
def RX11 : String := "EdgeIdeals"
def TX11 : u_T := fun k => match k with
  | 0 => ("EdgeIdeals", "graph", "LEdgeIdeals$Graph;", true)
  | 1 => ("EdgeIdeals", "ideal", "LEdgeIdeals$Ideal;", true)
  | 2 => ("EdgeIdeals", "quotients", "LEdgeIdeals$LinearQuotients;", true)
  | 3 => ("EdgeIdeals", "history", "LEdgeIdeals$ChangeHistory;", true)
  | 4 => ("EdgeIdeals", "tests", "LEdgeIdeals$TestList;", true)
  | 5 => ("EdgeIdeals", "list", "LEdgeIdeals$MonomialList;", true)
  | 6 => ("EdgeIdeals", "input", "LEdgeIdeals$Input;", true)
  | 7 => ("EdgeIdeals", "slots", "[LEdgeIdeals$Slot;", true)
  | _ => ("EdgeIdeals", "snapshot", "LEdgeIdeals$Snapshot;", true)
def tyX11 : Nat → FieldType := fun k => match k with
  | 0 => .object "EdgeIdeals$Graph"
  | 1 => .object "EdgeIdeals$Ideal"
  | 2 => .object "EdgeIdeals$LinearQuotients"
  | 3 => .object "EdgeIdeals$ChangeHistory"
  | 4 => .object "EdgeIdeals$TestList"
  | 5 => .object "EdgeIdeals$MonomialList"
  | 6 => .object "EdgeIdeals$Input"
  | 7 => .array (.object "EdgeIdeals$Slot")
  | _ => .object "EdgeIdeals$Snapshot"
abbrev wsX110 : List Cond := u_ws RX11 TX11 9
theorem nmX11 : ∀ a, a < 9 → ∀ b, b < 9 → a ≠ b → (TX11 a).2.1 ≠ (TX11 b).2.1 := by decide +kernel
theorem tyX11_ok : ∀ k, k < 9 → parseFieldDescriptor (TX11 k).2.2.1 = some (tyX11 k) := by decide +kernel
abbrev cX11_init : ByteArray := prog_1_method_1_code
def yX11_init : MethodName := ⟨RX11, "<init>", "()V"⟩
abbrev cX11_setVertexCount : ByteArray := prog_1_method_2_code
def yX11_setVertexCount : MethodName := ⟨RX11, "setVertexCount", "(I)I"⟩
abbrev cX11_toggleEdge : ByteArray := prog_1_method_3_code
def yX11_toggleEdge : MethodName := ⟨RX11, "toggleEdge", "(II)I"⟩
abbrev cX11_build : ByteArray := prog_1_method_4_code
def yX11_build : MethodName := ⟨RX11, "build", "(I)I"⟩
abbrev cX11_revertChange : ByteArray := prog_1_method_5_code
def yX11_revertChange : MethodName := ⟨RX11, "revertChange", "()I"⟩
abbrev cX11_changeCount : ByteArray := prog_1_method_6_code
def yX11_changeCount : MethodName := ⟨RX11, "changeCount", "()I"⟩
abbrev cX11_recordChange : ByteArray := prog_1_method_7_code
def yX11_recordChange : MethodName := ⟨RX11, "recordChange", "(J)V"⟩
abbrev cX11_replaceGraph : ByteArray := prog_1_method_8_code
def yX11_replaceGraph : MethodName := ⟨RX11, "replaceGraph", "(IJ)V"⟩
abbrev cX11_vertexCount : ByteArray := prog_1_method_9_code
def yX11_vertexCount : MethodName := ⟨RX11, "vertexCount", "()I"⟩
abbrev cX11_edgeCount : ByteArray := prog_1_method_10_code
def yX11_edgeCount : MethodName := ⟨RX11, "edgeCount", "()I"⟩
abbrev cX11_neighbors : ByteArray := prog_1_method_11_code
def yX11_neighbors : MethodName := ⟨RX11, "neighbors", "(I)I"⟩
abbrev cX11_componentCount : ByteArray := prog_1_method_12_code
def yX11_componentCount : MethodName := ⟨RX11, "componentCount", "()I"⟩
abbrev cX11_hasOddCycle : ByteArray := prog_1_method_13_code
def yX11_hasOddCycle : MethodName := ⟨RX11, "hasOddCycle", "()I"⟩
abbrev cX11_matchingNumber : ByteArray := prog_1_method_14_code
def yX11_matchingNumber : MethodName := ⟨RX11, "matchingNumber", "()I"⟩
abbrev cX11_coverCount : ByteArray := prog_1_method_15_code
def yX11_coverCount : MethodName := ⟨RX11, "coverCount", "()I"⟩
abbrev cX11_cover : ByteArray := prog_1_method_16_code
def yX11_cover : MethodName := ⟨RX11, "cover", "(I)I"⟩
abbrev cX11_height : ByteArray := prog_1_method_17_code
def yX11_height : MethodName := ⟨RX11, "height", "()I"⟩
abbrev cX11_bigHeight : ByteArray := prog_1_method_18_code
def yX11_bigHeight : MethodName := ⟨RX11, "bigHeight", "()I"⟩
abbrev cX11_eliminationLength : ByteArray := prog_1_method_19_code
def yX11_eliminationLength : MethodName := ⟨RX11, "eliminationLength", "(I)I"⟩
abbrev cX11_eliminated : ByteArray := prog_1_method_20_code
def yX11_eliminated : MethodName := ⟨RX11, "eliminated", "(II)I"⟩
abbrev cX11_isChordal : ByteArray := prog_1_method_21_code
def yX11_isChordal : MethodName := ⟨RX11, "isChordal", "(I)I"⟩
abbrev cX11_degree : ByteArray := prog_1_method_22_code
def yX11_degree : MethodName := ⟨RX11, "degree", "(I)I"⟩
abbrev cX11_exponent : ByteArray := prog_1_method_23_code
def yX11_exponent : MethodName := ⟨RX11, "exponent", "(II)I"⟩
abbrev cX11_powerOrder : ByteArray := prog_1_method_24_code
def yX11_powerOrder : MethodName := ⟨RX11, "powerOrder", "(I)I"⟩
abbrev cX11_symbolicOrder : ByteArray := prog_1_method_25_code
def yX11_symbolicOrder : MethodName := ⟨RX11, "symbolicOrder", "(I)I"⟩
abbrev cX11_multiply : ByteArray := prog_1_method_26_code
def yX11_multiply : MethodName := ⟨RX11, "multiply", "(II)I"⟩
abbrev cX11_divide : ByteArray := prog_1_method_27_code
def yX11_divide : MethodName := ⟨RX11, "divide", "(II)I"⟩
abbrev cX11_lcm : ByteArray := prog_1_method_28_code
def yX11_lcm : MethodName := ⟨RX11, "lcm", "(II)I"⟩
abbrev cX11_gcd : ByteArray := prog_1_method_29_code
def yX11_gcd : MethodName := ⟨RX11, "gcd", "(II)I"⟩
abbrev cX11_generatorCount : ByteArray := prog_1_method_30_code
def yX11_generatorCount : MethodName := ⟨RX11, "generatorCount", "(I)I"⟩
abbrev cX11_generator : ByteArray := prog_1_method_31_code
def yX11_generator : MethodName := ⟨RX11, "generator", "(II)I"⟩
abbrev cX11_symbolicGeneratorCount : ByteArray := prog_1_method_32_code
def yX11_symbolicGeneratorCount : MethodName := ⟨RX11, "symbolicGeneratorCount", "(I)I"⟩
abbrev cX11_symbolicGenerator : ByteArray := prog_1_method_33_code
def yX11_symbolicGenerator : MethodName := ⟨RX11, "symbolicGenerator", "(II)I"⟩
abbrev cX11_powersAgree : ByteArray := prog_1_method_34_code
def yX11_powersAgree : MethodName := ⟨RX11, "powersAgree", "(I)I"⟩
abbrev cX11_firstDifference : ByteArray := prog_1_method_35_code
def yX11_firstDifference : MethodName := ⟨RX11, "firstDifference", "(I)I"⟩
abbrev cX11_countInPower : ByteArray := prog_1_method_36_code
def yX11_countInPower : MethodName := ⟨RX11, "countInPower", "(II)I"⟩
abbrev cX11_countInSymbolicPower : ByteArray := prog_1_method_37_code
def yX11_countInSymbolicPower : MethodName := ⟨RX11, "countInSymbolicPower", "(II)I"⟩
abbrev cX11_orderedGenerator : ByteArray := prog_1_method_38_code
def yX11_orderedGenerator : MethodName := ⟨RX11, "orderedGenerator", "(III)I"⟩
abbrev cX11_colonVariables : ByteArray := prog_1_method_39_code
def yX11_colonVariables : MethodName := ⟨RX11, "colonVariables", "(III)I"⟩
abbrev cX11_isLinearStep : ByteArray := prog_1_method_40_code
def yX11_isLinearStep : MethodName := ⟨RX11, "isLinearStep", "(III)I"⟩
abbrev cX11_firstNonLinearStep : ByteArray := prog_1_method_41_code
def yX11_firstNonLinearStep : MethodName := ⟨RX11, "firstNonLinearStep", "(II)I"⟩
abbrev cX11_bettiNumber : ByteArray := prog_1_method_42_code
def yX11_bettiNumber : MethodName := ⟨RX11, "bettiNumber", "(III)J"⟩
abbrev cX11_stepError : ByteArray := prog_1_method_43_code
def yX11_stepError : MethodName := ⟨RX11, "stepError", "(III)I"⟩
abbrev cX11_addDegreeTest : ByteArray := prog_1_method_44_code
def yX11_addDegreeTest : MethodName := ⟨RX11, "addDegreeTest", "(I)I"⟩
abbrev cX11_addExponentTest : ByteArray := prog_1_method_45_code
def yX11_addExponentTest : MethodName := ⟨RX11, "addExponentTest", "(II)I"⟩
abbrev cX11_addSquareFreeTest : ByteArray := prog_1_method_46_code
def yX11_addSquareFreeTest : MethodName := ⟨RX11, "addSquareFreeTest", "()I"⟩
abbrev cX11_addPowerTest : ByteArray := prog_1_method_47_code
def yX11_addPowerTest : MethodName := ⟨RX11, "addPowerTest", "(I)I"⟩
abbrev cX11_addSymbolicTest : ByteArray := prog_1_method_48_code
def yX11_addSymbolicTest : MethodName := ⟨RX11, "addSymbolicTest", "(I)I"⟩
abbrev cX11_addAndTest : ByteArray := prog_1_method_49_code
def yX11_addAndTest : MethodName := ⟨RX11, "addAndTest", "(II)I"⟩
abbrev cX11_addOrTest : ByteArray := prog_1_method_50_code
def yX11_addOrTest : MethodName := ⟨RX11, "addOrTest", "(II)I"⟩
abbrev cX11_addNotTest : ByteArray := prog_1_method_51_code
def yX11_addNotTest : MethodName := ⟨RX11, "addNotTest", "(I)I"⟩
abbrev cX11_testCount : ByteArray := prog_1_method_52_code
def yX11_testCount : MethodName := ⟨RX11, "testCount", "()I"⟩
abbrev cX11_passes : ByteArray := prog_1_method_53_code
def yX11_passes : MethodName := ⟨RX11, "passes", "(II)I"⟩
abbrev cX11_passCount : ByteArray := prog_1_method_54_code
def yX11_passCount : MethodName := ⟨RX11, "passCount", "(I)I"⟩
abbrev cX11_passing : ByteArray := prog_1_method_55_code
def yX11_passing : MethodName := ⟨RX11, "passing", "(II)I"⟩
abbrev cX11_append : ByteArray := prog_1_method_56_code
def yX11_append : MethodName := ⟨RX11, "append", "(I)I"⟩
abbrev cX11_fillWithGenerators : ByteArray := prog_1_method_57_code
def yX11_fillWithGenerators : MethodName := ⟨RX11, "fillWithGenerators", "(I)I"⟩
abbrev cX11_fillWithSymbolicGenerators : ByteArray := prog_1_method_58_code
def yX11_fillWithSymbolicGenerators : MethodName := ⟨RX11, "fillWithSymbolicGenerators", "(I)I"⟩
abbrev cX11_listSize : ByteArray := prog_1_method_59_code
def yX11_listSize : MethodName := ⟨RX11, "listSize", "()I"⟩
abbrev cX11_element : ByteArray := prog_1_method_60_code
def yX11_element : MethodName := ⟨RX11, "element", "(I)I"⟩
abbrev cX11_clearList : ByteArray := prog_1_method_61_code
def yX11_clearList : MethodName := ⟨RX11, "clearList", "()I"⟩
abbrev cX11_minimizeList : ByteArray := prog_1_method_62_code
def yX11_minimizeList : MethodName := ⟨RX11, "minimizeList", "()I"⟩
abbrev cX11_divideListBy : ByteArray := prog_1_method_63_code
def yX11_divideListBy : MethodName := ⟨RX11, "divideListBy", "(I)I"⟩
abbrev cX11_reverseList : ByteArray := prog_1_method_64_code
def yX11_reverseList : MethodName := ⟨RX11, "reverseList", "()I"⟩
abbrev cX11_rotateList : ByteArray := prog_1_method_65_code
def yX11_rotateList : MethodName := ⟨RX11, "rotateList", "(I)I"⟩
abbrev cX11_swapElements : ByteArray := prog_1_method_66_code
def yX11_swapElements : MethodName := ⟨RX11, "swapElements", "(II)I"⟩
abbrev cX11_indexOfDivisor : ByteArray := prog_1_method_67_code
def yX11_indexOfDivisor : MethodName := ⟨RX11, "indexOfDivisor", "(I)I"⟩
abbrev cX11_polarizedVariableCount : ByteArray := prog_1_method_68_code
def yX11_polarizedVariableCount : MethodName := ⟨RX11, "polarizedVariableCount", "()I"⟩
abbrev cX11_polarized : ByteArray := prog_1_method_69_code
def yX11_polarized : MethodName := ⟨RX11, "polarized", "(I)I"⟩
abbrev cX11_hittingNumber : ByteArray := prog_1_method_70_code
def yX11_hittingNumber : MethodName := ⟨RX11, "hittingNumber", "()I"⟩
abbrev cX11_fillList : ByteArray := prog_1_method_71_code
def yX11_fillList : MethodName := ⟨RX11, "fillList", "(LEdgeIdeals$Row;)I"⟩
abbrev cX11_feed : ByteArray := prog_1_method_72_code
def yX11_feed : MethodName := ⟨RX11, "feed", "(I)I"⟩
abbrev cX11_discardInput : ByteArray := prog_1_method_73_code
def yX11_discardInput : MethodName := ⟨RX11, "discardInput", "()I"⟩
abbrev cX11_inputLength : ByteArray := prog_1_method_74_code
def yX11_inputLength : MethodName := ⟨RX11, "inputLength", "()I"⟩
abbrev cX11_parse : ByteArray := prog_1_method_75_code
def yX11_parse : MethodName := ⟨RX11, "parse", "()I"⟩
abbrev cX11_formattedLength : ByteArray := prog_1_method_76_code
def yX11_formattedLength : MethodName := ⟨RX11, "formattedLength", "()I"⟩
abbrev cX11_formattedByte : ByteArray := prog_1_method_77_code
def yX11_formattedByte : MethodName := ⟨RX11, "formattedByte", "(I)I"⟩
abbrev cX11_saveList : ByteArray := prog_1_method_78_code
def yX11_saveList : MethodName := ⟨RX11, "saveList", "(I)I"⟩
abbrev cX11_loadList : ByteArray := prog_1_method_79_code
def yX11_loadList : MethodName := ⟨RX11, "loadList", "(I)I"⟩
abbrev cX11_clearSlot : ByteArray := prog_1_method_80_code
def yX11_clearSlot : MethodName := ⟨RX11, "clearSlot", "(I)I"⟩
abbrev cX11_newArray : ByteArray := prog_1_method_81_code
def yX11_newArray : MethodName := ⟨RX11, "newArray", "(II)I"⟩
abbrev cX11_setArrayElement : ByteArray := prog_1_method_82_code
def yX11_setArrayElement : MethodName := ⟨RX11, "setArrayElement", "(III)I"⟩
abbrev cX11_arrayElement : ByteArray := prog_1_method_83_code
def yX11_arrayElement : MethodName := ⟨RX11, "arrayElement", "(II)J"⟩
abbrev cX11_firstMismatch : ByteArray := prog_1_method_84_code
def yX11_firstMismatch : MethodName := ⟨RX11, "firstMismatch", "(II)I"⟩
abbrev cX11_usedSlotCount : ByteArray := prog_1_method_85_code
def yX11_usedSlotCount : MethodName := ⟨RX11, "usedSlotCount", "()I"⟩
abbrev cX11_slotError : ByteArray := prog_1_method_86_code
def yX11_slotError : MethodName := ⟨RX11, "slotError", "(II)I"⟩
abbrev cX11_takeSnapshot : ByteArray := prog_1_method_87_code
def yX11_takeSnapshot : MethodName := ⟨RX11, "takeSnapshot", "()I"⟩
abbrev cX11_restoreSnapshot : ByteArray := prog_1_method_88_code
def yX11_restoreSnapshot : MethodName := ⟨RX11, "restoreSnapshot", "()I"⟩
abbrev cX11_isVertex : ByteArray := prog_1_method_89_code
def yX11_isVertex : MethodName := ⟨RX11, "isVertex", "(I)Z"⟩
abbrev cX11_isCode : ByteArray := prog_1_method_90_code
def yX11_isCode : MethodName := ⟨RX11, "isCode", "(I)Z"⟩
abbrev cX11_isTest : ByteArray := prog_1_method_91_code
def yX11_isTest : MethodName := ⟨RX11, "isTest", "(I)Z"⟩
abbrev cX11_isVariable : ByteArray := prog_1_method_92_code
def yX11_isVariable : MethodName := ⟨RX11, "isVariable", "(I)Z"⟩
abbrev cX11_isPower : ByteArray := prog_1_method_93_code
def yX11_isPower : MethodName := ⟨RX11, "isPower", "(I)Z"⟩
abbrev cX11_isDegree : ByteArray := prog_1_method_94_code
def yX11_isDegree : MethodName := ⟨RX11, "isDegree", "(I)Z"⟩
abbrev cX11_isFlag : ByteArray := prog_1_method_95_code
def yX11_isFlag : MethodName := ⟨RX11, "isFlag", "(I)Z"⟩
abbrev cX11_isSlot : ByteArray := prog_1_method_96_code
def yX11_isSlot : MethodName := ⟨RX11, "isSlot", "(I)Z"⟩
abbrev cX11_itemOrError : ByteArray := prog_1_method_97_code
def yX11_itemOrError : MethodName := ⟨RX11, "itemOrError", "(LEdgeIdeals$Row;I)I"⟩
def RX12 : String := "EdgeIdealsModel"
def TX12 : u_T := fun k => match k with
  | 0 => ("EdgeIdealsModel", "n", "I", false)
  | 1 => ("EdgeIdealsModel", "adjacent", "[I", true)
  | 2 => ("EdgeIdealsModel", "history", "[I", true)
  | 3 => ("EdgeIdealsModel", "changes", "I", false)
  | 4 => ("EdgeIdealsModel", "built", "[I", true)
  | 5 => ("EdgeIdealsModel", "isStale", "Z", false)
  | 6 => ("EdgeIdealsModel", "covers", "[I", true)
  | 7 => ("EdgeIdealsModel", "coverCount", "I", false)
  | 8 => ("EdgeIdealsModel", "powerOrders", "[I", true)
  | 9 => ("EdgeIdealsModel", "symbolicOrders", "[I", true)
  | 10 => ("EdgeIdealsModel", "removed", "[I", true)
  | 11 => ("EdgeIdealsModel", "removedCount", "I", false)
  | 12 => ("EdgeIdealsModel", "generators", "[I", true)
  | 13 => ("EdgeIdealsModel", "generatorCount", "I", false)
  | 14 => ("EdgeIdealsModel", "vertexOrder", "[I", true)
  | 15 => ("EdgeIdealsModel", "tests", "[I", true)
  | 16 => ("EdgeIdealsModel", "testCount", "I", false)
  | 17 => ("EdgeIdealsModel", "list", "[I", true)
  | 18 => ("EdgeIdealsModel", "size", "I", false)
  | 19 => ("EdgeIdealsModel", "rearranged", "[I", true)
  | 20 => ("EdgeIdealsModel", "input", "[I", true)
  | 21 => ("EdgeIdealsModel", "inputLength", "I", false)
  | 22 => ("EdgeIdealsModel", "at", "I", false)
  | 23 => ("EdgeIdealsModel", "parsed", "[I", true)
  | 24 => ("EdgeIdealsModel", "formatted", "[I", true)
  | 25 => ("EdgeIdealsModel", "formattedLength", "I", false)
  | 26 => ("EdgeIdealsModel", "slotKind", "[I", true)
  | 27 => ("EdgeIdealsModel", "slotLength", "[I", true)
  | 28 => ("EdgeIdealsModel", "slotElements", "[[I", true)
  | 29 => ("EdgeIdealsModel", "snapshot", "[I", true)
  | _ => ("EdgeIdealsModel", "hasSnapshot", "Z", false)
def tyX12 : Nat → FieldType := fun k => match k with
  | 0 => .int
  | 1 => .array .int
  | 2 => .array .int
  | 3 => .int
  | 4 => .array .int
  | 5 => .boolean
  | 6 => .array .int
  | 7 => .int
  | 8 => .array .int
  | 9 => .array .int
  | 10 => .array .int
  | 11 => .int
  | 12 => .array .int
  | 13 => .int
  | 14 => .array .int
  | 15 => .array .int
  | 16 => .int
  | 17 => .array .int
  | 18 => .int
  | 19 => .array .int
  | 20 => .array .int
  | 21 => .int
  | 22 => .int
  | 23 => .array .int
  | 24 => .array .int
  | 25 => .int
  | 26 => .array .int
  | 27 => .array .int
  | 28 => .array (.array .int)
  | 29 => .array .int
  | _ => .boolean
abbrev wsX120 : List Cond := u_ws RX12 TX12 31
theorem nmX12 : ∀ a, a < 31 → ∀ b, b < 31 → a ≠ b → (TX12 a).2.1 ≠ (TX12 b).2.1 := by decide +kernel
theorem tyX12_ok : ∀ k, k < 31 → parseFieldDescriptor (TX12 k).2.2.1 = some (tyX12 k) := by decide +kernel
abbrev cX12_init : ByteArray := prog_14_method_1_code
def yX12_init : MethodName := ⟨RX12, "<init>", "()V"⟩
abbrev cX12_isBetween : ByteArray := prog_14_method_2_code
def yX12_isBetween : MethodName := ⟨RX12, "isBetween", "(JJJ)Z"⟩
abbrev cX12_isVertex : ByteArray := prog_14_method_3_code
def yX12_isVertex : MethodName := ⟨RX12, "isVertex", "(I)Z"⟩
abbrev cX12_allVertices : ByteArray := prog_14_method_4_code
def yX12_allVertices : MethodName := ⟨RX12, "allVertices", "()I"⟩
abbrev cX12_isEdge : ByteArray := prog_14_method_5_code
def yX12_isEdge : MethodName := ⟨RX12, "isEdge", "(II)Z"⟩
abbrev cX12_bitCount : ByteArray := prog_14_method_6_code
def yX12_bitCount : MethodName := ⟨RX12, "bitCount", "(I)I"⟩
abbrev cX12_recordChange : ByteArray := prog_14_method_7_code
def yX12_recordChange : MethodName := ⟨RX12, "recordChange", "()V"⟩
abbrev cX12_setVertexCount : ByteArray := prog_14_method_8_code
def yX12_setVertexCount : MethodName := ⟨RX12, "setVertexCount", "(I)I"⟩
abbrev cX12_toggleEdge : ByteArray := prog_14_method_9_code
def yX12_toggleEdge : MethodName := ⟨RX12, "toggleEdge", "(II)I"⟩
abbrev cX12_hasBuiltEdge : ByteArray := prog_14_method_10_code
def yX12_hasBuiltEdge : MethodName := ⟨RX12, "hasBuiltEdge", "(III)Z"⟩
abbrev cX12_build : ByteArray := prog_14_method_11_code
def yX12_build : MethodName := ⟨RX12, "build", "(I)I"⟩
abbrev cX12_revertChange : ByteArray := prog_14_method_12_code
def yX12_revertChange : MethodName := ⟨RX12, "revertChange", "()I"⟩
abbrev cX12_vertexCount : ByteArray := prog_14_method_13_code
def yX12_vertexCount : MethodName := ⟨RX12, "vertexCount", "()I"⟩
abbrev cX12_edgeCount : ByteArray := prog_14_method_14_code
def yX12_edgeCount : MethodName := ⟨RX12, "edgeCount", "()I"⟩
abbrev cX12_neighbors : ByteArray := prog_14_method_15_code
def yX12_neighbors : MethodName := ⟨RX12, "neighbors", "(I)I"⟩
abbrev cX12_reachable : ByteArray := prog_14_method_16_code
def yX12_reachable : MethodName := ⟨RX12, "reachable", "(I)I"⟩
abbrev cX12_componentCount : ByteArray := prog_14_method_17_code
def yX12_componentCount : MethodName := ⟨RX12, "componentCount", "()I"⟩
abbrev cX12_hasOddCycle : ByteArray := prog_14_method_18_code
def yX12_hasOddCycle : MethodName := ⟨RX12, "hasOddCycle", "()I"⟩
abbrev cX12_matchingWithin : ByteArray := prog_14_method_19_code
def yX12_matchingWithin : MethodName := ⟨RX12, "matchingWithin", "(I)I"⟩
abbrev cX12_matchingNumber : ByteArray := prog_14_method_20_code
def yX12_matchingNumber : MethodName := ⟨RX12, "matchingNumber", "()I"⟩
abbrev cX12_isCover : ByteArray := prog_14_method_21_code
def yX12_isCover : MethodName := ⟨RX12, "isCover", "(I)Z"⟩
abbrev cX12_isMinimalCover : ByteArray := prog_14_method_22_code
def yX12_isMinimalCover : MethodName := ⟨RX12, "isMinimalCover", "(I)Z"⟩
abbrev cX12_codeCount : ByteArray := prog_14_method_23_code
def yX12_codeCount : MethodName := ⟨RX12, "codeCount", "()I"⟩
abbrev cX12_isCode : ByteArray := prog_14_method_24_code
def yX12_isCode : MethodName := ⟨RX12, "isCode", "(I)Z"⟩
abbrev cX12_exponentOf : ByteArray := prog_14_method_25_code
def yX12_exponentOf : MethodName := ⟨RX12, "exponentOf", "(II)I"⟩
abbrev cX12_findPowerOrder : ByteArray := prog_14_method_26_code
def yX12_findPowerOrder : MethodName := ⟨RX12, "findPowerOrder", "(I)I"⟩
abbrev cX12_findSymbolicOrder : ByteArray := prog_14_method_27_code
def yX12_findSymbolicOrder : MethodName := ⟨RX12, "findSymbolicOrder", "(I)I"⟩
abbrev cX12_update : ByteArray := prog_14_method_28_code
def yX12_update : MethodName := ⟨RX12, "update", "()V"⟩
abbrev cX12_coverCount : ByteArray := prog_14_method_29_code
def yX12_coverCount : MethodName := ⟨RX12, "coverCount", "()I"⟩
abbrev cX12_cover : ByteArray := prog_14_method_30_code
def yX12_cover : MethodName := ⟨RX12, "cover", "(I)I"⟩
abbrev cX12_height : ByteArray := prog_14_method_31_code
def yX12_height : MethodName := ⟨RX12, "height", "()I"⟩
abbrev cX12_bigHeight : ByteArray := prog_14_method_32_code
def yX12_bigHeight : MethodName := ⟨RX12, "bigHeight", "()I"⟩
abbrev cX12_isAdjacentIn : ByteArray := prog_14_method_33_code
def yX12_isAdjacentIn : MethodName := ⟨RX12, "isAdjacentIn", "(III)Z"⟩
abbrev cX12_isSimplicial : ByteArray := prog_14_method_34_code
def yX12_isSimplicial : MethodName := ⟨RX12, "isSimplicial", "(III)Z"⟩
abbrev cX12_eliminate : ByteArray := prog_14_method_35_code
def yX12_eliminate : MethodName := ⟨RX12, "eliminate", "(I)V"⟩
abbrev cX12_eliminationLength : ByteArray := prog_14_method_36_code
def yX12_eliminationLength : MethodName := ⟨RX12, "eliminationLength", "(I)I"⟩
abbrev cX12_eliminated : ByteArray := prog_14_method_37_code
def yX12_eliminated : MethodName := ⟨RX12, "eliminated", "(II)I"⟩
abbrev cX12_isChordal : ByteArray := prog_14_method_38_code
def yX12_isChordal : MethodName := ⟨RX12, "isChordal", "(I)I"⟩
abbrev cX12_degreeOf : ByteArray := prog_14_method_39_code
def yX12_degreeOf : MethodName := ⟨RX12, "degreeOf", "(I)I"⟩
abbrev cX12_divides : ByteArray := prog_14_method_40_code
def yX12_divides : MethodName := ⟨RX12, "divides", "(II)Z"⟩
abbrev cX12_degree : ByteArray := prog_14_method_41_code
def yX12_degree : MethodName := ⟨RX12, "degree", "(I)I"⟩
abbrev cX12_exponent : ByteArray := prog_14_method_42_code
def yX12_exponent : MethodName := ⟨RX12, "exponent", "(II)I"⟩
abbrev cX12_powerOrder : ByteArray := prog_14_method_43_code
def yX12_powerOrder : MethodName := ⟨RX12, "powerOrder", "(I)I"⟩
abbrev cX12_symbolicOrder : ByteArray := prog_14_method_44_code
def yX12_symbolicOrder : MethodName := ⟨RX12, "symbolicOrder", "(I)I"⟩
abbrev cX12_multiply : ByteArray := prog_14_method_45_code
def yX12_multiply : MethodName := ⟨RX12, "multiply", "(II)I"⟩
abbrev cX12_divide : ByteArray := prog_14_method_46_code
def yX12_divide : MethodName := ⟨RX12, "divide", "(II)I"⟩
abbrev cX12_combined : ByteArray := prog_14_method_47_code
def yX12_combined : MethodName := ⟨RX12, "combined", "(IIZ)I"⟩
abbrev cX12_lcm : ByteArray := prog_14_method_48_code
def yX12_lcm : MethodName := ⟨RX12, "lcm", "(II)I"⟩
abbrev cX12_gcd : ByteArray := prog_14_method_49_code
def yX12_gcd : MethodName := ⟨RX12, "gcd", "(II)I"⟩
abbrev cX12_isIn : ByteArray := prog_14_method_50_code
def yX12_isIn : MethodName := ⟨RX12, "isIn", "(IIZ)Z"⟩
abbrev cX12_isGenerator : ByteArray := prog_14_method_51_code
def yX12_isGenerator : MethodName := ⟨RX12, "isGenerator", "(IIZ)Z"⟩
abbrev cX12_findGenerators : ByteArray := prog_14_method_52_code
def yX12_findGenerators : MethodName := ⟨RX12, "findGenerators", "(IZ)V"⟩
abbrev cX12_isPower : ByteArray := prog_14_method_53_code
def yX12_isPower : MethodName := ⟨RX12, "isPower", "(I)Z"⟩
abbrev cX12_countGenerators : ByteArray := prog_14_method_54_code
def yX12_countGenerators : MethodName := ⟨RX12, "countGenerators", "(IZ)I"⟩
abbrev cX12_generatorAt : ByteArray := prog_14_method_55_code
def yX12_generatorAt : MethodName := ⟨RX12, "generatorAt", "(IZI)I"⟩
abbrev cX12_generatorCount : ByteArray := prog_14_method_56_code
def yX12_generatorCount : MethodName := ⟨RX12, "generatorCount", "(I)I"⟩
abbrev cX12_generator : ByteArray := prog_14_method_57_code
def yX12_generator : MethodName := ⟨RX12, "generator", "(II)I"⟩
abbrev cX12_symbolicGeneratorCount : ByteArray := prog_14_method_58_code
def yX12_symbolicGeneratorCount : MethodName := ⟨RX12, "symbolicGeneratorCount", "(I)I"⟩
abbrev cX12_symbolicGenerator : ByteArray := prog_14_method_59_code
def yX12_symbolicGenerator : MethodName := ⟨RX12, "symbolicGenerator", "(II)I"⟩
abbrev cX12_powersAgree : ByteArray := prog_14_method_60_code
def yX12_powersAgree : MethodName := ⟨RX12, "powersAgree", "(I)I"⟩
abbrev cX12_firstDifference : ByteArray := prog_14_method_61_code
def yX12_firstDifference : MethodName := ⟨RX12, "firstDifference", "(I)I"⟩
abbrev cX12_countIn : ByteArray := prog_14_method_62_code
def yX12_countIn : MethodName := ⟨RX12, "countIn", "(IIZ)I"⟩
abbrev cX12_countInPower : ByteArray := prog_14_method_63_code
def yX12_countInPower : MethodName := ⟨RX12, "countInPower", "(II)I"⟩
abbrev cX12_countInSymbolicPower : ByteArray := prog_14_method_64_code
def yX12_countInSymbolicPower : MethodName := ⟨RX12, "countInSymbolicPower", "(II)I"⟩
abbrev cX12_readOrder : ByteArray := prog_14_method_65_code
def yX12_readOrder : MethodName := ⟨RX12, "readOrder", "(I)Z"⟩
abbrev cX12_isBefore : ByteArray := prog_14_method_66_code
def yX12_isBefore : MethodName := ⟨RX12, "isBefore", "(II)Z"⟩
abbrev cX12_sortGenerators : ByteArray := prog_14_method_67_code
def yX12_sortGenerators : MethodName := ⟨RX12, "sortGenerators", "(I)V"⟩
abbrev cX12_singleStep : ByteArray := prog_14_method_68_code
def yX12_singleStep : MethodName := ⟨RX12, "singleStep", "(II)I"⟩
abbrev cX12_colonSet : ByteArray := prog_14_method_69_code
def yX12_colonSet : MethodName := ⟨RX12, "colonSet", "(I)I"⟩
abbrev cX12_isLinear : ByteArray := prog_14_method_70_code
def yX12_isLinear : MethodName := ⟨RX12, "isLinear", "(I)Z"⟩
abbrev cX12_orderError : ByteArray := prog_14_method_71_code
def yX12_orderError : MethodName := ⟨RX12, "orderError", "(III)I"⟩
abbrev cX12_orderedGenerator : ByteArray := prog_14_method_72_code
def yX12_orderedGenerator : MethodName := ⟨RX12, "orderedGenerator", "(III)I"⟩
abbrev cX12_colonVariables : ByteArray := prog_14_method_73_code
def yX12_colonVariables : MethodName := ⟨RX12, "colonVariables", "(III)I"⟩
abbrev cX12_isLinearStep : ByteArray := prog_14_method_74_code
def yX12_isLinearStep : MethodName := ⟨RX12, "isLinearStep", "(III)I"⟩
abbrev cX12_firstNonLinear : ByteArray := prog_14_method_75_code
def yX12_firstNonLinear : MethodName := ⟨RX12, "firstNonLinear", "()I"⟩
abbrev cX12_firstNonLinearStep : ByteArray := prog_14_method_76_code
def yX12_firstNonLinearStep : MethodName := ⟨RX12, "firstNonLinearStep", "(II)I"⟩
abbrev cX12_choose : ByteArray := prog_14_method_77_code
def yX12_choose : MethodName := ⟨RX12, "choose", "(II)J"⟩
abbrev cX12_bettiNumber : ByteArray := prog_14_method_78_code
def yX12_bettiNumber : MethodName := ⟨RX12, "bettiNumber", "(III)J"⟩
abbrev cX12_addTest : ByteArray := prog_14_method_79_code
def yX12_addTest : MethodName := ⟨RX12, "addTest", "(ZIII)I"⟩
abbrev cX12_isTest : ByteArray := prog_14_method_80_code
def yX12_isTest : MethodName := ⟨RX12, "isTest", "(I)Z"⟩
abbrev cX12_addDegreeTest : ByteArray := prog_14_method_81_code
def yX12_addDegreeTest : MethodName := ⟨RX12, "addDegreeTest", "(I)I"⟩
abbrev cX12_addExponentTest : ByteArray := prog_14_method_82_code
def yX12_addExponentTest : MethodName := ⟨RX12, "addExponentTest", "(II)I"⟩
abbrev cX12_addSquareFreeTest : ByteArray := prog_14_method_83_code
def yX12_addSquareFreeTest : MethodName := ⟨RX12, "addSquareFreeTest", "()I"⟩
abbrev cX12_addPowerTest : ByteArray := prog_14_method_84_code
def yX12_addPowerTest : MethodName := ⟨RX12, "addPowerTest", "(I)I"⟩
abbrev cX12_addSymbolicTest : ByteArray := prog_14_method_85_code
def yX12_addSymbolicTest : MethodName := ⟨RX12, "addSymbolicTest", "(I)I"⟩
abbrev cX12_addAndTest : ByteArray := prog_14_method_86_code
def yX12_addAndTest : MethodName := ⟨RX12, "addAndTest", "(II)I"⟩
abbrev cX12_addOrTest : ByteArray := prog_14_method_87_code
def yX12_addOrTest : MethodName := ⟨RX12, "addOrTest", "(II)I"⟩
abbrev cX12_addNotTest : ByteArray := prog_14_method_88_code
def yX12_addNotTest : MethodName := ⟨RX12, "addNotTest", "(I)I"⟩
abbrev cX12_testCount : ByteArray := prog_14_method_89_code
def yX12_testCount : MethodName := ⟨RX12, "testCount", "()I"⟩
abbrev cX12_isPassed : ByteArray := prog_14_method_90_code
def yX12_isPassed : MethodName := ⟨RX12, "isPassed", "(II)Z"⟩
abbrev cX12_passes : ByteArray := prog_14_method_91_code
def yX12_passes : MethodName := ⟨RX12, "passes", "(II)I"⟩
abbrev cX12_passCount : ByteArray := prog_14_method_92_code
def yX12_passCount : MethodName := ⟨RX12, "passCount", "(I)I"⟩
abbrev cX12_passing : ByteArray := prog_14_method_93_code
def yX12_passing : MethodName := ⟨RX12, "passing", "(II)I"⟩
abbrev cX12_append : ByteArray := prog_14_method_94_code
def yX12_append : MethodName := ⟨RX12, "append", "(I)I"⟩
abbrev cX12_fill : ByteArray := prog_14_method_95_code
def yX12_fill : MethodName := ⟨RX12, "fill", "(IZ)I"⟩
abbrev cX12_fillWithGenerators : ByteArray := prog_14_method_96_code
def yX12_fillWithGenerators : MethodName := ⟨RX12, "fillWithGenerators", "(I)I"⟩
abbrev cX12_fillWithSymbolicGenerators : ByteArray := prog_14_method_97_code
def yX12_fillWithSymbolicGenerators : MethodName := ⟨RX12, "fillWithSymbolicGenerators", "(I)I"⟩
abbrev cX12_listSize : ByteArray := prog_14_method_98_code
def yX12_listSize : MethodName := ⟨RX12, "listSize", "()I"⟩
abbrev cX12_isPosition : ByteArray := prog_14_method_99_code
def yX12_isPosition : MethodName := ⟨RX12, "isPosition", "(I)Z"⟩
abbrev cX12_element : ByteArray := prog_14_method_100_code
def yX12_element : MethodName := ⟨RX12, "element", "(I)I"⟩
abbrev cX12_clearList : ByteArray := prog_14_method_101_code
def yX12_clearList : MethodName := ⟨RX12, "clearList", "()I"⟩
abbrev cX12_isRedundant : ByteArray := prog_14_method_102_code
def yX12_isRedundant : MethodName := ⟨RX12, "isRedundant", "(I)Z"⟩
abbrev cX12_minimizeList : ByteArray := prog_14_method_103_code
def yX12_minimizeList : MethodName := ⟨RX12, "minimizeList", "()I"⟩
abbrev cX12_divideListBy : ByteArray := prog_14_method_104_code
def yX12_divideListBy : MethodName := ⟨RX12, "divideListBy", "(I)I"⟩
abbrev cX12_reverseList : ByteArray := prog_14_method_105_code
def yX12_reverseList : MethodName := ⟨RX12, "reverseList", "()I"⟩
abbrev cX12_rotateList : ByteArray := prog_14_method_106_code
def yX12_rotateList : MethodName := ⟨RX12, "rotateList", "(I)I"⟩
abbrev cX12_swapElements : ByteArray := prog_14_method_107_code
def yX12_swapElements : MethodName := ⟨RX12, "swapElements", "(II)I"⟩
abbrev cX12_indexOfDivisor : ByteArray := prog_14_method_108_code
def yX12_indexOfDivisor : MethodName := ⟨RX12, "indexOfDivisor", "(I)I"⟩
abbrev cX12_greatestExponent : ByteArray := prog_14_method_109_code
def yX12_greatestExponent : MethodName := ⟨RX12, "greatestExponent", "(I)I"⟩
abbrev cX12_polarizedVariableCount : ByteArray := prog_14_method_110_code
def yX12_polarizedVariableCount : MethodName := ⟨RX12, "polarizedVariableCount", "()I"⟩
abbrev cX12_polarized : ByteArray := prog_14_method_111_code
def yX12_polarized : MethodName := ⟨RX12, "polarized", "(I)I"⟩
abbrev cX12_support : ByteArray := prog_14_method_112_code
def yX12_support : MethodName := ⟨RX12, "support", "(I)I"⟩
abbrev cX12_hittingNumber : ByteArray := prog_14_method_113_code
def yX12_hittingNumber : MethodName := ⟨RX12, "hittingNumber", "()I"⟩
abbrev cX12_feed : ByteArray := prog_14_method_114_code
def yX12_feed : MethodName := ⟨RX12, "feed", "(I)I"⟩
abbrev cX12_discardInput : ByteArray := prog_14_method_115_code
def yX12_discardInput : MethodName := ⟨RX12, "discardInput", "()I"⟩
abbrev cX12_current : ByteArray := prog_14_method_116_code
def yX12_current : MethodName := ⟨RX12, "current", "()I"⟩
abbrev cX12_readMonomial : ByteArray := prog_14_method_117_code
def yX12_readMonomial : MethodName := ⟨RX12, "readMonomial", "()I"⟩
abbrev cX12_parse : ByteArray := prog_14_method_118_code
def yX12_parse : MethodName := ⟨RX12, "parse", "()I"⟩
abbrev cX12_write : ByteArray := prog_14_method_119_code
def yX12_write : MethodName := ⟨RX12, "write", "(I)V"⟩
abbrev cX12_format : ByteArray := prog_14_method_120_code
def yX12_format : MethodName := ⟨RX12, "format", "()V"⟩
abbrev cX12_formattedLength : ByteArray := prog_14_method_121_code
def yX12_formattedLength : MethodName := ⟨RX12, "formattedLength", "()I"⟩
abbrev cX12_formattedByte : ByteArray := prog_14_method_122_code
def yX12_formattedByte : MethodName := ⟨RX12, "formattedByte", "(I)I"⟩
abbrev cX12_isSlot : ByteArray := prog_14_method_123_code
def yX12_isSlot : MethodName := ⟨RX12, "isSlot", "(I)Z"⟩
abbrev cX12_saveList : ByteArray := prog_14_method_124_code
def yX12_saveList : MethodName := ⟨RX12, "saveList", "(I)I"⟩
abbrev cX12_slotError : ByteArray := prog_14_method_125_code
def yX12_slotError : MethodName := ⟨RX12, "slotError", "(II)I"⟩
abbrev cX12_loadList : ByteArray := prog_14_method_126_code
def yX12_loadList : MethodName := ⟨RX12, "loadList", "(I)I"⟩
abbrev cX12_clearSlot : ByteArray := prog_14_method_127_code
def yX12_clearSlot : MethodName := ⟨RX12, "clearSlot", "(I)I"⟩
abbrev cX12_newArray : ByteArray := prog_14_method_128_code
def yX12_newArray : MethodName := ⟨RX12, "newArray", "(II)I"⟩
abbrev cX12_setArrayElement : ByteArray := prog_14_method_129_code
def yX12_setArrayElement : MethodName := ⟨RX12, "setArrayElement", "(III)I"⟩
abbrev cX12_arrayElement : ByteArray := prog_14_method_130_code
def yX12_arrayElement : MethodName := ⟨RX12, "arrayElement", "(II)J"⟩
abbrev cX12_firstMismatch : ByteArray := prog_14_method_131_code
def yX12_firstMismatch : MethodName := ⟨RX12, "firstMismatch", "(II)I"⟩
abbrev cX12_usedSlotCount : ByteArray := prog_14_method_132_code
def yX12_usedSlotCount : MethodName := ⟨RX12, "usedSlotCount", "()I"⟩
abbrev cX12_changeCount : ByteArray := prog_14_method_133_code
def yX12_changeCount : MethodName := ⟨RX12, "changeCount", "()I"⟩
abbrev cX12_inputLength : ByteArray := prog_14_method_134_code
def yX12_inputLength : MethodName := ⟨RX12, "inputLength", "()I"⟩
abbrev cX12_takeSnapshot : ByteArray := prog_14_method_135_code
def yX12_takeSnapshot : MethodName := ⟨RX12, "takeSnapshot", "()I"⟩
abbrev cX12_copy : ByteArray := prog_14_method_136_code
def yX12_copy : MethodName := ⟨RX12, "copy", "([II[III)V"⟩
abbrev cX12_restoreSnapshot : ByteArray := prog_14_method_137_code
def yX12_restoreSnapshot : MethodName := ⟨RX12, "restoreSnapshot", "()I"⟩
def RJ6 : String := "java/lang/Integer"
def TJ6 : u_T := fun k => match k with
  | _ => ("", "", "", false)
def tyJ6 : Nat → FieldType := fun k => match k with
  | _ => .int
abbrev wsJ60 : List Cond := u_ws RJ6 TJ6 0
theorem nmJ6 : ∀ a, a < 0 → ∀ b, b < 0 → a ≠ b → (TJ6 a).2.1 ≠ (TJ6 b).2.1 := by decide +kernel
theorem tyJ6_ok : ∀ k, k < 0 → parseFieldDescriptor (TJ6 k).2.2.1 = some (tyJ6 k) := by decide +kernel
abbrev cJ6_numberOfTrailingZeros_0f7a4 : ByteArray := prog_15_method_48_code
def yJ6_numberOfTrailingZeros_0f7a4 : MethodName := ⟨RJ6, "numberOfTrailingZeros", "(I)I"⟩
abbrev cJ6_bitCount_0f7a4 : ByteArray := prog_15_method_49_code
def yJ6_bitCount_0f7a4 : MethodName := ⟨RJ6, "bitCount", "(I)I"⟩
def RJ13 : String := "java/lang/Long"
def TJ13 : u_T := fun k => match k with
  | _ => ("", "", "", false)
def tyJ13 : Nat → FieldType := fun k => match k with
  | _ => .int
abbrev wsJ130 : List Cond := u_ws RJ13 TJ13 0
theorem nmJ13 : ∀ a, a < 0 → ∀ b, b < 0 → a ≠ b → (TJ13 a).2.1 ≠ (TJ13 b).2.1 := by decide +kernel
theorem tyJ13_ok : ∀ k, k < 0 → parseFieldDescriptor (TJ13 k).2.2.1 = some (tyJ13 k) := by decide +kernel
abbrev cJ13_bitCount_95d88 : ByteArray := prog_16_method_50_code
def yJ13_bitCount_95d88 : MethodName := ⟨RJ13, "bitCount", "(J)I"⟩
def RJ9 : String := "java/lang/Math"
def TJ9 : u_T := fun k => match k with
  | _ => ("", "", "", false)
def tyJ9 : Nat → FieldType := fun k => match k with
  | _ => .int
abbrev wsJ90 : List Cond := u_ws RJ9 TJ9 0
theorem nmJ9 : ∀ a, a < 0 → ∀ b, b < 0 → a ≠ b → (TJ9 a).2.1 ≠ (TJ9 b).2.1 := by decide +kernel
theorem tyJ9_ok : ∀ k, k < 0 → parseFieldDescriptor (TJ9 k).2.2.1 = some (tyJ9 k) := by decide +kernel
abbrev cJ9_max_7cf53 : ByteArray := prog_17_method_65_code
def yJ9_max_7cf53 : MethodName := ⟨RJ9, "max", "(II)I"⟩
abbrev cJ9_min_7cf53 : ByteArray := prog_17_method_69_code
def yJ9_min_7cf53 : MethodName := ⟨RJ9, "min", "(II)I"⟩
def RJ10 : String := "java/lang/System"
def TJ10 : u_T := fun k => match k with
  | _ => ("", "", "", false)
def tyJ10 : Nat → FieldType := fun k => match k with
  | _ => .int
abbrev wsJ100 : List Cond := u_ws RJ10 TJ10 0
theorem nmJ10 : ∀ a, a < 0 → ∀ b, b < 0 → a ≠ b → (TJ10 a).2.1 ≠ (TJ10 b).2.1 := by decide +kernel
theorem tyJ10_ok : ∀ k, k < 0 → parseFieldDescriptor (TJ10 k).2.2.1 = some (tyJ10 k) := by decide +kernel
def RL : String := "EdgeIdealsLaw"
abbrev cL_law : ByteArray := code
def yL_law : MethodName := ⟨RL, "law", "([I)Z"⟩
end
section
theorem dX0_init_0 : decode cX0_init 0 = .ok (.aload_n 0, 1) := by decide +kernel
theorem dX0_init_1 : decode cX0_init 1 = .ok (.invokespecial 1, 3) := by decide +kernel
theorem dX0_init_4 : decode cX0_init 4 = .ok (.aload_n 0, 1) := by decide +kernel
theorem dX0_init_5 : decode cX0_init 5 = .ok (.bipush 12, 2) := by decide +kernel
theorem dX0_init_7 : decode cX0_init 7 = .ok (.newarray .long, 2) := by decide +kernel
theorem dX0_init_9 : decode cX0_init 9 = .ok (.putfield 9, 3) := by decide +kernel
theorem dX0_init_12 : decode cX0_init 12 = .ok (.aload_n 0, 1) := by decide +kernel
theorem dX0_init_13 : decode cX0_init 13 = .ok (.iconst 0, 1) := by decide +kernel
theorem dX0_init_14 : decode cX0_init 14 = .ok (.putfield 13, 3) := by decide +kernel
theorem dX0_init_17 : decode cX0_init 17 = .ok (.return_, 1) := by decide +kernel
theorem dX0_push_0 : decode cX0_push 0 = .ok (.aload_n 0, 1) := by decide +kernel
theorem dX0_push_1 : decode cX0_push 1 = .ok (.getfield 13, 3) := by decide +kernel
theorem dX0_push_4 : decode cX0_push 4 = .ok (.bipush 12, 2) := by decide +kernel
theorem dX0_push_6 : decode cX0_push 6 = .ok (.if_icmp .ne 24, 3) := by decide +kernel
theorem dX0_push_9 : decode cX0_push 9 = .ok (.aload_n 0, 1) := by decide +kernel
theorem dX0_push_10 : decode cX0_push 10 = .ok (.getfield 9, 3) := by decide +kernel
theorem dX0_push_13 : decode cX0_push 13 = .ok (.iconst 1, 1) := by decide +kernel
theorem dX0_push_14 : decode cX0_push 14 = .ok (.aload_n 0, 1) := by decide +kernel
theorem dX0_push_15 : decode cX0_push 15 = .ok (.getfield 9, 3) := by decide +kernel
theorem dX0_push_18 : decode cX0_push 18 = .ok (.iconst 0, 1) := by decide +kernel
theorem dX0_push_19 : decode cX0_push 19 = .ok (.bipush 11, 2) := by decide +kernel
theorem dX0_push_21 : decode cX0_push 21 = .ok (.invokestatic 17, 3) := by decide +kernel
theorem dX0_push_24 : decode cX0_push 24 = .ok (.aload_n 0, 1) := by decide +kernel
theorem dX0_push_25 : decode cX0_push 25 = .ok (.bipush 11, 2) := by decide +kernel
theorem dX0_push_27 : decode cX0_push 27 = .ok (.putfield 13, 3) := by decide +kernel
theorem dX0_push_30 : decode cX0_push 30 = .ok (.aload_n 0, 1) := by decide +kernel
theorem dX0_push_31 : decode cX0_push 31 = .ok (.getfield 9, 3) := by decide +kernel
theorem dX0_push_34 : decode cX0_push 34 = .ok (.aload_n 0, 1) := by decide +kernel
theorem dX0_push_35 : decode cX0_push 35 = .ok (.getfield 13, 3) := by decide +kernel
theorem dX0_push_38 : decode cX0_push 38 = .ok (.lload_n 1, 1) := by decide +kernel
theorem dX0_push_39 : decode cX0_push 39 = .ok (.lastore, 1) := by decide +kernel
theorem dX0_push_40 : decode cX0_push 40 = .ok (.aload_n 0, 1) := by decide +kernel
theorem dX0_push_41 : decode cX0_push 41 = .ok (.dup, 1) := by decide +kernel
theorem dX0_push_42 : decode cX0_push 42 = .ok (.getfield 13, 3) := by decide +kernel
theorem dX0_push_45 : decode cX0_push 45 = .ok (.iconst 1, 1) := by decide +kernel
theorem dX0_push_46 : decode cX0_push 46 = .ok (.iadd, 1) := by decide +kernel
theorem dX0_push_47 : decode cX0_push 47 = .ok (.putfield 13, 3) := by decide +kernel
theorem dX0_push_50 : decode cX0_push 50 = .ok (.return_, 1) := by decide +kernel
theorem dX0_pop_0 : decode cX0_pop 0 = .ok (.aload_n 0, 1) := by decide +kernel
theorem dX0_pop_1 : decode cX0_pop 1 = .ok (.getfield 13, 3) := by decide +kernel
theorem dX0_pop_4 : decode cX0_pop 4 = .ok (.ifCond .ne 5, 3) := by decide +kernel
theorem dX0_pop_7 : decode cX0_pop 7 = .ok (.lconst 0, 1) := by decide +kernel
theorem dX0_pop_8 : decode cX0_pop 8 = .ok (.lreturn, 1) := by decide +kernel
theorem dX0_pop_9 : decode cX0_pop 9 = .ok (.aload_n 0, 1) := by decide +kernel
theorem dX0_pop_10 : decode cX0_pop 10 = .ok (.dup, 1) := by decide +kernel
theorem dX0_pop_11 : decode cX0_pop 11 = .ok (.getfield 13, 3) := by decide +kernel
theorem dX0_pop_14 : decode cX0_pop 14 = .ok (.iconst 1, 1) := by decide +kernel
theorem dX0_pop_15 : decode cX0_pop 15 = .ok (.isub, 1) := by decide +kernel
theorem dX0_pop_16 : decode cX0_pop 16 = .ok (.putfield 13, 3) := by decide +kernel
theorem dX0_pop_19 : decode cX0_pop 19 = .ok (.aload_n 0, 1) := by decide +kernel
theorem dX0_pop_20 : decode cX0_pop 20 = .ok (.getfield 9, 3) := by decide +kernel
theorem dX0_pop_23 : decode cX0_pop 23 = .ok (.aload_n 0, 1) := by decide +kernel
theorem dX0_pop_24 : decode cX0_pop 24 = .ok (.getfield 13, 3) := by decide +kernel
theorem dX0_pop_27 : decode cX0_pop 27 = .ok (.laload, 1) := by decide +kernel
theorem dX0_pop_28 : decode cX0_pop 28 = .ok (.lreturn, 1) := by decide +kernel
theorem dX1_init_0 : decode cX1_init 0 = .ok (.aload_n 0, 1) := by decide +kernel
theorem dX1_init_1 : decode cX1_init 1 = .ok (.invokespecial 3, 3) := by decide +kernel
theorem dX1_init_4 : decode cX1_init 4 = .ok (.aload_n 0, 1) := by decide +kernel
theorem dX1_init_5 : decode cX1_init 5 = .ok (.iconst 4, 1) := by decide +kernel
theorem dX1_init_6 : decode cX1_init 6 = .ok (.putfield 9, 3) := by decide +kernel
theorem dX1_init_9 : decode cX1_init 9 = .ok (.aload_n 0, 1) := by decide +kernel
theorem dX1_init_10 : decode cX1_init 10 = .ok (.lconst 0, 1) := by decide +kernel
theorem dX1_init_11 : decode cX1_init 11 = .ok (.putfield 15, 3) := by decide +kernel
theorem dX1_init_14 : decode cX1_init 14 = .ok (.aload_n 0, 1) := by decide +kernel
theorem dX1_init_15 : decode cX1_init 15 = .ok (.new 19, 3) := by decide +kernel
theorem dX1_init_18 : decode cX1_init 18 = .ok (.dup, 1) := by decide +kernel
theorem dX1_init_19 : decode cX1_init 19 = .ok (.bipush 7, 2) := by decide +kernel
theorem dX1_init_21 : decode cX1_init 21 = .ok (.invokespecial 21, 3) := by decide +kernel
theorem dX1_init_24 : decode cX1_init 24 = .ok (.putfield 24, 3) := by decide +kernel
theorem dX1_init_27 : decode cX1_init 27 = .ok (.return_, 1) := by decide +kernel
theorem dX1_edgeBits_0 : decode cX1_edgeBits 0 = .ok (.lconst 1, 1) := by decide +kernel
theorem dX1_edgeBits_1 : decode cX1_edgeBits 1 = .ok (.bipush 7, 2) := by decide +kernel
theorem dX1_edgeBits_3 : decode cX1_edgeBits 3 = .ok (.iload_n 0, 1) := by decide +kernel
theorem dX1_edgeBits_4 : decode cX1_edgeBits 4 = .ok (.imul, 1) := by decide +kernel
theorem dX1_edgeBits_5 : decode cX1_edgeBits 5 = .ok (.iload_n 1, 1) := by decide +kernel
theorem dX1_edgeBits_6 : decode cX1_edgeBits 6 = .ok (.iadd, 1) := by decide +kernel
theorem dX1_edgeBits_7 : decode cX1_edgeBits 7 = .ok (.lshl, 1) := by decide +kernel
theorem dX1_edgeBits_8 : decode cX1_edgeBits 8 = .ok (.lconst 1, 1) := by decide +kernel
theorem dX1_edgeBits_9 : decode cX1_edgeBits 9 = .ok (.bipush 7, 2) := by decide +kernel
theorem dX1_edgeBits_11 : decode cX1_edgeBits 11 = .ok (.iload_n 1, 1) := by decide +kernel
theorem dX1_edgeBits_12 : decode cX1_edgeBits 12 = .ok (.imul, 1) := by decide +kernel
theorem dX1_edgeBits_13 : decode cX1_edgeBits 13 = .ok (.iload_n 0, 1) := by decide +kernel
theorem dX1_edgeBits_14 : decode cX1_edgeBits 14 = .ok (.iadd, 1) := by decide +kernel
theorem dX1_edgeBits_15 : decode cX1_edgeBits 15 = .ok (.lshl, 1) := by decide +kernel
theorem dX1_edgeBits_16 : decode cX1_edgeBits 16 = .ok (.lor, 1) := by decide +kernel
theorem dX1_edgeBits_17 : decode cX1_edgeBits 17 = .ok (.lreturn, 1) := by decide +kernel
theorem dX1_neighborsIn_0 : decode cX1_neighborsIn 0 = .ok (.lload_n 0, 1) := by decide +kernel
theorem dX1_neighborsIn_1 : decode cX1_neighborsIn 1 = .ok (.bipush 7, 2) := by decide +kernel
theorem dX1_neighborsIn_3 : decode cX1_neighborsIn 3 = .ok (.iload_n 2, 1) := by decide +kernel
theorem dX1_neighborsIn_4 : decode cX1_neighborsIn 4 = .ok (.imul, 1) := by decide +kernel
theorem dX1_neighborsIn_5 : decode cX1_neighborsIn 5 = .ok (.lushr, 1) := by decide +kernel
theorem dX1_neighborsIn_6 : decode cX1_neighborsIn 6 = .ok (.l2i, 1) := by decide +kernel
theorem dX1_neighborsIn_7 : decode cX1_neighborsIn 7 = .ok (.bipush 127, 2) := by decide +kernel
theorem dX1_neighborsIn_9 : decode cX1_neighborsIn 9 = .ok (.iand, 1) := by decide +kernel
theorem dX1_neighborsIn_10 : decode cX1_neighborsIn 10 = .ok (.ireturn, 1) := by decide +kernel
theorem dX1_allVertices_0 : decode cX1_allVertices 0 = .ok (.iconst 1, 1) := by decide +kernel
theorem dX1_allVertices_1 : decode cX1_allVertices 1 = .ok (.aload_n 0, 1) := by decide +kernel
theorem dX1_allVertices_2 : decode cX1_allVertices 2 = .ok (.getfield 9, 3) := by decide +kernel
theorem dX1_allVertices_5 : decode cX1_allVertices 5 = .ok (.ishl, 1) := by decide +kernel
theorem dX1_allVertices_6 : decode cX1_allVertices 6 = .ok (.iconst 1, 1) := by decide +kernel
theorem dX1_allVertices_7 : decode cX1_allVertices 7 = .ok (.isub, 1) := by decide +kernel
theorem dX1_allVertices_8 : decode cX1_allVertices 8 = .ok (.ireturn, 1) := by decide +kernel
theorem dX1_greatestCode_0 : decode cX1_greatestCode 0 = .ok (.iconst 1, 1) := by decide +kernel
theorem dX1_greatestCode_1 : decode cX1_greatestCode 1 = .ok (.iconst 2, 1) := by decide +kernel
theorem dX1_greatestCode_2 : decode cX1_greatestCode 2 = .ok (.aload_n 0, 1) := by decide +kernel
theorem dX1_greatestCode_3 : decode cX1_greatestCode 3 = .ok (.getfield 9, 3) := by decide +kernel
theorem dX1_greatestCode_6 : decode cX1_greatestCode 6 = .ok (.imul, 1) := by decide +kernel
theorem dX1_greatestCode_7 : decode cX1_greatestCode 7 = .ok (.ishl, 1) := by decide +kernel
theorem dX1_greatestCode_8 : decode cX1_greatestCode 8 = .ok (.iconst 1, 1) := by decide +kernel
theorem dX1_greatestCode_9 : decode cX1_greatestCode 9 = .ok (.isub, 1) := by decide +kernel
theorem dX1_greatestCode_10 : decode cX1_greatestCode 10 = .ok (.ireturn, 1) := by decide +kernel
theorem dX1_edgeTotal_0 : decode cX1_edgeTotal 0 = .ok (.aload_n 0, 1) := by decide +kernel
theorem dX1_edgeTotal_1 : decode cX1_edgeTotal 1 = .ok (.getfield 15, 3) := by decide +kernel
theorem dX1_edgeTotal_4 : decode cX1_edgeTotal 4 = .ok (.invokestatic 28, 3) := by decide +kernel
theorem dX1_edgeTotal_7 : decode cX1_edgeTotal 7 = .ok (.iconst 2, 1) := by decide +kernel
theorem dX1_edgeTotal_8 : decode cX1_edgeTotal 8 = .ok (.idiv, 1) := by decide +kernel
theorem dX1_edgeTotal_9 : decode cX1_edgeTotal 9 = .ok (.ireturn, 1) := by decide +kernel
theorem dX1_matrixOfKind_0 : decode cX1_matrixOfKind 0 = .ok (.iload_n 1, 1) := by decide +kernel
theorem dX1_matrixOfKind_1 : decode cX1_matrixOfKind 1 = .ok (.tableswitch 80 1 5 #[35, 51, 56, 61, 66], 35) := by decide +kernel
theorem dX1_matrixOfKind_36 : decode cX1_matrixOfKind 36 = .ok (.aload_n 0, 1) := by decide +kernel
theorem dX1_matrixOfKind_37 : decode cX1_matrixOfKind 37 = .ok (.invokevirtual 34, 3) := by decide +kernel
theorem dX1_matrixOfKind_40 : decode cX1_matrixOfKind 40 = .ok (.iconst 0, 1) := by decide +kernel
theorem dX1_matrixOfKind_41 : decode cX1_matrixOfKind 41 = .ok (.aload_n 0, 1) := by decide +kernel
theorem dX1_matrixOfKind_42 : decode cX1_matrixOfKind 42 = .ok (.getfield 9, 3) := by decide +kernel
theorem dX1_matrixOfKind_45 : decode cX1_matrixOfKind 45 = .ok (.iconst 1, 1) := by decide +kernel
theorem dX1_matrixOfKind_46 : decode cX1_matrixOfKind 46 = .ok (.isub, 1) := by decide +kernel
theorem dX1_matrixOfKind_47 : decode cX1_matrixOfKind 47 = .ok (.invokestatic 38, 3) := by decide +kernel
theorem dX1_matrixOfKind_50 : decode cX1_matrixOfKind 50 = .ok (.lor, 1) := by decide +kernel
theorem dX1_matrixOfKind_51 : decode cX1_matrixOfKind 51 = .ok (.lreturn, 1) := by decide +kernel
theorem dX1_matrixOfKind_52 : decode cX1_matrixOfKind 52 = .ok (.aload_n 0, 1) := by decide +kernel
theorem dX1_matrixOfKind_53 : decode cX1_matrixOfKind 53 = .ok (.invokevirtual 34, 3) := by decide +kernel
theorem dX1_matrixOfKind_56 : decode cX1_matrixOfKind 56 = .ok (.lreturn, 1) := by decide +kernel
theorem dX1_matrixOfKind_57 : decode cX1_matrixOfKind 57 = .ok (.aload_n 0, 1) := by decide +kernel
theorem dX1_matrixOfKind_58 : decode cX1_matrixOfKind 58 = .ok (.invokevirtual 42, 3) := by decide +kernel
theorem dX1_matrixOfKind_61 : decode cX1_matrixOfKind 61 = .ok (.lreturn, 1) := by decide +kernel
theorem dX1_matrixOfKind_62 : decode cX1_matrixOfKind 62 = .ok (.aload_n 0, 1) := by decide +kernel
theorem dX1_matrixOfKind_63 : decode cX1_matrixOfKind 63 = .ok (.invokevirtual 45, 3) := by decide +kernel
theorem dX1_matrixOfKind_66 : decode cX1_matrixOfKind 66 = .ok (.lreturn, 1) := by decide +kernel
theorem dX1_matrixOfKind_67 : decode cX1_matrixOfKind 67 = .ok (.aload_n 0, 1) := by decide +kernel
theorem dX1_matrixOfKind_68 : decode cX1_matrixOfKind 68 = .ok (.invokevirtual 42, 3) := by decide +kernel
theorem dX1_matrixOfKind_71 : decode cX1_matrixOfKind 71 = .ok (.aload_n 0, 1) := by decide +kernel
theorem dX1_matrixOfKind_72 : decode cX1_matrixOfKind 72 = .ok (.getfield 15, 3) := by decide +kernel
theorem dX1_matrixOfKind_75 : decode cX1_matrixOfKind 75 = .ok (.ldc2_w 48, 3) := by decide +kernel
theorem dX1_matrixOfKind_78 : decode cX1_matrixOfKind 78 = .ok (.lxor, 1) := by decide +kernel
theorem dX1_matrixOfKind_79 : decode cX1_matrixOfKind 79 = .ok (.land, 1) := by decide +kernel
theorem dX1_matrixOfKind_80 : decode cX1_matrixOfKind 80 = .ok (.lreturn, 1) := by decide +kernel
theorem dX1_matrixOfKind_81 : decode cX1_matrixOfKind 81 = .ok (.lconst 0, 1) := by decide +kernel
theorem dX1_matrixOfKind_82 : decode cX1_matrixOfKind 82 = .ok (.lreturn, 1) := by decide +kernel
theorem dX1_pathMatrix_0 : decode cX1_pathMatrix 0 = .ok (.lconst 0, 1) := by decide +kernel
theorem dX1_pathMatrix_1 : decode cX1_pathMatrix 1 = .ok (.lstore_n 1, 1) := by decide +kernel
theorem dX1_pathMatrix_2 : decode cX1_pathMatrix 2 = .ok (.iconst 1, 1) := by decide +kernel
theorem dX1_pathMatrix_3 : decode cX1_pathMatrix 3 = .ok (.istore_n 3, 1) := by decide +kernel
theorem dX1_pathMatrix_4 : decode cX1_pathMatrix 4 = .ok (.iload_n 3, 1) := by decide +kernel
theorem dX1_pathMatrix_5 : decode cX1_pathMatrix 5 = .ok (.aload_n 0, 1) := by decide +kernel
theorem dX1_pathMatrix_6 : decode cX1_pathMatrix 6 = .ok (.getfield 9, 3) := by decide +kernel
theorem dX1_pathMatrix_9 : decode cX1_pathMatrix 9 = .ok (.if_icmp .ge 19, 3) := by decide +kernel
theorem dX1_pathMatrix_12 : decode cX1_pathMatrix 12 = .ok (.lload_n 1, 1) := by decide +kernel
theorem dX1_pathMatrix_13 : decode cX1_pathMatrix 13 = .ok (.iload_n 3, 1) := by decide +kernel
theorem dX1_pathMatrix_14 : decode cX1_pathMatrix 14 = .ok (.iconst 1, 1) := by decide +kernel
theorem dX1_pathMatrix_15 : decode cX1_pathMatrix 15 = .ok (.isub, 1) := by decide +kernel
theorem dX1_pathMatrix_16 : decode cX1_pathMatrix 16 = .ok (.iload_n 3, 1) := by decide +kernel
theorem dX1_pathMatrix_17 : decode cX1_pathMatrix 17 = .ok (.invokestatic 38, 3) := by decide +kernel
theorem dX1_pathMatrix_20 : decode cX1_pathMatrix 20 = .ok (.lor, 1) := by decide +kernel
theorem dX1_pathMatrix_21 : decode cX1_pathMatrix 21 = .ok (.lstore_n 1, 1) := by decide +kernel
theorem dX1_pathMatrix_22 : decode cX1_pathMatrix 22 = .ok (.iinc 3 1, 3) := by decide +kernel
theorem dX1_pathMatrix_25 : decode cX1_pathMatrix 25 = .ok (.goto (-21), 3) := by decide +kernel
theorem dX1_pathMatrix_28 : decode cX1_pathMatrix 28 = .ok (.lload_n 1, 1) := by decide +kernel
theorem dX1_pathMatrix_29 : decode cX1_pathMatrix 29 = .ok (.lreturn, 1) := by decide +kernel
theorem dX1_starMatrix_0 : decode cX1_starMatrix 0 = .ok (.lconst 0, 1) := by decide +kernel
theorem dX1_starMatrix_1 : decode cX1_starMatrix 1 = .ok (.lstore_n 1, 1) := by decide +kernel
theorem dX1_starMatrix_2 : decode cX1_starMatrix 2 = .ok (.iconst 1, 1) := by decide +kernel
theorem dX1_starMatrix_3 : decode cX1_starMatrix 3 = .ok (.istore_n 3, 1) := by decide +kernel
theorem dX1_starMatrix_4 : decode cX1_starMatrix 4 = .ok (.iload_n 3, 1) := by decide +kernel
theorem dX1_starMatrix_5 : decode cX1_starMatrix 5 = .ok (.aload_n 0, 1) := by decide +kernel
theorem dX1_starMatrix_6 : decode cX1_starMatrix 6 = .ok (.getfield 9, 3) := by decide +kernel
theorem dX1_starMatrix_9 : decode cX1_starMatrix 9 = .ok (.if_icmp .ge 17, 3) := by decide +kernel
theorem dX1_starMatrix_12 : decode cX1_starMatrix 12 = .ok (.lload_n 1, 1) := by decide +kernel
theorem dX1_starMatrix_13 : decode cX1_starMatrix 13 = .ok (.iconst 0, 1) := by decide +kernel
theorem dX1_starMatrix_14 : decode cX1_starMatrix 14 = .ok (.iload_n 3, 1) := by decide +kernel
theorem dX1_starMatrix_15 : decode cX1_starMatrix 15 = .ok (.invokestatic 38, 3) := by decide +kernel
theorem dX1_starMatrix_18 : decode cX1_starMatrix 18 = .ok (.lor, 1) := by decide +kernel
theorem dX1_starMatrix_19 : decode cX1_starMatrix 19 = .ok (.lstore_n 1, 1) := by decide +kernel
theorem dX1_starMatrix_20 : decode cX1_starMatrix 20 = .ok (.iinc 3 1, 3) := by decide +kernel
theorem dX1_starMatrix_23 : decode cX1_starMatrix 23 = .ok (.goto (-19), 3) := by decide +kernel
theorem dX1_starMatrix_26 : decode cX1_starMatrix 26 = .ok (.lload_n 1, 1) := by decide +kernel
theorem dX1_starMatrix_27 : decode cX1_starMatrix 27 = .ok (.lreturn, 1) := by decide +kernel
theorem dX1_completeMatrix_0 : decode cX1_completeMatrix 0 = .ok (.lconst 0, 1) := by decide +kernel
theorem dX1_completeMatrix_1 : decode cX1_completeMatrix 1 = .ok (.lstore_n 1, 1) := by decide +kernel
theorem dX1_completeMatrix_2 : decode cX1_completeMatrix 2 = .ok (.iconst 1, 1) := by decide +kernel
theorem dX1_completeMatrix_3 : decode cX1_completeMatrix 3 = .ok (.istore_n 3, 1) := by decide +kernel
theorem dX1_completeMatrix_4 : decode cX1_completeMatrix 4 = .ok (.iload_n 3, 1) := by decide +kernel
theorem dX1_completeMatrix_5 : decode cX1_completeMatrix 5 = .ok (.aload_n 0, 1) := by decide +kernel
theorem dX1_completeMatrix_6 : decode cX1_completeMatrix 6 = .ok (.getfield 9, 3) := by decide +kernel
theorem dX1_completeMatrix_9 : decode cX1_completeMatrix 9 = .ok (.if_icmp .ge 33, 3) := by decide +kernel
theorem dX1_completeMatrix_12 : decode cX1_completeMatrix 12 = .ok (.iconst 0, 1) := by decide +kernel
theorem dX1_completeMatrix_13 : decode cX1_completeMatrix 13 = .ok (.istore 4, 2) := by decide +kernel
theorem dX1_completeMatrix_15 : decode cX1_completeMatrix 15 = .ok (.iload 4, 2) := by decide +kernel
theorem dX1_completeMatrix_17 : decode cX1_completeMatrix 17 = .ok (.iload_n 3, 1) := by decide +kernel
theorem dX1_completeMatrix_18 : decode cX1_completeMatrix 18 = .ok (.if_icmp .ge 18, 3) := by decide +kernel
theorem dX1_completeMatrix_21 : decode cX1_completeMatrix 21 = .ok (.lload_n 1, 1) := by decide +kernel
theorem dX1_completeMatrix_22 : decode cX1_completeMatrix 22 = .ok (.iload 4, 2) := by decide +kernel
theorem dX1_completeMatrix_24 : decode cX1_completeMatrix 24 = .ok (.iload_n 3, 1) := by decide +kernel
theorem dX1_completeMatrix_25 : decode cX1_completeMatrix 25 = .ok (.invokestatic 38, 3) := by decide +kernel
theorem dX1_completeMatrix_28 : decode cX1_completeMatrix 28 = .ok (.lor, 1) := by decide +kernel
theorem dX1_completeMatrix_29 : decode cX1_completeMatrix 29 = .ok (.lstore_n 1, 1) := by decide +kernel
theorem dX1_completeMatrix_30 : decode cX1_completeMatrix 30 = .ok (.iinc 4 1, 3) := by decide +kernel
theorem dX1_completeMatrix_33 : decode cX1_completeMatrix 33 = .ok (.goto (-18), 3) := by decide +kernel
theorem dX1_completeMatrix_36 : decode cX1_completeMatrix 36 = .ok (.iinc 3 1, 3) := by decide +kernel
theorem dX1_completeMatrix_39 : decode cX1_completeMatrix 39 = .ok (.goto (-35), 3) := by decide +kernel
theorem dX1_completeMatrix_42 : decode cX1_completeMatrix 42 = .ok (.lload_n 1, 1) := by decide +kernel
theorem dX1_completeMatrix_43 : decode cX1_completeMatrix 43 = .ok (.lreturn, 1) := by decide +kernel
theorem dX1_componentTotal_0 : decode cX1_componentTotal 0 = .ok (.aload_n 0, 1) := by decide +kernel
theorem dX1_componentTotal_1 : decode cX1_componentTotal 1 = .ok (.invokevirtual 50, 3) := by decide +kernel
theorem dX1_componentTotal_4 : decode cX1_componentTotal 4 = .ok (.istore_n 1, 1) := by decide +kernel
theorem dX1_componentTotal_5 : decode cX1_componentTotal 5 = .ok (.iconst 0, 1) := by decide +kernel
theorem dX1_componentTotal_6 : decode cX1_componentTotal 6 = .ok (.istore_n 2, 1) := by decide +kernel
theorem dX1_componentTotal_7 : decode cX1_componentTotal 7 = .ok (.iconst 0, 1) := by decide +kernel
theorem dX1_componentTotal_8 : decode cX1_componentTotal 8 = .ok (.istore_n 3, 1) := by decide +kernel
theorem dX1_componentTotal_9 : decode cX1_componentTotal 9 = .ok (.iload_n 3, 1) := by decide +kernel
theorem dX1_componentTotal_10 : decode cX1_componentTotal 10 = .ok (.aload_n 0, 1) := by decide +kernel
theorem dX1_componentTotal_11 : decode cX1_componentTotal 11 = .ok (.getfield 9, 3) := by decide +kernel
theorem dX1_componentTotal_14 : decode cX1_componentTotal 14 = .ok (.if_icmp .ge 30, 3) := by decide +kernel
theorem dX1_componentTotal_17 : decode cX1_componentTotal 17 = .ok (.iload_n 1, 1) := by decide +kernel
theorem dX1_componentTotal_18 : decode cX1_componentTotal 18 = .ok (.iload_n 3, 1) := by decide +kernel
theorem dX1_componentTotal_19 : decode cX1_componentTotal 19 = .ok (.ishr, 1) := by decide +kernel
theorem dX1_componentTotal_20 : decode cX1_componentTotal 20 = .ok (.iconst 1, 1) := by decide +kernel
theorem dX1_componentTotal_21 : decode cX1_componentTotal 21 = .ok (.iand, 1) := by decide +kernel
theorem dX1_componentTotal_22 : decode cX1_componentTotal 22 = .ok (.ifCond .eq 16, 3) := by decide +kernel
theorem dX1_componentTotal_25 : decode cX1_componentTotal 25 = .ok (.iinc 2 1, 3) := by decide +kernel
theorem dX1_componentTotal_28 : decode cX1_componentTotal 28 = .ok (.iload_n 1, 1) := by decide +kernel
theorem dX1_componentTotal_29 : decode cX1_componentTotal 29 = .ok (.aload_n 0, 1) := by decide +kernel
theorem dX1_componentTotal_30 : decode cX1_componentTotal 30 = .ok (.iload_n 3, 1) := by decide +kernel
theorem dX1_componentTotal_31 : decode cX1_componentTotal 31 = .ok (.invokevirtual 54, 3) := by decide +kernel
theorem dX1_componentTotal_34 : decode cX1_componentTotal 34 = .ok (.iconst (-1), 1) := by decide +kernel
theorem dX1_componentTotal_35 : decode cX1_componentTotal 35 = .ok (.ixor, 1) := by decide +kernel
theorem dX1_componentTotal_36 : decode cX1_componentTotal 36 = .ok (.iand, 1) := by decide +kernel
theorem dX1_componentTotal_37 : decode cX1_componentTotal 37 = .ok (.istore_n 1, 1) := by decide +kernel
theorem dX1_componentTotal_38 : decode cX1_componentTotal 38 = .ok (.iinc 3 1, 3) := by decide +kernel
theorem dX1_componentTotal_41 : decode cX1_componentTotal 41 = .ok (.goto (-32), 3) := by decide +kernel
theorem dX1_componentTotal_44 : decode cX1_componentTotal 44 = .ok (.iload_n 2, 1) := by decide +kernel
theorem dX1_componentTotal_45 : decode cX1_componentTotal 45 = .ok (.ireturn, 1) := by decide +kernel
theorem dX1_componentOf_0 : decode cX1_componentOf 0 = .ok (.iconst 1, 1) := by decide +kernel
theorem dX1_componentOf_1 : decode cX1_componentOf 1 = .ok (.iload_n 1, 1) := by decide +kernel
theorem dX1_componentOf_2 : decode cX1_componentOf 2 = .ok (.ishl, 1) := by decide +kernel
theorem dX1_componentOf_3 : decode cX1_componentOf 3 = .ok (.istore_n 2, 1) := by decide +kernel
theorem dX1_componentOf_4 : decode cX1_componentOf 4 = .ok (.iconst 1, 1) := by decide +kernel
theorem dX1_componentOf_5 : decode cX1_componentOf 5 = .ok (.istore_n 3, 1) := by decide +kernel
theorem dX1_componentOf_6 : decode cX1_componentOf 6 = .ok (.iload_n 3, 1) := by decide +kernel
theorem dX1_componentOf_7 : decode cX1_componentOf 7 = .ok (.aload_n 0, 1) := by decide +kernel
theorem dX1_componentOf_8 : decode cX1_componentOf 8 = .ok (.getfield 9, 3) := by decide +kernel
theorem dX1_componentOf_11 : decode cX1_componentOf 11 = .ok (.if_icmp .ge 56, 3) := by decide +kernel
theorem dX1_componentOf_14 : decode cX1_componentOf 14 = .ok (.iload_n 2, 1) := by decide +kernel
theorem dX1_componentOf_15 : decode cX1_componentOf 15 = .ok (.istore 4, 2) := by decide +kernel
theorem dX1_componentOf_17 : decode cX1_componentOf 17 = .ok (.iconst 0, 1) := by decide +kernel
theorem dX1_componentOf_18 : decode cX1_componentOf 18 = .ok (.istore 5, 2) := by decide +kernel
theorem dX1_componentOf_20 : decode cX1_componentOf 20 = .ok (.iload 5, 2) := by decide +kernel
theorem dX1_componentOf_22 : decode cX1_componentOf 22 = .ok (.aload_n 0, 1) := by decide +kernel
theorem dX1_componentOf_23 : decode cX1_componentOf 23 = .ok (.getfield 9, 3) := by decide +kernel
theorem dX1_componentOf_26 : decode cX1_componentOf 26 = .ok (.if_icmp .ge 32, 3) := by decide +kernel
theorem dX1_componentOf_29 : decode cX1_componentOf 29 = .ok (.iload_n 2, 1) := by decide +kernel
theorem dX1_componentOf_30 : decode cX1_componentOf 30 = .ok (.iload 5, 2) := by decide +kernel
theorem dX1_componentOf_32 : decode cX1_componentOf 32 = .ok (.ishr, 1) := by decide +kernel
theorem dX1_componentOf_33 : decode cX1_componentOf 33 = .ok (.iconst 1, 1) := by decide +kernel
theorem dX1_componentOf_34 : decode cX1_componentOf 34 = .ok (.iand, 1) := by decide +kernel
theorem dX1_componentOf_35 : decode cX1_componentOf 35 = .ok (.ifCond .eq 17, 3) := by decide +kernel
theorem dX1_componentOf_38 : decode cX1_componentOf 38 = .ok (.iload 4, 2) := by decide +kernel
theorem dX1_componentOf_40 : decode cX1_componentOf 40 = .ok (.aload_n 0, 1) := by decide +kernel
theorem dX1_componentOf_41 : decode cX1_componentOf 41 = .ok (.getfield 15, 3) := by decide +kernel
theorem dX1_componentOf_44 : decode cX1_componentOf 44 = .ok (.iload 5, 2) := by decide +kernel
theorem dX1_componentOf_46 : decode cX1_componentOf 46 = .ok (.invokestatic 58, 3) := by decide +kernel
theorem dX1_componentOf_49 : decode cX1_componentOf 49 = .ok (.ior, 1) := by decide +kernel
theorem dX1_componentOf_50 : decode cX1_componentOf 50 = .ok (.istore 4, 2) := by decide +kernel
theorem dX1_componentOf_52 : decode cX1_componentOf 52 = .ok (.iinc 5 1, 3) := by decide +kernel
theorem dX1_componentOf_55 : decode cX1_componentOf 55 = .ok (.goto (-35), 3) := by decide +kernel
theorem dX1_componentOf_58 : decode cX1_componentOf 58 = .ok (.iload 4, 2) := by decide +kernel
theorem dX1_componentOf_60 : decode cX1_componentOf 60 = .ok (.istore_n 2, 1) := by decide +kernel
theorem dX1_componentOf_61 : decode cX1_componentOf 61 = .ok (.iinc 3 1, 3) := by decide +kernel
theorem dX1_componentOf_64 : decode cX1_componentOf 64 = .ok (.goto (-58), 3) := by decide +kernel
theorem dX1_componentOf_67 : decode cX1_componentOf 67 = .ok (.iload_n 2, 1) := by decide +kernel
theorem dX1_componentOf_68 : decode cX1_componentOf 68 = .ok (.ireturn, 1) := by decide +kernel
theorem dX1_isBipartite_0 : decode cX1_isBipartite 0 = .ok (.aload_n 0, 1) := by decide +kernel
theorem dX1_isBipartite_1 : decode cX1_isBipartite 1 = .ok (.invokevirtual 50, 3) := by decide +kernel
theorem dX1_isBipartite_4 : decode cX1_isBipartite 4 = .ok (.istore_n 1, 1) := by decide +kernel
theorem dX1_isBipartite_5 : decode cX1_isBipartite 5 = .ok (.iconst 0, 1) := by decide +kernel
theorem dX1_isBipartite_6 : decode cX1_isBipartite 6 = .ok (.istore_n 2, 1) := by decide +kernel
theorem dX1_isBipartite_7 : decode cX1_isBipartite 7 = .ok (.iload_n 2, 1) := by decide +kernel
theorem dX1_isBipartite_8 : decode cX1_isBipartite 8 = .ok (.iload_n 1, 1) := by decide +kernel
theorem dX1_isBipartite_9 : decode cX1_isBipartite 9 = .ok (.if_icmp .gt 31, 3) := by decide +kernel
theorem dX1_isBipartite_12 : decode cX1_isBipartite 12 = .ok (.aload_n 0, 1) := by decide +kernel
theorem dX1_isBipartite_13 : decode cX1_isBipartite 13 = .ok (.iload_n 2, 1) := by decide +kernel
theorem dX1_isBipartite_14 : decode cX1_isBipartite 14 = .ok (.invokevirtual 62, 3) := by decide +kernel
theorem dX1_isBipartite_17 : decode cX1_isBipartite 17 = .ok (.ifCond .eq 17, 3) := by decide +kernel
theorem dX1_isBipartite_20 : decode cX1_isBipartite 20 = .ok (.aload_n 0, 1) := by decide +kernel
theorem dX1_isBipartite_21 : decode cX1_isBipartite 21 = .ok (.iload_n 1, 1) := by decide +kernel
theorem dX1_isBipartite_22 : decode cX1_isBipartite 22 = .ok (.iload_n 2, 1) := by decide +kernel
theorem dX1_isBipartite_23 : decode cX1_isBipartite 23 = .ok (.iconst (-1), 1) := by decide +kernel
theorem dX1_isBipartite_24 : decode cX1_isBipartite 24 = .ok (.ixor, 1) := by decide +kernel
theorem dX1_isBipartite_25 : decode cX1_isBipartite 25 = .ok (.iand, 1) := by decide +kernel
theorem dX1_isBipartite_26 : decode cX1_isBipartite 26 = .ok (.invokevirtual 62, 3) := by decide +kernel
theorem dX1_isBipartite_29 : decode cX1_isBipartite 29 = .ok (.ifCond .eq 5, 3) := by decide +kernel
theorem dX1_isBipartite_32 : decode cX1_isBipartite 32 = .ok (.iconst 1, 1) := by decide +kernel
theorem dX1_isBipartite_33 : decode cX1_isBipartite 33 = .ok (.ireturn, 1) := by decide +kernel
theorem dX1_isBipartite_34 : decode cX1_isBipartite 34 = .ok (.iinc 2 1, 3) := by decide +kernel
theorem dX1_isBipartite_37 : decode cX1_isBipartite 37 = .ok (.goto (-30), 3) := by decide +kernel
theorem dX1_isBipartite_40 : decode cX1_isBipartite 40 = .ok (.iconst 0, 1) := by decide +kernel
theorem dX1_isBipartite_41 : decode cX1_isBipartite 41 = .ok (.ireturn, 1) := by decide +kernel
theorem dX1_isIndependent_0 : decode cX1_isIndependent 0 = .ok (.iconst 0, 1) := by decide +kernel
theorem dX1_isIndependent_1 : decode cX1_isIndependent 1 = .ok (.istore_n 2, 1) := by decide +kernel
theorem dX1_isIndependent_2 : decode cX1_isIndependent 2 = .ok (.iload_n 2, 1) := by decide +kernel
theorem dX1_isIndependent_3 : decode cX1_isIndependent 3 = .ok (.aload_n 0, 1) := by decide +kernel
theorem dX1_isIndependent_4 : decode cX1_isIndependent 4 = .ok (.getfield 9, 3) := by decide +kernel
theorem dX1_isIndependent_7 : decode cX1_isIndependent 7 = .ok (.if_icmp .ge 32, 3) := by decide +kernel
theorem dX1_isIndependent_10 : decode cX1_isIndependent 10 = .ok (.iload_n 1, 1) := by decide +kernel
theorem dX1_isIndependent_11 : decode cX1_isIndependent 11 = .ok (.iload_n 2, 1) := by decide +kernel
theorem dX1_isIndependent_12 : decode cX1_isIndependent 12 = .ok (.ishr, 1) := by decide +kernel
theorem dX1_isIndependent_13 : decode cX1_isIndependent 13 = .ok (.iconst 1, 1) := by decide +kernel
theorem dX1_isIndependent_14 : decode cX1_isIndependent 14 = .ok (.iand, 1) := by decide +kernel
theorem dX1_isIndependent_15 : decode cX1_isIndependent 15 = .ok (.ifCond .eq 18, 3) := by decide +kernel
theorem dX1_isIndependent_18 : decode cX1_isIndependent 18 = .ok (.aload_n 0, 1) := by decide +kernel
theorem dX1_isIndependent_19 : decode cX1_isIndependent 19 = .ok (.getfield 15, 3) := by decide +kernel
theorem dX1_isIndependent_22 : decode cX1_isIndependent 22 = .ok (.iload_n 2, 1) := by decide +kernel
theorem dX1_isIndependent_23 : decode cX1_isIndependent 23 = .ok (.invokestatic 58, 3) := by decide +kernel
theorem dX1_isIndependent_26 : decode cX1_isIndependent 26 = .ok (.iload_n 1, 1) := by decide +kernel
theorem dX1_isIndependent_27 : decode cX1_isIndependent 27 = .ok (.iand, 1) := by decide +kernel
theorem dX1_isIndependent_28 : decode cX1_isIndependent 28 = .ok (.ifCond .eq 5, 3) := by decide +kernel
theorem dX1_isIndependent_31 : decode cX1_isIndependent 31 = .ok (.iconst 0, 1) := by decide +kernel
theorem dX1_isIndependent_32 : decode cX1_isIndependent 32 = .ok (.ireturn, 1) := by decide +kernel
theorem dX1_isIndependent_33 : decode cX1_isIndependent 33 = .ok (.iinc 2 1, 3) := by decide +kernel
theorem dX1_isIndependent_36 : decode cX1_isIndependent 36 = .ok (.goto (-34), 3) := by decide +kernel
theorem dX1_isIndependent_39 : decode cX1_isIndependent 39 = .ok (.iconst 1, 1) := by decide +kernel
theorem dX1_isIndependent_40 : decode cX1_isIndependent 40 = .ok (.ireturn, 1) := by decide +kernel
theorem dX1_isMinimalCover_0 : decode cX1_isMinimalCover 0 = .ok (.iconst 0, 1) := by decide +kernel
theorem dX1_isMinimalCover_1 : decode cX1_isMinimalCover 1 = .ok (.istore_n 2, 1) := by decide +kernel
theorem dX1_isMinimalCover_2 : decode cX1_isMinimalCover 2 = .ok (.iload_n 2, 1) := by decide +kernel
theorem dX1_isMinimalCover_3 : decode cX1_isMinimalCover 3 = .ok (.aload_n 0, 1) := by decide +kernel
theorem dX1_isMinimalCover_4 : decode cX1_isMinimalCover 4 = .ok (.getfield 9, 3) := by decide +kernel
theorem dX1_isMinimalCover_7 : decode cX1_isMinimalCover 7 = .ok (.if_icmp .ge 53, 3) := by decide +kernel
theorem dX1_isMinimalCover_10 : decode cX1_isMinimalCover 10 = .ok (.iload_n 1, 1) := by decide +kernel
theorem dX1_isMinimalCover_11 : decode cX1_isMinimalCover 11 = .ok (.iload_n 2, 1) := by decide +kernel
theorem dX1_isMinimalCover_12 : decode cX1_isMinimalCover 12 = .ok (.ishr, 1) := by decide +kernel
theorem dX1_isMinimalCover_13 : decode cX1_isMinimalCover 13 = .ok (.iconst 1, 1) := by decide +kernel
theorem dX1_isMinimalCover_14 : decode cX1_isMinimalCover 14 = .ok (.iand, 1) := by decide +kernel
theorem dX1_isMinimalCover_15 : decode cX1_isMinimalCover 15 = .ok (.ifCond .eq 7, 3) := by decide +kernel
theorem dX1_isMinimalCover_18 : decode cX1_isMinimalCover 18 = .ok (.iconst 1, 1) := by decide +kernel
theorem dX1_isMinimalCover_19 : decode cX1_isMinimalCover 19 = .ok (.goto 4, 3) := by decide +kernel
theorem dX1_isMinimalCover_22 : decode cX1_isMinimalCover 22 = .ok (.iconst 0, 1) := by decide +kernel
theorem dX1_isMinimalCover_23 : decode cX1_isMinimalCover 23 = .ok (.istore_n 3, 1) := by decide +kernel
theorem dX1_isMinimalCover_24 : decode cX1_isMinimalCover 24 = .ok (.aload_n 0, 1) := by decide +kernel
theorem dX1_isMinimalCover_25 : decode cX1_isMinimalCover 25 = .ok (.getfield 15, 3) := by decide +kernel
theorem dX1_isMinimalCover_28 : decode cX1_isMinimalCover 28 = .ok (.iload_n 2, 1) := by decide +kernel
theorem dX1_isMinimalCover_29 : decode cX1_isMinimalCover 29 = .ok (.invokestatic 58, 3) := by decide +kernel
theorem dX1_isMinimalCover_32 : decode cX1_isMinimalCover 32 = .ok (.iload_n 1, 1) := by decide +kernel
theorem dX1_isMinimalCover_33 : decode cX1_isMinimalCover 33 = .ok (.iconst (-1), 1) := by decide +kernel
theorem dX1_isMinimalCover_34 : decode cX1_isMinimalCover 34 = .ok (.ixor, 1) := by decide +kernel
theorem dX1_isMinimalCover_35 : decode cX1_isMinimalCover 35 = .ok (.iand, 1) := by decide +kernel
theorem dX1_isMinimalCover_36 : decode cX1_isMinimalCover 36 = .ok (.ifCond .eq 7, 3) := by decide +kernel
theorem dX1_isMinimalCover_39 : decode cX1_isMinimalCover 39 = .ok (.iconst 1, 1) := by decide +kernel
theorem dX1_isMinimalCover_40 : decode cX1_isMinimalCover 40 = .ok (.goto 4, 3) := by decide +kernel
theorem dX1_isMinimalCover_43 : decode cX1_isMinimalCover 43 = .ok (.iconst 0, 1) := by decide +kernel
theorem dX1_isMinimalCover_44 : decode cX1_isMinimalCover 44 = .ok (.istore 4, 2) := by decide +kernel
theorem dX1_isMinimalCover_46 : decode cX1_isMinimalCover 46 = .ok (.iload_n 3, 1) := by decide +kernel
theorem dX1_isMinimalCover_47 : decode cX1_isMinimalCover 47 = .ok (.iload 4, 2) := by decide +kernel
theorem dX1_isMinimalCover_49 : decode cX1_isMinimalCover 49 = .ok (.if_icmp .eq 5, 3) := by decide +kernel
theorem dX1_isMinimalCover_52 : decode cX1_isMinimalCover 52 = .ok (.iconst 0, 1) := by decide +kernel
theorem dX1_isMinimalCover_53 : decode cX1_isMinimalCover 53 = .ok (.ireturn, 1) := by decide +kernel
theorem dX1_isMinimalCover_54 : decode cX1_isMinimalCover 54 = .ok (.iinc 2 1, 3) := by decide +kernel
theorem dX1_isMinimalCover_57 : decode cX1_isMinimalCover 57 = .ok (.goto (-55), 3) := by decide +kernel
theorem dX1_isMinimalCover_60 : decode cX1_isMinimalCover 60 = .ok (.iconst 1, 1) := by decide +kernel
theorem dX1_isMinimalCover_61 : decode cX1_isMinimalCover 61 = .ok (.ireturn, 1) := by decide +kernel
theorem dX1_elimination_0 : decode cX1_elimination 0 = .ok (.iload_n 1, 1) := by decide +kernel
theorem dX1_elimination_1 : decode cX1_elimination 1 = .ok (.iconst 1, 1) := by decide +kernel
theorem dX1_elimination_2 : decode cX1_elimination 2 = .ok (.if_icmp .ne 11, 3) := by decide +kernel
theorem dX1_elimination_5 : decode cX1_elimination 5 = .ok (.aload_n 0, 1) := by decide +kernel
theorem dX1_elimination_6 : decode cX1_elimination 6 = .ok (.iconst 5, 1) := by decide +kernel
theorem dX1_elimination_7 : decode cX1_elimination 7 = .ok (.invokevirtual 66, 3) := by decide +kernel
theorem dX1_elimination_10 : decode cX1_elimination 10 = .ok (.goto 7, 3) := by decide +kernel
theorem dX1_elimination_13 : decode cX1_elimination 13 = .ok (.aload_n 0, 1) := by decide +kernel
theorem dX1_elimination_14 : decode cX1_elimination 14 = .ok (.getfield 15, 3) := by decide +kernel
theorem dX1_elimination_17 : decode cX1_elimination 17 = .ok (.lstore_n 2, 1) := by decide +kernel
theorem dX1_elimination_18 : decode cX1_elimination 18 = .ok (.aload_n 0, 1) := by decide +kernel
theorem dX1_elimination_19 : decode cX1_elimination 19 = .ok (.invokevirtual 50, 3) := by decide +kernel
theorem dX1_elimination_22 : decode cX1_elimination 22 = .ok (.istore 4, 2) := by decide +kernel
theorem dX1_elimination_24 : decode cX1_elimination 24 = .ok (.aload_n 0, 1) := by decide +kernel
theorem dX1_elimination_25 : decode cX1_elimination 25 = .ok (.getfield 24, 3) := by decide +kernel
theorem dX1_elimination_28 : decode cX1_elimination 28 = .ok (.iconst 0, 1) := by decide +kernel
theorem dX1_elimination_29 : decode cX1_elimination 29 = .ok (.putfield 70, 3) := by decide +kernel
theorem dX1_elimination_32 : decode cX1_elimination 32 = .ok (.iconst 0, 1) := by decide +kernel
theorem dX1_elimination_33 : decode cX1_elimination 33 = .ok (.istore 5, 2) := by decide +kernel
theorem dX1_elimination_35 : decode cX1_elimination 35 = .ok (.iload 5, 2) := by decide +kernel
theorem dX1_elimination_37 : decode cX1_elimination 37 = .ok (.aload_n 0, 1) := by decide +kernel
theorem dX1_elimination_38 : decode cX1_elimination 38 = .ok (.getfield 9, 3) := by decide +kernel
theorem dX1_elimination_41 : decode cX1_elimination 41 = .ok (.if_icmp .ge 51, 3) := by decide +kernel
theorem dX1_elimination_44 : decode cX1_elimination 44 = .ok (.aload_n 0, 1) := by decide +kernel
theorem dX1_elimination_45 : decode cX1_elimination 45 = .ok (.lload_n 2, 1) := by decide +kernel
theorem dX1_elimination_46 : decode cX1_elimination 46 = .ok (.iload 4, 2) := by decide +kernel
theorem dX1_elimination_48 : decode cX1_elimination 48 = .ok (.invokevirtual 73, 3) := by decide +kernel
theorem dX1_elimination_51 : decode cX1_elimination 51 = .ok (.istore 6, 2) := by decide +kernel
theorem dX1_elimination_53 : decode cX1_elimination 53 = .ok (.iload 6, 2) := by decide +kernel
theorem dX1_elimination_55 : decode cX1_elimination 55 = .ok (.bipush (-2), 2) := by decide +kernel
theorem dX1_elimination_57 : decode cX1_elimination 57 = .ok (.if_icmp .ne 8, 3) := by decide +kernel
theorem dX1_elimination_60 : decode cX1_elimination 60 = .ok (.aload_n 0, 1) := by decide +kernel
theorem dX1_elimination_61 : decode cX1_elimination 61 = .ok (.getfield 24, 3) := by decide +kernel
theorem dX1_elimination_64 : decode cX1_elimination 64 = .ok (.areturn, 1) := by decide +kernel
theorem dX1_elimination_65 : decode cX1_elimination 65 = .ok (.aload_n 0, 1) := by decide +kernel
theorem dX1_elimination_66 : decode cX1_elimination 66 = .ok (.getfield 24, 3) := by decide +kernel
theorem dX1_elimination_69 : decode cX1_elimination 69 = .ok (.iload 6, 2) := by decide +kernel
theorem dX1_elimination_71 : decode cX1_elimination 71 = .ok (.invokevirtual 76, 3) := by decide +kernel
theorem dX1_elimination_74 : decode cX1_elimination 74 = .ok (.pop, 1) := by decide +kernel
theorem dX1_elimination_75 : decode cX1_elimination 75 = .ok (.iload 4, 2) := by decide +kernel
theorem dX1_elimination_77 : decode cX1_elimination 77 = .ok (.iconst 1, 1) := by decide +kernel
theorem dX1_elimination_78 : decode cX1_elimination 78 = .ok (.iload 6, 2) := by decide +kernel
theorem dX1_elimination_80 : decode cX1_elimination 80 = .ok (.ishl, 1) := by decide +kernel
theorem dX1_elimination_81 : decode cX1_elimination 81 = .ok (.iconst (-1), 1) := by decide +kernel
theorem dX1_elimination_82 : decode cX1_elimination 82 = .ok (.ixor, 1) := by decide +kernel
theorem dX1_elimination_83 : decode cX1_elimination 83 = .ok (.iand, 1) := by decide +kernel
theorem dX1_elimination_84 : decode cX1_elimination 84 = .ok (.istore 4, 2) := by decide +kernel
theorem dX1_elimination_86 : decode cX1_elimination 86 = .ok (.iinc 5 1, 3) := by decide +kernel
theorem dX1_elimination_89 : decode cX1_elimination 89 = .ok (.goto (-54), 3) := by decide +kernel
theorem dX1_elimination_92 : decode cX1_elimination 92 = .ok (.aload_n 0, 1) := by decide +kernel
theorem dX1_elimination_93 : decode cX1_elimination 93 = .ok (.getfield 24, 3) := by decide +kernel
theorem dX1_elimination_96 : decode cX1_elimination 96 = .ok (.areturn, 1) := by decide +kernel
theorem dX1_firstSimplicial_0 : decode cX1_firstSimplicial 0 = .ok (.iconst 0, 1) := by decide +kernel
theorem dX1_firstSimplicial_1 : decode cX1_firstSimplicial 1 = .ok (.istore 4, 2) := by decide +kernel
theorem dX1_firstSimplicial_3 : decode cX1_firstSimplicial 3 = .ok (.iload 4, 2) := by decide +kernel
theorem dX1_firstSimplicial_5 : decode cX1_firstSimplicial 5 = .ok (.aload_n 0, 1) := by decide +kernel
theorem dX1_firstSimplicial_6 : decode cX1_firstSimplicial 6 = .ok (.getfield 9, 3) := by decide +kernel
theorem dX1_firstSimplicial_9 : decode cX1_firstSimplicial 9 = .ok (.if_icmp .ge 37, 3) := by decide +kernel
theorem dX1_firstSimplicial_12 : decode cX1_firstSimplicial 12 = .ok (.iload_n 3, 1) := by decide +kernel
theorem dX1_firstSimplicial_13 : decode cX1_firstSimplicial 13 = .ok (.iload 4, 2) := by decide +kernel
theorem dX1_firstSimplicial_15 : decode cX1_firstSimplicial 15 = .ok (.ishr, 1) := by decide +kernel
theorem dX1_firstSimplicial_16 : decode cX1_firstSimplicial 16 = .ok (.iconst 1, 1) := by decide +kernel
theorem dX1_firstSimplicial_17 : decode cX1_firstSimplicial 17 = .ok (.iand, 1) := by decide +kernel
theorem dX1_firstSimplicial_18 : decode cX1_firstSimplicial 18 = .ok (.ifCond .eq 22, 3) := by decide +kernel
theorem dX1_firstSimplicial_21 : decode cX1_firstSimplicial 21 = .ok (.aload_n 0, 1) := by decide +kernel
theorem dX1_firstSimplicial_22 : decode cX1_firstSimplicial 22 = .ok (.lload_n 1, 1) := by decide +kernel
theorem dX1_firstSimplicial_23 : decode cX1_firstSimplicial 23 = .ok (.lload_n 1, 1) := by decide +kernel
theorem dX1_firstSimplicial_24 : decode cX1_firstSimplicial 24 = .ok (.iload 4, 2) := by decide +kernel
theorem dX1_firstSimplicial_26 : decode cX1_firstSimplicial 26 = .ok (.invokestatic 58, 3) := by decide +kernel
theorem dX1_firstSimplicial_29 : decode cX1_firstSimplicial 29 = .ok (.iload_n 3, 1) := by decide +kernel
theorem dX1_firstSimplicial_30 : decode cX1_firstSimplicial 30 = .ok (.iand, 1) := by decide +kernel
theorem dX1_firstSimplicial_31 : decode cX1_firstSimplicial 31 = .ok (.invokevirtual 79, 3) := by decide +kernel
theorem dX1_firstSimplicial_34 : decode cX1_firstSimplicial 34 = .ok (.ifCond .eq 6, 3) := by decide +kernel
theorem dX1_firstSimplicial_37 : decode cX1_firstSimplicial 37 = .ok (.iload 4, 2) := by decide +kernel
theorem dX1_firstSimplicial_39 : decode cX1_firstSimplicial 39 = .ok (.ireturn, 1) := by decide +kernel
theorem dX1_firstSimplicial_40 : decode cX1_firstSimplicial 40 = .ok (.iinc 4 1, 3) := by decide +kernel
theorem dX1_firstSimplicial_43 : decode cX1_firstSimplicial 43 = .ok (.goto (-40), 3) := by decide +kernel
theorem dX1_firstSimplicial_46 : decode cX1_firstSimplicial 46 = .ok (.bipush (-2), 2) := by decide +kernel
theorem dX1_firstSimplicial_48 : decode cX1_firstSimplicial 48 = .ok (.ireturn, 1) := by decide +kernel
theorem dX1_isClique_0 : decode cX1_isClique 0 = .ok (.iconst 0, 1) := by decide +kernel
theorem dX1_isClique_1 : decode cX1_isClique 1 = .ok (.istore 4, 2) := by decide +kernel
theorem dX1_isClique_3 : decode cX1_isClique 3 = .ok (.iload 4, 2) := by decide +kernel
theorem dX1_isClique_5 : decode cX1_isClique 5 = .ok (.aload_n 0, 1) := by decide +kernel
theorem dX1_isClique_6 : decode cX1_isClique 6 = .ok (.getfield 9, 3) := by decide +kernel
theorem dX1_isClique_9 : decode cX1_isClique 9 = .ok (.if_icmp .ge 37, 3) := by decide +kernel
theorem dX1_isClique_12 : decode cX1_isClique 12 = .ok (.iload_n 3, 1) := by decide +kernel
theorem dX1_isClique_13 : decode cX1_isClique 13 = .ok (.iload 4, 2) := by decide +kernel
theorem dX1_isClique_15 : decode cX1_isClique 15 = .ok (.ishr, 1) := by decide +kernel
theorem dX1_isClique_16 : decode cX1_isClique 16 = .ok (.iconst 1, 1) := by decide +kernel
theorem dX1_isClique_17 : decode cX1_isClique 17 = .ok (.iand, 1) := by decide +kernel
theorem dX1_isClique_18 : decode cX1_isClique 18 = .ok (.ifCond .eq 22, 3) := by decide +kernel
theorem dX1_isClique_21 : decode cX1_isClique 21 = .ok (.iload_n 3, 1) := by decide +kernel
theorem dX1_isClique_22 : decode cX1_isClique 22 = .ok (.lload_n 1, 1) := by decide +kernel
theorem dX1_isClique_23 : decode cX1_isClique 23 = .ok (.iload 4, 2) := by decide +kernel
theorem dX1_isClique_25 : decode cX1_isClique 25 = .ok (.invokestatic 58, 3) := by decide +kernel
theorem dX1_isClique_28 : decode cX1_isClique 28 = .ok (.iconst (-1), 1) := by decide +kernel
theorem dX1_isClique_29 : decode cX1_isClique 29 = .ok (.ixor, 1) := by decide +kernel
theorem dX1_isClique_30 : decode cX1_isClique 30 = .ok (.iand, 1) := by decide +kernel
theorem dX1_isClique_31 : decode cX1_isClique 31 = .ok (.iconst 1, 1) := by decide +kernel
theorem dX1_isClique_32 : decode cX1_isClique 32 = .ok (.iload 4, 2) := by decide +kernel
theorem dX1_isClique_34 : decode cX1_isClique 34 = .ok (.ishl, 1) := by decide +kernel
theorem dX1_isClique_35 : decode cX1_isClique 35 = .ok (.if_icmp .eq 5, 3) := by decide +kernel
theorem dX1_isClique_38 : decode cX1_isClique 38 = .ok (.iconst 0, 1) := by decide +kernel
theorem dX1_isClique_39 : decode cX1_isClique 39 = .ok (.ireturn, 1) := by decide +kernel
theorem dX1_isClique_40 : decode cX1_isClique 40 = .ok (.iinc 4 1, 3) := by decide +kernel
theorem dX1_isClique_43 : decode cX1_isClique 43 = .ok (.goto (-40), 3) := by decide +kernel
theorem dX1_isClique_46 : decode cX1_isClique 46 = .ok (.iconst 1, 1) := by decide +kernel
theorem dX1_isClique_47 : decode cX1_isClique 47 = .ok (.ireturn, 1) := by decide +kernel
theorem dX2_init_0 : decode cX2_init 0 = .ok (.aload_n 0, 1) := by decide +kernel
theorem dX2_init_1 : decode cX2_init 1 = .ok (.invokespecial 3, 3) := by decide +kernel
theorem dX2_init_4 : decode cX2_init 4 = .ok (.aload_n 0, 1) := by decide +kernel
theorem dX2_init_5 : decode cX2_init 5 = .ok (.aload_n 1, 1) := by decide +kernel
theorem dX2_init_6 : decode cX2_init 6 = .ok (.putfield 9, 3) := by decide +kernel
theorem dX2_init_9 : decode cX2_init 9 = .ok (.aload_n 0, 1) := by decide +kernel
theorem dX2_init_10 : decode cX2_init 10 = .ok (.sipush 16384, 3) := by decide +kernel
theorem dX2_init_13 : decode cX2_init 13 = .ok (.newarray .int, 2) := by decide +kernel
theorem dX2_init_15 : decode cX2_init 15 = .ok (.putfield 17, 3) := by decide +kernel
theorem dX2_init_18 : decode cX2_init 18 = .ok (.aload_n 0, 1) := by decide +kernel
theorem dX2_init_19 : decode cX2_init 19 = .ok (.new 21, 3) := by decide +kernel
theorem dX2_init_22 : decode cX2_init 22 = .ok (.dup, 1) := by decide +kernel
theorem dX2_init_23 : decode cX2_init 23 = .ok (.bipush 35, 2) := by decide +kernel
theorem dX2_init_25 : decode cX2_init 25 = .ok (.invokespecial 23, 3) := by decide +kernel
theorem dX2_init_28 : decode cX2_init 28 = .ok (.putfield 26, 3) := by decide +kernel
theorem dX2_init_31 : decode cX2_init 31 = .ok (.aload_n 0, 1) := by decide +kernel
theorem dX2_init_32 : decode cX2_init 32 = .ok (.new 21, 3) := by decide +kernel
theorem dX2_init_35 : decode cX2_init 35 = .ok (.dup, 1) := by decide +kernel
theorem dX2_init_36 : decode cX2_init 36 = .ok (.bipush 35, 2) := by decide +kernel
theorem dX2_init_38 : decode cX2_init 38 = .ok (.invokespecial 23, 3) := by decide +kernel
theorem dX2_init_41 : decode cX2_init 41 = .ok (.putfield 30, 3) := by decide +kernel
theorem dX2_init_44 : decode cX2_init 44 = .ok (.aload_n 0, 1) := by decide +kernel
theorem dX2_init_45 : decode cX2_init 45 = .ok (.iconst 3, 1) := by decide +kernel
theorem dX2_init_46 : decode cX2_init 46 = .ok (.anewarray 21, 3) := by decide +kernel
theorem dX2_init_49 : decode cX2_init 49 = .ok (.putfield 33, 3) := by decide +kernel
theorem dX2_init_52 : decode cX2_init 52 = .ok (.aload_n 0, 1) := by decide +kernel
theorem dX2_init_53 : decode cX2_init 53 = .ok (.iconst 3, 1) := by decide +kernel
theorem dX2_init_54 : decode cX2_init 54 = .ok (.newarray .boolean, 2) := by decide +kernel
theorem dX2_init_56 : decode cX2_init 56 = .ok (.putfield 37, 3) := by decide +kernel
theorem dX2_init_59 : decode cX2_init 59 = .ok (.aload_n 0, 1) := by decide +kernel
theorem dX2_init_60 : decode cX2_init 60 = .ok (.iconst 3, 1) := by decide +kernel
theorem dX2_init_61 : decode cX2_init 61 = .ok (.anewarray 21, 3) := by decide +kernel
theorem dX2_init_64 : decode cX2_init 64 = .ok (.putfield 41, 3) := by decide +kernel
theorem dX2_init_67 : decode cX2_init 67 = .ok (.aload_n 0, 1) := by decide +kernel
theorem dX2_init_68 : decode cX2_init 68 = .ok (.iconst 3, 1) := by decide +kernel
theorem dX2_init_69 : decode cX2_init 69 = .ok (.newarray .boolean, 2) := by decide +kernel
theorem dX2_init_71 : decode cX2_init 71 = .ok (.putfield 44, 3) := by decide +kernel
theorem dX2_init_74 : decode cX2_init 74 = .ok (.iconst 0, 1) := by decide +kernel
theorem dX2_init_75 : decode cX2_init 75 = .ok (.istore_n 2, 1) := by decide +kernel
theorem dX2_init_76 : decode cX2_init 76 = .ok (.iload_n 2, 1) := by decide +kernel
theorem dX2_init_77 : decode cX2_init 77 = .ok (.iconst 3, 1) := by decide +kernel
theorem dX2_init_78 : decode cX2_init 78 = .ok (.if_icmp .ge 41, 3) := by decide +kernel
theorem dX2_init_81 : decode cX2_init 81 = .ok (.aload_n 0, 1) := by decide +kernel
theorem dX2_init_82 : decode cX2_init 82 = .ok (.getfield 33, 3) := by decide +kernel
theorem dX2_init_85 : decode cX2_init 85 = .ok (.iload_n 2, 1) := by decide +kernel
theorem dX2_init_86 : decode cX2_init 86 = .ok (.new 21, 3) := by decide +kernel
theorem dX2_init_89 : decode cX2_init 89 = .ok (.dup, 1) := by decide +kernel
theorem dX2_init_90 : decode cX2_init 90 = .ok (.sipush 728, 3) := by decide +kernel
theorem dX2_init_93 : decode cX2_init 93 = .ok (.invokespecial 23, 3) := by decide +kernel
theorem dX2_init_96 : decode cX2_init 96 = .ok (.aastore, 1) := by decide +kernel
theorem dX2_init_97 : decode cX2_init 97 = .ok (.aload_n 0, 1) := by decide +kernel
theorem dX2_init_98 : decode cX2_init 98 = .ok (.getfield 41, 3) := by decide +kernel
theorem dX2_init_101 : decode cX2_init 101 = .ok (.iload_n 2, 1) := by decide +kernel
theorem dX2_init_102 : decode cX2_init 102 = .ok (.new 21, 3) := by decide +kernel
theorem dX2_init_105 : decode cX2_init 105 = .ok (.dup, 1) := by decide +kernel
theorem dX2_init_106 : decode cX2_init 106 = .ok (.sipush 2128, 3) := by decide +kernel
theorem dX2_init_109 : decode cX2_init 109 = .ok (.invokespecial 23, 3) := by decide +kernel
theorem dX2_init_112 : decode cX2_init 112 = .ok (.aastore, 1) := by decide +kernel
theorem dX2_init_113 : decode cX2_init 113 = .ok (.iinc 2 1, 3) := by decide +kernel
theorem dX2_init_116 : decode cX2_init 116 = .ok (.goto (-40), 3) := by decide +kernel
theorem dX2_init_119 : decode cX2_init 119 = .ok (.return_, 1) := by decide +kernel
theorem dX2_forget_0 : decode cX2_forget 0 = .ok (.aload_n 0, 1) := by decide +kernel
theorem dX2_forget_1 : decode cX2_forget 1 = .ok (.iconst 0, 1) := by decide +kernel
theorem dX2_forget_2 : decode cX2_forget 2 = .ok (.putfield 47, 3) := by decide +kernel
theorem dX2_forget_5 : decode cX2_forget 5 = .ok (.aload_n 0, 1) := by decide +kernel
theorem dX2_forget_6 : decode cX2_forget 6 = .ok (.iconst 0, 1) := by decide +kernel
theorem dX2_forget_7 : decode cX2_forget 7 = .ok (.putfield 51, 3) := by decide +kernel
theorem dX2_forget_10 : decode cX2_forget 10 = .ok (.iconst 0, 1) := by decide +kernel
theorem dX2_forget_11 : decode cX2_forget 11 = .ok (.istore_n 1, 1) := by decide +kernel
theorem dX2_forget_12 : decode cX2_forget 12 = .ok (.iload_n 1, 1) := by decide +kernel
theorem dX2_forget_13 : decode cX2_forget 13 = .ok (.iconst 3, 1) := by decide +kernel
theorem dX2_forget_14 : decode cX2_forget 14 = .ok (.if_icmp .ge 23, 3) := by decide +kernel
theorem dX2_forget_17 : decode cX2_forget 17 = .ok (.aload_n 0, 1) := by decide +kernel
theorem dX2_forget_18 : decode cX2_forget 18 = .ok (.getfield 37, 3) := by decide +kernel
theorem dX2_forget_21 : decode cX2_forget 21 = .ok (.iload_n 1, 1) := by decide +kernel
theorem dX2_forget_22 : decode cX2_forget 22 = .ok (.iconst 0, 1) := by decide +kernel
theorem dX2_forget_23 : decode cX2_forget 23 = .ok (.bastore, 1) := by decide +kernel
theorem dX2_forget_24 : decode cX2_forget 24 = .ok (.aload_n 0, 1) := by decide +kernel
theorem dX2_forget_25 : decode cX2_forget 25 = .ok (.getfield 44, 3) := by decide +kernel
theorem dX2_forget_28 : decode cX2_forget 28 = .ok (.iload_n 1, 1) := by decide +kernel
theorem dX2_forget_29 : decode cX2_forget 29 = .ok (.iconst 0, 1) := by decide +kernel
theorem dX2_forget_30 : decode cX2_forget 30 = .ok (.bastore, 1) := by decide +kernel
theorem dX2_forget_31 : decode cX2_forget 31 = .ok (.iinc 1 1, 3) := by decide +kernel
theorem dX2_forget_34 : decode cX2_forget 34 = .ok (.goto (-22), 3) := by decide +kernel
theorem dX2_forget_37 : decode cX2_forget 37 = .ok (.return_, 1) := by decide +kernel
theorem dX2_powerOrderOf_0 : decode cX2_powerOrderOf 0 = .ok (.aload_n 0, 1) := by decide +kernel
theorem dX2_powerOrderOf_1 : decode cX2_powerOrderOf 1 = .ok (.getfield 47, 3) := by decide +kernel
theorem dX2_powerOrderOf_4 : decode cX2_powerOrderOf 4 = .ok (.istore_n 2, 1) := by decide +kernel
theorem dX2_powerOrderOf_5 : decode cX2_powerOrderOf 5 = .ok (.iload_n 2, 1) := by decide +kernel
theorem dX2_powerOrderOf_6 : decode cX2_powerOrderOf 6 = .ok (.iload_n 1, 1) := by decide +kernel
theorem dX2_powerOrderOf_7 : decode cX2_powerOrderOf 7 = .ok (.if_icmp .gt 20, 3) := by decide +kernel
theorem dX2_powerOrderOf_10 : decode cX2_powerOrderOf 10 = .ok (.aload_n 0, 1) := by decide +kernel
theorem dX2_powerOrderOf_11 : decode cX2_powerOrderOf 11 = .ok (.getfield 17, 3) := by decide +kernel
theorem dX2_powerOrderOf_14 : decode cX2_powerOrderOf 14 = .ok (.iload_n 2, 1) := by decide +kernel
theorem dX2_powerOrderOf_15 : decode cX2_powerOrderOf 15 = .ok (.aload_n 0, 1) := by decide +kernel
theorem dX2_powerOrderOf_16 : decode cX2_powerOrderOf 16 = .ok (.iload_n 2, 1) := by decide +kernel
theorem dX2_powerOrderOf_17 : decode cX2_powerOrderOf 17 = .ok (.invokevirtual 55, 3) := by decide +kernel
theorem dX2_powerOrderOf_20 : decode cX2_powerOrderOf 20 = .ok (.iastore, 1) := by decide +kernel
theorem dX2_powerOrderOf_21 : decode cX2_powerOrderOf 21 = .ok (.iinc 2 1, 3) := by decide +kernel
theorem dX2_powerOrderOf_24 : decode cX2_powerOrderOf 24 = .ok (.goto (-19), 3) := by decide +kernel
theorem dX2_powerOrderOf_27 : decode cX2_powerOrderOf 27 = .ok (.aload_n 0, 1) := by decide +kernel
theorem dX2_powerOrderOf_28 : decode cX2_powerOrderOf 28 = .ok (.aload_n 0, 1) := by decide +kernel
theorem dX2_powerOrderOf_29 : decode cX2_powerOrderOf 29 = .ok (.getfield 47, 3) := by decide +kernel
theorem dX2_powerOrderOf_32 : decode cX2_powerOrderOf 32 = .ok (.iload_n 1, 1) := by decide +kernel
theorem dX2_powerOrderOf_33 : decode cX2_powerOrderOf 33 = .ok (.iconst 1, 1) := by decide +kernel
theorem dX2_powerOrderOf_34 : decode cX2_powerOrderOf 34 = .ok (.iadd, 1) := by decide +kernel
theorem dX2_powerOrderOf_35 : decode cX2_powerOrderOf 35 = .ok (.invokestatic 59, 3) := by decide +kernel
theorem dX2_powerOrderOf_38 : decode cX2_powerOrderOf 38 = .ok (.putfield 47, 3) := by decide +kernel
theorem dX2_powerOrderOf_41 : decode cX2_powerOrderOf 41 = .ok (.aload_n 0, 1) := by decide +kernel
theorem dX2_powerOrderOf_42 : decode cX2_powerOrderOf 42 = .ok (.getfield 17, 3) := by decide +kernel
theorem dX2_powerOrderOf_45 : decode cX2_powerOrderOf 45 = .ok (.iload_n 1, 1) := by decide +kernel
theorem dX2_powerOrderOf_46 : decode cX2_powerOrderOf 46 = .ok (.iaload, 1) := by decide +kernel
theorem dX2_powerOrderOf_47 : decode cX2_powerOrderOf 47 = .ok (.ireturn, 1) := by decide +kernel
theorem dX2_orderFromLowerCodes_0 : decode cX2_orderFromLowerCodes 0 = .ok (.iload_n 1, 1) := by decide +kernel
theorem dX2_orderFromLowerCodes_1 : decode cX2_orderFromLowerCodes 1 = .ok (.ifCond .ne 5, 3) := by decide +kernel
theorem dX2_orderFromLowerCodes_4 : decode cX2_orderFromLowerCodes 4 = .ok (.iconst 0, 1) := by decide +kernel
theorem dX2_orderFromLowerCodes_5 : decode cX2_orderFromLowerCodes 5 = .ok (.ireturn, 1) := by decide +kernel
theorem dX2_orderFromLowerCodes_6 : decode cX2_orderFromLowerCodes 6 = .ok (.iload_n 1, 1) := by decide +kernel
theorem dX2_orderFromLowerCodes_7 : decode cX2_orderFromLowerCodes 7 = .ok (.invokestatic 65, 3) := by decide +kernel
theorem dX2_orderFromLowerCodes_10 : decode cX2_orderFromLowerCodes 10 = .ok (.iconst 2, 1) := by decide +kernel
theorem dX2_orderFromLowerCodes_11 : decode cX2_orderFromLowerCodes 11 = .ok (.idiv, 1) := by decide +kernel
theorem dX2_orderFromLowerCodes_12 : decode cX2_orderFromLowerCodes 12 = .ok (.istore_n 2, 1) := by decide +kernel
theorem dX2_orderFromLowerCodes_13 : decode cX2_orderFromLowerCodes 13 = .ok (.iload_n 1, 1) := by decide +kernel
theorem dX2_orderFromLowerCodes_14 : decode cX2_orderFromLowerCodes 14 = .ok (.iload_n 2, 1) := by decide +kernel
theorem dX2_orderFromLowerCodes_15 : decode cX2_orderFromLowerCodes 15 = .ok (.invokestatic 70, 3) := by decide +kernel
theorem dX2_orderFromLowerCodes_18 : decode cX2_orderFromLowerCodes 18 = .ok (.isub, 1) := by decide +kernel
theorem dX2_orderFromLowerCodes_19 : decode cX2_orderFromLowerCodes 19 = .ok (.istore_n 3, 1) := by decide +kernel
theorem dX2_orderFromLowerCodes_20 : decode cX2_orderFromLowerCodes 20 = .ok (.aload_n 0, 1) := by decide +kernel
theorem dX2_orderFromLowerCodes_21 : decode cX2_orderFromLowerCodes 21 = .ok (.getfield 9, 3) := by decide +kernel
theorem dX2_orderFromLowerCodes_24 : decode cX2_orderFromLowerCodes 24 = .ok (.getfield 73, 3) := by decide +kernel
theorem dX2_orderFromLowerCodes_27 : decode cX2_orderFromLowerCodes 27 = .ok (.iload_n 2, 1) := by decide +kernel
theorem dX2_orderFromLowerCodes_28 : decode cX2_orderFromLowerCodes 28 = .ok (.invokestatic 79, 3) := by decide +kernel
theorem dX2_orderFromLowerCodes_31 : decode cX2_orderFromLowerCodes 31 = .ok (.istore 4, 2) := by decide +kernel
theorem dX2_orderFromLowerCodes_33 : decode cX2_orderFromLowerCodes 33 = .ok (.iload_n 2, 1) := by decide +kernel
theorem dX2_orderFromLowerCodes_34 : decode cX2_orderFromLowerCodes 34 = .ok (.iconst 1, 1) := by decide +kernel
theorem dX2_orderFromLowerCodes_35 : decode cX2_orderFromLowerCodes 35 = .ok (.iadd, 1) := by decide +kernel
theorem dX2_orderFromLowerCodes_36 : decode cX2_orderFromLowerCodes 36 = .ok (.istore 5, 2) := by decide +kernel
theorem dX2_orderFromLowerCodes_38 : decode cX2_orderFromLowerCodes 38 = .ok (.iload 5, 2) := by decide +kernel
theorem dX2_orderFromLowerCodes_40 : decode cX2_orderFromLowerCodes 40 = .ok (.aload_n 0, 1) := by decide +kernel
theorem dX2_orderFromLowerCodes_41 : decode cX2_orderFromLowerCodes 41 = .ok (.getfield 9, 3) := by decide +kernel
theorem dX2_orderFromLowerCodes_44 : decode cX2_orderFromLowerCodes 44 = .ok (.getfield 83, 3) := by decide +kernel
theorem dX2_orderFromLowerCodes_47 : decode cX2_orderFromLowerCodes 47 = .ok (.if_icmp .ge 58, 3) := by decide +kernel
theorem dX2_orderFromLowerCodes_50 : decode cX2_orderFromLowerCodes 50 = .ok (.iload 4, 2) := by decide +kernel
theorem dX2_orderFromLowerCodes_52 : decode cX2_orderFromLowerCodes 52 = .ok (.iload 5, 2) := by decide +kernel
theorem dX2_orderFromLowerCodes_54 : decode cX2_orderFromLowerCodes 54 = .ok (.ishr, 1) := by decide +kernel
theorem dX2_orderFromLowerCodes_55 : decode cX2_orderFromLowerCodes 55 = .ok (.iconst 1, 1) := by decide +kernel
theorem dX2_orderFromLowerCodes_56 : decode cX2_orderFromLowerCodes 56 = .ok (.iand, 1) := by decide +kernel
theorem dX2_orderFromLowerCodes_57 : decode cX2_orderFromLowerCodes 57 = .ok (.ifCond .eq 42, 3) := by decide +kernel
theorem dX2_orderFromLowerCodes_60 : decode cX2_orderFromLowerCodes 60 = .ok (.iload_n 3, 1) := by decide +kernel
theorem dX2_orderFromLowerCodes_61 : decode cX2_orderFromLowerCodes 61 = .ok (.iload 5, 2) := by decide +kernel
theorem dX2_orderFromLowerCodes_63 : decode cX2_orderFromLowerCodes 63 = .ok (.invokestatic 86, 3) := by decide +kernel
theorem dX2_orderFromLowerCodes_66 : decode cX2_orderFromLowerCodes 66 = .ok (.ifCond .le 33, 3) := by decide +kernel
theorem dX2_orderFromLowerCodes_69 : decode cX2_orderFromLowerCodes 69 = .ok (.aload_n 0, 1) := by decide +kernel
theorem dX2_orderFromLowerCodes_70 : decode cX2_orderFromLowerCodes 70 = .ok (.getfield 17, 3) := by decide +kernel
theorem dX2_orderFromLowerCodes_73 : decode cX2_orderFromLowerCodes 73 = .ok (.iload_n 3, 1) := by decide +kernel
theorem dX2_orderFromLowerCodes_74 : decode cX2_orderFromLowerCodes 74 = .ok (.iload 5, 2) := by decide +kernel
theorem dX2_orderFromLowerCodes_76 : decode cX2_orderFromLowerCodes 76 = .ok (.invokestatic 70, 3) := by decide +kernel
theorem dX2_orderFromLowerCodes_79 : decode cX2_orderFromLowerCodes 79 = .ok (.isub, 1) := by decide +kernel
theorem dX2_orderFromLowerCodes_80 : decode cX2_orderFromLowerCodes 80 = .ok (.iaload, 1) := by decide +kernel
theorem dX2_orderFromLowerCodes_81 : decode cX2_orderFromLowerCodes 81 = .ok (.aload_n 0, 1) := by decide +kernel
theorem dX2_orderFromLowerCodes_82 : decode cX2_orderFromLowerCodes 82 = .ok (.getfield 17, 3) := by decide +kernel
theorem dX2_orderFromLowerCodes_85 : decode cX2_orderFromLowerCodes 85 = .ok (.iload_n 3, 1) := by decide +kernel
theorem dX2_orderFromLowerCodes_86 : decode cX2_orderFromLowerCodes 86 = .ok (.iaload, 1) := by decide +kernel
theorem dX2_orderFromLowerCodes_87 : decode cX2_orderFromLowerCodes 87 = .ok (.if_icmp .ne 12, 3) := by decide +kernel
theorem dX2_orderFromLowerCodes_90 : decode cX2_orderFromLowerCodes 90 = .ok (.aload_n 0, 1) := by decide +kernel
theorem dX2_orderFromLowerCodes_91 : decode cX2_orderFromLowerCodes 91 = .ok (.getfield 17, 3) := by decide +kernel
theorem dX2_orderFromLowerCodes_94 : decode cX2_orderFromLowerCodes 94 = .ok (.iload_n 3, 1) := by decide +kernel
theorem dX2_orderFromLowerCodes_95 : decode cX2_orderFromLowerCodes 95 = .ok (.iaload, 1) := by decide +kernel
theorem dX2_orderFromLowerCodes_96 : decode cX2_orderFromLowerCodes 96 = .ok (.iconst 1, 1) := by decide +kernel
theorem dX2_orderFromLowerCodes_97 : decode cX2_orderFromLowerCodes 97 = .ok (.iadd, 1) := by decide +kernel
theorem dX2_orderFromLowerCodes_98 : decode cX2_orderFromLowerCodes 98 = .ok (.ireturn, 1) := by decide +kernel
theorem dX2_orderFromLowerCodes_99 : decode cX2_orderFromLowerCodes 99 = .ok (.iinc 5 1, 3) := by decide +kernel
theorem dX2_orderFromLowerCodes_102 : decode cX2_orderFromLowerCodes 102 = .ok (.goto (-64), 3) := by decide +kernel
theorem dX2_orderFromLowerCodes_105 : decode cX2_orderFromLowerCodes 105 = .ok (.aload_n 0, 1) := by decide +kernel
theorem dX2_orderFromLowerCodes_106 : decode cX2_orderFromLowerCodes 106 = .ok (.getfield 17, 3) := by decide +kernel
theorem dX2_orderFromLowerCodes_109 : decode cX2_orderFromLowerCodes 109 = .ok (.iload_n 3, 1) := by decide +kernel
theorem dX2_orderFromLowerCodes_110 : decode cX2_orderFromLowerCodes 110 = .ok (.iaload, 1) := by decide +kernel
theorem dX2_orderFromLowerCodes_111 : decode cX2_orderFromLowerCodes 111 = .ok (.ireturn, 1) := by decide +kernel
theorem dX2_minimalCovers_0 : decode cX2_minimalCovers 0 = .ok (.aload_n 0, 1) := by decide +kernel
theorem dX2_minimalCovers_1 : decode cX2_minimalCovers 1 = .ok (.getfield 51, 3) := by decide +kernel
theorem dX2_minimalCovers_4 : decode cX2_minimalCovers 4 = .ok (.ifCond .ne 75, 3) := by decide +kernel
theorem dX2_minimalCovers_7 : decode cX2_minimalCovers 7 = .ok (.aload_n 0, 1) := by decide +kernel
theorem dX2_minimalCovers_8 : decode cX2_minimalCovers 8 = .ok (.getfield 26, 3) := by decide +kernel
theorem dX2_minimalCovers_11 : decode cX2_minimalCovers 11 = .ok (.iconst 0, 1) := by decide +kernel
theorem dX2_minimalCovers_12 : decode cX2_minimalCovers 12 = .ok (.putfield 89, 3) := by decide +kernel
theorem dX2_minimalCovers_15 : decode cX2_minimalCovers 15 = .ok (.aload_n 0, 1) := by decide +kernel
theorem dX2_minimalCovers_16 : decode cX2_minimalCovers 16 = .ok (.getfield 30, 3) := by decide +kernel
theorem dX2_minimalCovers_19 : decode cX2_minimalCovers 19 = .ok (.iconst 0, 1) := by decide +kernel
theorem dX2_minimalCovers_20 : decode cX2_minimalCovers 20 = .ok (.putfield 89, 3) := by decide +kernel
theorem dX2_minimalCovers_23 : decode cX2_minimalCovers 23 = .ok (.iconst 0, 1) := by decide +kernel
theorem dX2_minimalCovers_24 : decode cX2_minimalCovers 24 = .ok (.istore_n 1, 1) := by decide +kernel
theorem dX2_minimalCovers_25 : decode cX2_minimalCovers 25 = .ok (.iload_n 1, 1) := by decide +kernel
theorem dX2_minimalCovers_26 : decode cX2_minimalCovers 26 = .ok (.aload_n 0, 1) := by decide +kernel
theorem dX2_minimalCovers_27 : decode cX2_minimalCovers 27 = .ok (.getfield 9, 3) := by decide +kernel
theorem dX2_minimalCovers_30 : decode cX2_minimalCovers 30 = .ok (.invokevirtual 92, 3) := by decide +kernel
theorem dX2_minimalCovers_33 : decode cX2_minimalCovers 33 = .ok (.if_icmp .gt 41, 3) := by decide +kernel
theorem dX2_minimalCovers_36 : decode cX2_minimalCovers 36 = .ok (.aload_n 0, 1) := by decide +kernel
theorem dX2_minimalCovers_37 : decode cX2_minimalCovers 37 = .ok (.getfield 9, 3) := by decide +kernel
theorem dX2_minimalCovers_40 : decode cX2_minimalCovers 40 = .ok (.iload_n 1, 1) := by decide +kernel
theorem dX2_minimalCovers_41 : decode cX2_minimalCovers 41 = .ok (.invokevirtual 96, 3) := by decide +kernel
theorem dX2_minimalCovers_44 : decode cX2_minimalCovers 44 = .ok (.ifCond .eq 24, 3) := by decide +kernel
theorem dX2_minimalCovers_47 : decode cX2_minimalCovers 47 = .ok (.aload_n 0, 1) := by decide +kernel
theorem dX2_minimalCovers_48 : decode cX2_minimalCovers 48 = .ok (.getfield 26, 3) := by decide +kernel
theorem dX2_minimalCovers_51 : decode cX2_minimalCovers 51 = .ok (.iload_n 1, 1) := by decide +kernel
theorem dX2_minimalCovers_52 : decode cX2_minimalCovers 52 = .ok (.invokevirtual 100, 3) := by decide +kernel
theorem dX2_minimalCovers_55 : decode cX2_minimalCovers 55 = .ok (.pop, 1) := by decide +kernel
theorem dX2_minimalCovers_56 : decode cX2_minimalCovers 56 = .ok (.aload_n 0, 1) := by decide +kernel
theorem dX2_minimalCovers_57 : decode cX2_minimalCovers 57 = .ok (.getfield 30, 3) := by decide +kernel
theorem dX2_minimalCovers_60 : decode cX2_minimalCovers 60 = .ok (.iload_n 1, 1) := by decide +kernel
theorem dX2_minimalCovers_61 : decode cX2_minimalCovers 61 = .ok (.invokestatic 103, 3) := by decide +kernel
theorem dX2_minimalCovers_64 : decode cX2_minimalCovers 64 = .ok (.invokevirtual 100, 3) := by decide +kernel
theorem dX2_minimalCovers_67 : decode cX2_minimalCovers 67 = .ok (.pop, 1) := by decide +kernel
theorem dX2_minimalCovers_68 : decode cX2_minimalCovers 68 = .ok (.iinc 1 1, 3) := by decide +kernel
theorem dX2_minimalCovers_71 : decode cX2_minimalCovers 71 = .ok (.goto (-46), 3) := by decide +kernel
theorem dX2_minimalCovers_74 : decode cX2_minimalCovers 74 = .ok (.aload_n 0, 1) := by decide +kernel
theorem dX2_minimalCovers_75 : decode cX2_minimalCovers 75 = .ok (.iconst 1, 1) := by decide +kernel
theorem dX2_minimalCovers_76 : decode cX2_minimalCovers 76 = .ok (.putfield 51, 3) := by decide +kernel
theorem dX2_minimalCovers_79 : decode cX2_minimalCovers 79 = .ok (.aload_n 0, 1) := by decide +kernel
theorem dX2_minimalCovers_80 : decode cX2_minimalCovers 80 = .ok (.getfield 26, 3) := by decide +kernel
theorem dX2_minimalCovers_83 : decode cX2_minimalCovers 83 = .ok (.areturn, 1) := by decide +kernel
theorem dX2_smallestCoverSize_0 : decode cX2_smallestCoverSize 0 = .ok (.bipush 7, 2) := by decide +kernel
theorem dX2_smallestCoverSize_2 : decode cX2_smallestCoverSize 2 = .ok (.istore_n 1, 1) := by decide +kernel
theorem dX2_smallestCoverSize_3 : decode cX2_smallestCoverSize 3 = .ok (.aload_n 0, 1) := by decide +kernel
theorem dX2_smallestCoverSize_4 : decode cX2_smallestCoverSize 4 = .ok (.invokevirtual 106, 3) := by decide +kernel
theorem dX2_smallestCoverSize_7 : decode cX2_smallestCoverSize 7 = .ok (.astore_n 2, 1) := by decide +kernel
theorem dX2_smallestCoverSize_8 : decode cX2_smallestCoverSize 8 = .ok (.iconst 0, 1) := by decide +kernel
theorem dX2_smallestCoverSize_9 : decode cX2_smallestCoverSize 9 = .ok (.istore_n 3, 1) := by decide +kernel
theorem dX2_smallestCoverSize_10 : decode cX2_smallestCoverSize 10 = .ok (.iload_n 3, 1) := by decide +kernel
theorem dX2_smallestCoverSize_11 : decode cX2_smallestCoverSize 11 = .ok (.aload_n 2, 1) := by decide +kernel
theorem dX2_smallestCoverSize_12 : decode cX2_smallestCoverSize 12 = .ok (.getfield 89, 3) := by decide +kernel
theorem dX2_smallestCoverSize_15 : decode cX2_smallestCoverSize 15 = .ok (.if_icmp .ge 23, 3) := by decide +kernel
theorem dX2_smallestCoverSize_18 : decode cX2_smallestCoverSize 18 = .ok (.iload_n 1, 1) := by decide +kernel
theorem dX2_smallestCoverSize_19 : decode cX2_smallestCoverSize 19 = .ok (.aload_n 2, 1) := by decide +kernel
theorem dX2_smallestCoverSize_20 : decode cX2_smallestCoverSize 20 = .ok (.getfield 110, 3) := by decide +kernel
theorem dX2_smallestCoverSize_23 : decode cX2_smallestCoverSize 23 = .ok (.iload_n 3, 1) := by decide +kernel
theorem dX2_smallestCoverSize_24 : decode cX2_smallestCoverSize 24 = .ok (.iaload, 1) := by decide +kernel
theorem dX2_smallestCoverSize_25 : decode cX2_smallestCoverSize 25 = .ok (.invokestatic 113, 3) := by decide +kernel
theorem dX2_smallestCoverSize_28 : decode cX2_smallestCoverSize 28 = .ok (.invokestatic 116, 3) := by decide +kernel
theorem dX2_smallestCoverSize_31 : decode cX2_smallestCoverSize 31 = .ok (.istore_n 1, 1) := by decide +kernel
theorem dX2_smallestCoverSize_32 : decode cX2_smallestCoverSize 32 = .ok (.iinc 3 1, 3) := by decide +kernel
theorem dX2_smallestCoverSize_35 : decode cX2_smallestCoverSize 35 = .ok (.goto (-25), 3) := by decide +kernel
theorem dX2_smallestCoverSize_38 : decode cX2_smallestCoverSize 38 = .ok (.iload_n 1, 1) := by decide +kernel
theorem dX2_smallestCoverSize_39 : decode cX2_smallestCoverSize 39 = .ok (.ireturn, 1) := by decide +kernel
theorem dX2_largestCoverSize_0 : decode cX2_largestCoverSize 0 = .ok (.iconst 0, 1) := by decide +kernel
theorem dX2_largestCoverSize_1 : decode cX2_largestCoverSize 1 = .ok (.istore_n 1, 1) := by decide +kernel
theorem dX2_largestCoverSize_2 : decode cX2_largestCoverSize 2 = .ok (.aload_n 0, 1) := by decide +kernel
theorem dX2_largestCoverSize_3 : decode cX2_largestCoverSize 3 = .ok (.invokevirtual 106, 3) := by decide +kernel
theorem dX2_largestCoverSize_6 : decode cX2_largestCoverSize 6 = .ok (.astore_n 2, 1) := by decide +kernel
theorem dX2_largestCoverSize_7 : decode cX2_largestCoverSize 7 = .ok (.iconst 0, 1) := by decide +kernel
theorem dX2_largestCoverSize_8 : decode cX2_largestCoverSize 8 = .ok (.istore_n 3, 1) := by decide +kernel
theorem dX2_largestCoverSize_9 : decode cX2_largestCoverSize 9 = .ok (.iload_n 3, 1) := by decide +kernel
theorem dX2_largestCoverSize_10 : decode cX2_largestCoverSize 10 = .ok (.aload_n 2, 1) := by decide +kernel
theorem dX2_largestCoverSize_11 : decode cX2_largestCoverSize 11 = .ok (.getfield 89, 3) := by decide +kernel
theorem dX2_largestCoverSize_14 : decode cX2_largestCoverSize 14 = .ok (.if_icmp .ge 23, 3) := by decide +kernel
theorem dX2_largestCoverSize_17 : decode cX2_largestCoverSize 17 = .ok (.iload_n 1, 1) := by decide +kernel
theorem dX2_largestCoverSize_18 : decode cX2_largestCoverSize 18 = .ok (.aload_n 2, 1) := by decide +kernel
theorem dX2_largestCoverSize_19 : decode cX2_largestCoverSize 19 = .ok (.getfield 110, 3) := by decide +kernel
theorem dX2_largestCoverSize_22 : decode cX2_largestCoverSize 22 = .ok (.iload_n 3, 1) := by decide +kernel
theorem dX2_largestCoverSize_23 : decode cX2_largestCoverSize 23 = .ok (.iaload, 1) := by decide +kernel
theorem dX2_largestCoverSize_24 : decode cX2_largestCoverSize 24 = .ok (.invokestatic 113, 3) := by decide +kernel
theorem dX2_largestCoverSize_27 : decode cX2_largestCoverSize 27 = .ok (.invokestatic 59, 3) := by decide +kernel
theorem dX2_largestCoverSize_30 : decode cX2_largestCoverSize 30 = .ok (.istore_n 1, 1) := by decide +kernel
theorem dX2_largestCoverSize_31 : decode cX2_largestCoverSize 31 = .ok (.iinc 3 1, 3) := by decide +kernel
theorem dX2_largestCoverSize_34 : decode cX2_largestCoverSize 34 = .ok (.goto (-25), 3) := by decide +kernel
theorem dX2_largestCoverSize_37 : decode cX2_largestCoverSize 37 = .ok (.iload_n 1, 1) := by decide +kernel
theorem dX2_largestCoverSize_38 : decode cX2_largestCoverSize 38 = .ok (.ireturn, 1) := by decide +kernel
theorem dX2_symbolicOrderOf_0 : decode cX2_symbolicOrderOf 0 = .ok (.bipush 21, 2) := by decide +kernel
theorem dX2_symbolicOrderOf_2 : decode cX2_symbolicOrderOf 2 = .ok (.istore_n 2, 1) := by decide +kernel
theorem dX2_symbolicOrderOf_3 : decode cX2_symbolicOrderOf 3 = .ok (.aload_n 0, 1) := by decide +kernel
theorem dX2_symbolicOrderOf_4 : decode cX2_symbolicOrderOf 4 = .ok (.invokevirtual 106, 3) := by decide +kernel
theorem dX2_symbolicOrderOf_7 : decode cX2_symbolicOrderOf 7 = .ok (.getfield 89, 3) := by decide +kernel
theorem dX2_symbolicOrderOf_10 : decode cX2_symbolicOrderOf 10 = .ok (.istore_n 3, 1) := by decide +kernel
theorem dX2_symbolicOrderOf_11 : decode cX2_symbolicOrderOf 11 = .ok (.iconst 0, 1) := by decide +kernel
theorem dX2_symbolicOrderOf_12 : decode cX2_symbolicOrderOf 12 = .ok (.istore 4, 2) := by decide +kernel
theorem dX2_symbolicOrderOf_14 : decode cX2_symbolicOrderOf 14 = .ok (.iload 4, 2) := by decide +kernel
theorem dX2_symbolicOrderOf_16 : decode cX2_symbolicOrderOf 16 = .ok (.iload_n 3, 1) := by decide +kernel
theorem dX2_symbolicOrderOf_17 : decode cX2_symbolicOrderOf 17 = .ok (.if_icmp .ge 29, 3) := by decide +kernel
theorem dX2_symbolicOrderOf_20 : decode cX2_symbolicOrderOf 20 = .ok (.iload_n 2, 1) := by decide +kernel
theorem dX2_symbolicOrderOf_21 : decode cX2_symbolicOrderOf 21 = .ok (.iload_n 1, 1) := by decide +kernel
theorem dX2_symbolicOrderOf_22 : decode cX2_symbolicOrderOf 22 = .ok (.aload_n 0, 1) := by decide +kernel
theorem dX2_symbolicOrderOf_23 : decode cX2_symbolicOrderOf 23 = .ok (.getfield 30, 3) := by decide +kernel
theorem dX2_symbolicOrderOf_26 : decode cX2_symbolicOrderOf 26 = .ok (.getfield 110, 3) := by decide +kernel
theorem dX2_symbolicOrderOf_29 : decode cX2_symbolicOrderOf 29 = .ok (.iload 4, 2) := by decide +kernel
theorem dX2_symbolicOrderOf_31 : decode cX2_symbolicOrderOf 31 = .ok (.iaload, 1) := by decide +kernel
theorem dX2_symbolicOrderOf_32 : decode cX2_symbolicOrderOf 32 = .ok (.iand, 1) := by decide +kernel
theorem dX2_symbolicOrderOf_33 : decode cX2_symbolicOrderOf 33 = .ok (.invokestatic 119, 3) := by decide +kernel
theorem dX2_symbolicOrderOf_36 : decode cX2_symbolicOrderOf 36 = .ok (.invokestatic 116, 3) := by decide +kernel
theorem dX2_symbolicOrderOf_39 : decode cX2_symbolicOrderOf 39 = .ok (.istore_n 2, 1) := by decide +kernel
theorem dX2_symbolicOrderOf_40 : decode cX2_symbolicOrderOf 40 = .ok (.iinc 4 1, 3) := by decide +kernel
theorem dX2_symbolicOrderOf_43 : decode cX2_symbolicOrderOf 43 = .ok (.goto (-29), 3) := by decide +kernel
theorem dX2_symbolicOrderOf_46 : decode cX2_symbolicOrderOf 46 = .ok (.iload_n 2, 1) := by decide +kernel
theorem dX2_symbolicOrderOf_47 : decode cX2_symbolicOrderOf 47 = .ok (.ireturn, 1) := by decide +kernel
theorem dX2_generators_0 : decode cX2_generators 0 = .ok (.aload_n 0, 1) := by decide +kernel
theorem dX2_generators_1 : decode cX2_generators 1 = .ok (.getfield 33, 3) := by decide +kernel
theorem dX2_generators_4 : decode cX2_generators 4 = .ok (.iload_n 1, 1) := by decide +kernel
theorem dX2_generators_5 : decode cX2_generators 5 = .ok (.iconst 1, 1) := by decide +kernel
theorem dX2_generators_6 : decode cX2_generators 6 = .ok (.isub, 1) := by decide +kernel
theorem dX2_generators_7 : decode cX2_generators 7 = .ok (.aaload, 1) := by decide +kernel
theorem dX2_generators_8 : decode cX2_generators 8 = .ok (.astore_n 2, 1) := by decide +kernel
theorem dX2_generators_9 : decode cX2_generators 9 = .ok (.aload_n 0, 1) := by decide +kernel
theorem dX2_generators_10 : decode cX2_generators 10 = .ok (.getfield 37, 3) := by decide +kernel
theorem dX2_generators_13 : decode cX2_generators 13 = .ok (.iload_n 1, 1) := by decide +kernel
theorem dX2_generators_14 : decode cX2_generators 14 = .ok (.iconst 1, 1) := by decide +kernel
theorem dX2_generators_15 : decode cX2_generators 15 = .ok (.isub, 1) := by decide +kernel
theorem dX2_generators_16 : decode cX2_generators 16 = .ok (.baload, 1) := by decide +kernel
theorem dX2_generators_17 : decode cX2_generators 17 = .ok (.ifCond .ne 60, 3) := by decide +kernel
theorem dX2_generators_20 : decode cX2_generators 20 = .ok (.aload_n 2, 1) := by decide +kernel
theorem dX2_generators_21 : decode cX2_generators 21 = .ok (.iconst 0, 1) := by decide +kernel
theorem dX2_generators_22 : decode cX2_generators 22 = .ok (.putfield 89, 3) := by decide +kernel
theorem dX2_generators_25 : decode cX2_generators 25 = .ok (.aload_n 0, 1) := by decide +kernel
theorem dX2_generators_26 : decode cX2_generators 26 = .ok (.getfield 9, 3) := by decide +kernel
theorem dX2_generators_29 : decode cX2_generators 29 = .ok (.invokevirtual 122, 3) := by decide +kernel
theorem dX2_generators_32 : decode cX2_generators 32 = .ok (.istore_n 3, 1) := by decide +kernel
theorem dX2_generators_33 : decode cX2_generators 33 = .ok (.iload_n 3, 1) := by decide +kernel
theorem dX2_generators_34 : decode cX2_generators 34 = .ok (.ifCond .lt 34, 3) := by decide +kernel
theorem dX2_generators_37 : decode cX2_generators 37 = .ok (.iload_n 3, 1) := by decide +kernel
theorem dX2_generators_38 : decode cX2_generators 38 = .ok (.invokestatic 119, 3) := by decide +kernel
theorem dX2_generators_41 : decode cX2_generators 41 = .ok (.iconst 2, 1) := by decide +kernel
theorem dX2_generators_42 : decode cX2_generators 42 = .ok (.iload_n 1, 1) := by decide +kernel
theorem dX2_generators_43 : decode cX2_generators 43 = .ok (.imul, 1) := by decide +kernel
theorem dX2_generators_44 : decode cX2_generators 44 = .ok (.if_icmp .ne 18, 3) := by decide +kernel
theorem dX2_generators_47 : decode cX2_generators 47 = .ok (.aload_n 0, 1) := by decide +kernel
theorem dX2_generators_48 : decode cX2_generators 48 = .ok (.iload_n 3, 1) := by decide +kernel
theorem dX2_generators_49 : decode cX2_generators 49 = .ok (.invokevirtual 125, 3) := by decide +kernel
theorem dX2_generators_52 : decode cX2_generators 52 = .ok (.iload_n 1, 1) := by decide +kernel
theorem dX2_generators_53 : decode cX2_generators 53 = .ok (.if_icmp .lt 9, 3) := by decide +kernel
theorem dX2_generators_56 : decode cX2_generators 56 = .ok (.aload_n 2, 1) := by decide +kernel
theorem dX2_generators_57 : decode cX2_generators 57 = .ok (.iload_n 3, 1) := by decide +kernel
theorem dX2_generators_58 : decode cX2_generators 58 = .ok (.invokevirtual 100, 3) := by decide +kernel
theorem dX2_generators_61 : decode cX2_generators 61 = .ok (.pop, 1) := by decide +kernel
theorem dX2_generators_62 : decode cX2_generators 62 = .ok (.iinc 3 (-1), 3) := by decide +kernel
theorem dX2_generators_65 : decode cX2_generators 65 = .ok (.goto (-32), 3) := by decide +kernel
theorem dX2_generators_68 : decode cX2_generators 68 = .ok (.aload_n 0, 1) := by decide +kernel
theorem dX2_generators_69 : decode cX2_generators 69 = .ok (.getfield 37, 3) := by decide +kernel
theorem dX2_generators_72 : decode cX2_generators 72 = .ok (.iload_n 1, 1) := by decide +kernel
theorem dX2_generators_73 : decode cX2_generators 73 = .ok (.iconst 1, 1) := by decide +kernel
theorem dX2_generators_74 : decode cX2_generators 74 = .ok (.isub, 1) := by decide +kernel
theorem dX2_generators_75 : decode cX2_generators 75 = .ok (.iconst 1, 1) := by decide +kernel
theorem dX2_generators_76 : decode cX2_generators 76 = .ok (.bastore, 1) := by decide +kernel
theorem dX2_generators_77 : decode cX2_generators 77 = .ok (.aload_n 2, 1) := by decide +kernel
theorem dX2_generators_78 : decode cX2_generators 78 = .ok (.areturn, 1) := by decide +kernel
theorem dX2_isListedGenerator_0 : decode cX2_isListedGenerator 0 = .ok (.iload_n 1, 1) := by decide +kernel
theorem dX2_isListedGenerator_1 : decode cX2_isListedGenerator 1 = .ok (.ifCond .lt 25, 3) := by decide +kernel
theorem dX2_isListedGenerator_4 : decode cX2_isListedGenerator 4 = .ok (.iload_n 1, 1) := by decide +kernel
theorem dX2_isListedGenerator_5 : decode cX2_isListedGenerator 5 = .ok (.aload_n 0, 1) := by decide +kernel
theorem dX2_isListedGenerator_6 : decode cX2_isListedGenerator 6 = .ok (.getfield 47, 3) := by decide +kernel
theorem dX2_isListedGenerator_9 : decode cX2_isListedGenerator 9 = .ok (.if_icmp .ge 17, 3) := by decide +kernel
theorem dX2_isListedGenerator_12 : decode cX2_isListedGenerator 12 = .ok (.aload_n 0, 1) := by decide +kernel
theorem dX2_isListedGenerator_13 : decode cX2_isListedGenerator 13 = .ok (.getfield 17, 3) := by decide +kernel
theorem dX2_isListedGenerator_16 : decode cX2_isListedGenerator 16 = .ok (.iload_n 1, 1) := by decide +kernel
theorem dX2_isListedGenerator_17 : decode cX2_isListedGenerator 17 = .ok (.iaload, 1) := by decide +kernel
theorem dX2_isListedGenerator_18 : decode cX2_isListedGenerator 18 = .ok (.iload_n 2, 1) := by decide +kernel
theorem dX2_isListedGenerator_19 : decode cX2_isListedGenerator 19 = .ok (.if_icmp .lt 7, 3) := by decide +kernel
theorem dX2_isListedGenerator_22 : decode cX2_isListedGenerator 22 = .ok (.iconst 1, 1) := by decide +kernel
theorem dX2_isListedGenerator_23 : decode cX2_isListedGenerator 23 = .ok (.goto 4, 3) := by decide +kernel
theorem dX2_isListedGenerator_26 : decode cX2_isListedGenerator 26 = .ok (.iconst 0, 1) := by decide +kernel
theorem dX2_isListedGenerator_27 : decode cX2_isListedGenerator 27 = .ok (.ireturn, 1) := by decide +kernel
theorem dX2_symbolicGenerators_0 : decode cX2_symbolicGenerators 0 = .ok (.aload_n 0, 1) := by decide +kernel
theorem dX2_symbolicGenerators_1 : decode cX2_symbolicGenerators 1 = .ok (.getfield 41, 3) := by decide +kernel
theorem dX2_symbolicGenerators_4 : decode cX2_symbolicGenerators 4 = .ok (.iload_n 1, 1) := by decide +kernel
theorem dX2_symbolicGenerators_5 : decode cX2_symbolicGenerators 5 = .ok (.iconst 1, 1) := by decide +kernel
theorem dX2_symbolicGenerators_6 : decode cX2_symbolicGenerators 6 = .ok (.isub, 1) := by decide +kernel
theorem dX2_symbolicGenerators_7 : decode cX2_symbolicGenerators 7 = .ok (.aaload, 1) := by decide +kernel
theorem dX2_symbolicGenerators_8 : decode cX2_symbolicGenerators 8 = .ok (.astore_n 2, 1) := by decide +kernel
theorem dX2_symbolicGenerators_9 : decode cX2_symbolicGenerators 9 = .ok (.aload_n 0, 1) := by decide +kernel
theorem dX2_symbolicGenerators_10 : decode cX2_symbolicGenerators 10 = .ok (.getfield 44, 3) := by decide +kernel
theorem dX2_symbolicGenerators_13 : decode cX2_symbolicGenerators 13 = .ok (.iload_n 1, 1) := by decide +kernel
theorem dX2_symbolicGenerators_14 : decode cX2_symbolicGenerators 14 = .ok (.iconst 1, 1) := by decide +kernel
theorem dX2_symbolicGenerators_15 : decode cX2_symbolicGenerators 15 = .ok (.isub, 1) := by decide +kernel
theorem dX2_symbolicGenerators_16 : decode cX2_symbolicGenerators 16 = .ok (.baload, 1) := by decide +kernel
theorem dX2_symbolicGenerators_17 : decode cX2_symbolicGenerators 17 = .ok (.ifCond .ne 55, 3) := by decide +kernel
theorem dX2_symbolicGenerators_20 : decode cX2_symbolicGenerators 20 = .ok (.aload_n 2, 1) := by decide +kernel
theorem dX2_symbolicGenerators_21 : decode cX2_symbolicGenerators 21 = .ok (.iconst 0, 1) := by decide +kernel
theorem dX2_symbolicGenerators_22 : decode cX2_symbolicGenerators 22 = .ok (.putfield 89, 3) := by decide +kernel
theorem dX2_symbolicGenerators_25 : decode cX2_symbolicGenerators 25 = .ok (.aload_n 0, 1) := by decide +kernel
theorem dX2_symbolicGenerators_26 : decode cX2_symbolicGenerators 26 = .ok (.invokevirtual 106, 3) := by decide +kernel
theorem dX2_symbolicGenerators_29 : decode cX2_symbolicGenerators 29 = .ok (.pop, 1) := by decide +kernel
theorem dX2_symbolicGenerators_30 : decode cX2_symbolicGenerators 30 = .ok (.aload_n 0, 1) := by decide +kernel
theorem dX2_symbolicGenerators_31 : decode cX2_symbolicGenerators 31 = .ok (.getfield 9, 3) := by decide +kernel
theorem dX2_symbolicGenerators_34 : decode cX2_symbolicGenerators 34 = .ok (.invokevirtual 122, 3) := by decide +kernel
theorem dX2_symbolicGenerators_37 : decode cX2_symbolicGenerators 37 = .ok (.istore_n 3, 1) := by decide +kernel
theorem dX2_symbolicGenerators_38 : decode cX2_symbolicGenerators 38 = .ok (.iload_n 3, 1) := by decide +kernel
theorem dX2_symbolicGenerators_39 : decode cX2_symbolicGenerators 39 = .ok (.ifCond .lt 24, 3) := by decide +kernel
theorem dX2_symbolicGenerators_42 : decode cX2_symbolicGenerators 42 = .ok (.aload_n 0, 1) := by decide +kernel
theorem dX2_symbolicGenerators_43 : decode cX2_symbolicGenerators 43 = .ok (.iload_n 3, 1) := by decide +kernel
theorem dX2_symbolicGenerators_44 : decode cX2_symbolicGenerators 44 = .ok (.iload_n 1, 1) := by decide +kernel
theorem dX2_symbolicGenerators_45 : decode cX2_symbolicGenerators 45 = .ok (.invokevirtual 128, 3) := by decide +kernel
theorem dX2_symbolicGenerators_48 : decode cX2_symbolicGenerators 48 = .ok (.ifCond .eq 9, 3) := by decide +kernel
theorem dX2_symbolicGenerators_51 : decode cX2_symbolicGenerators 51 = .ok (.aload_n 2, 1) := by decide +kernel
theorem dX2_symbolicGenerators_52 : decode cX2_symbolicGenerators 52 = .ok (.iload_n 3, 1) := by decide +kernel
theorem dX2_symbolicGenerators_53 : decode cX2_symbolicGenerators 53 = .ok (.invokevirtual 100, 3) := by decide +kernel
theorem dX2_symbolicGenerators_56 : decode cX2_symbolicGenerators 56 = .ok (.pop, 1) := by decide +kernel
theorem dX2_symbolicGenerators_57 : decode cX2_symbolicGenerators 57 = .ok (.iinc 3 (-1), 3) := by decide +kernel
theorem dX2_symbolicGenerators_60 : decode cX2_symbolicGenerators 60 = .ok (.goto (-22), 3) := by decide +kernel
theorem dX2_symbolicGenerators_63 : decode cX2_symbolicGenerators 63 = .ok (.aload_n 0, 1) := by decide +kernel
theorem dX2_symbolicGenerators_64 : decode cX2_symbolicGenerators 64 = .ok (.getfield 44, 3) := by decide +kernel
theorem dX2_symbolicGenerators_67 : decode cX2_symbolicGenerators 67 = .ok (.iload_n 1, 1) := by decide +kernel
theorem dX2_symbolicGenerators_68 : decode cX2_symbolicGenerators 68 = .ok (.iconst 1, 1) := by decide +kernel
theorem dX2_symbolicGenerators_69 : decode cX2_symbolicGenerators 69 = .ok (.isub, 1) := by decide +kernel
theorem dX2_symbolicGenerators_70 : decode cX2_symbolicGenerators 70 = .ok (.iconst 1, 1) := by decide +kernel
theorem dX2_symbolicGenerators_71 : decode cX2_symbolicGenerators 71 = .ok (.bastore, 1) := by decide +kernel
theorem dX2_symbolicGenerators_72 : decode cX2_symbolicGenerators 72 = .ok (.aload_n 2, 1) := by decide +kernel
theorem dX2_symbolicGenerators_73 : decode cX2_symbolicGenerators 73 = .ok (.areturn, 1) := by decide +kernel
theorem dX2_isSymbolicGenerator_0 : decode cX2_isSymbolicGenerator 0 = .ok (.iconst 0, 1) := by decide +kernel
theorem dX2_isSymbolicGenerator_1 : decode cX2_isSymbolicGenerator 1 = .ok (.istore_n 3, 1) := by decide +kernel
theorem dX2_isSymbolicGenerator_2 : decode cX2_isSymbolicGenerator 2 = .ok (.iconst 0, 1) := by decide +kernel
theorem dX2_isSymbolicGenerator_3 : decode cX2_isSymbolicGenerator 3 = .ok (.istore 4, 2) := by decide +kernel
theorem dX2_isSymbolicGenerator_5 : decode cX2_isSymbolicGenerator 5 = .ok (.iload 4, 2) := by decide +kernel
theorem dX2_isSymbolicGenerator_7 : decode cX2_isSymbolicGenerator 7 = .ok (.aload_n 0, 1) := by decide +kernel
theorem dX2_isSymbolicGenerator_8 : decode cX2_isSymbolicGenerator 8 = .ok (.getfield 30, 3) := by decide +kernel
theorem dX2_isSymbolicGenerator_11 : decode cX2_isSymbolicGenerator 11 = .ok (.getfield 89, 3) := by decide +kernel
theorem dX2_isSymbolicGenerator_14 : decode cX2_isSymbolicGenerator 14 = .ok (.if_icmp .ge 53, 3) := by decide +kernel
theorem dX2_isSymbolicGenerator_17 : decode cX2_isSymbolicGenerator 17 = .ok (.iload_n 1, 1) := by decide +kernel
theorem dX2_isSymbolicGenerator_18 : decode cX2_isSymbolicGenerator 18 = .ok (.aload_n 0, 1) := by decide +kernel
theorem dX2_isSymbolicGenerator_19 : decode cX2_isSymbolicGenerator 19 = .ok (.getfield 30, 3) := by decide +kernel
theorem dX2_isSymbolicGenerator_22 : decode cX2_isSymbolicGenerator 22 = .ok (.getfield 110, 3) := by decide +kernel
theorem dX2_isSymbolicGenerator_25 : decode cX2_isSymbolicGenerator 25 = .ok (.iload 4, 2) := by decide +kernel
theorem dX2_isSymbolicGenerator_27 : decode cX2_isSymbolicGenerator 27 = .ok (.iaload, 1) := by decide +kernel
theorem dX2_isSymbolicGenerator_28 : decode cX2_isSymbolicGenerator 28 = .ok (.iand, 1) := by decide +kernel
theorem dX2_isSymbolicGenerator_29 : decode cX2_isSymbolicGenerator 29 = .ok (.invokestatic 119, 3) := by decide +kernel
theorem dX2_isSymbolicGenerator_32 : decode cX2_isSymbolicGenerator 32 = .ok (.istore 5, 2) := by decide +kernel
theorem dX2_isSymbolicGenerator_34 : decode cX2_isSymbolicGenerator 34 = .ok (.iload 5, 2) := by decide +kernel
theorem dX2_isSymbolicGenerator_36 : decode cX2_isSymbolicGenerator 36 = .ok (.iload_n 2, 1) := by decide +kernel
theorem dX2_isSymbolicGenerator_37 : decode cX2_isSymbolicGenerator 37 = .ok (.if_icmp .ge 5, 3) := by decide +kernel
theorem dX2_isSymbolicGenerator_40 : decode cX2_isSymbolicGenerator 40 = .ok (.iconst 0, 1) := by decide +kernel
theorem dX2_isSymbolicGenerator_41 : decode cX2_isSymbolicGenerator 41 = .ok (.ireturn, 1) := by decide +kernel
theorem dX2_isSymbolicGenerator_42 : decode cX2_isSymbolicGenerator 42 = .ok (.iload 5, 2) := by decide +kernel
theorem dX2_isSymbolicGenerator_44 : decode cX2_isSymbolicGenerator 44 = .ok (.iload_n 2, 1) := by decide +kernel
theorem dX2_isSymbolicGenerator_45 : decode cX2_isSymbolicGenerator 45 = .ok (.if_icmp .ne 16, 3) := by decide +kernel
theorem dX2_isSymbolicGenerator_48 : decode cX2_isSymbolicGenerator 48 = .ok (.iload_n 3, 1) := by decide +kernel
theorem dX2_isSymbolicGenerator_49 : decode cX2_isSymbolicGenerator 49 = .ok (.aload_n 0, 1) := by decide +kernel
theorem dX2_isSymbolicGenerator_50 : decode cX2_isSymbolicGenerator 50 = .ok (.getfield 30, 3) := by decide +kernel
theorem dX2_isSymbolicGenerator_53 : decode cX2_isSymbolicGenerator 53 = .ok (.getfield 110, 3) := by decide +kernel
theorem dX2_isSymbolicGenerator_56 : decode cX2_isSymbolicGenerator 56 = .ok (.iload 4, 2) := by decide +kernel
theorem dX2_isSymbolicGenerator_58 : decode cX2_isSymbolicGenerator 58 = .ok (.iaload, 1) := by decide +kernel
theorem dX2_isSymbolicGenerator_59 : decode cX2_isSymbolicGenerator 59 = .ok (.ior, 1) := by decide +kernel
theorem dX2_isSymbolicGenerator_60 : decode cX2_isSymbolicGenerator 60 = .ok (.istore_n 3, 1) := by decide +kernel
theorem dX2_isSymbolicGenerator_61 : decode cX2_isSymbolicGenerator 61 = .ok (.iinc 4 1, 3) := by decide +kernel
theorem dX2_isSymbolicGenerator_64 : decode cX2_isSymbolicGenerator 64 = .ok (.goto (-59), 3) := by decide +kernel
theorem dX2_isSymbolicGenerator_67 : decode cX2_isSymbolicGenerator 67 = .ok (.iload_n 1, 1) := by decide +kernel
theorem dX2_isSymbolicGenerator_68 : decode cX2_isSymbolicGenerator 68 = .ok (.iload_n 3, 1) := by decide +kernel
theorem dX2_isSymbolicGenerator_69 : decode cX2_isSymbolicGenerator 69 = .ok (.iconst (-1), 1) := by decide +kernel
theorem dX2_isSymbolicGenerator_70 : decode cX2_isSymbolicGenerator 70 = .ok (.ixor, 1) := by decide +kernel
theorem dX2_isSymbolicGenerator_71 : decode cX2_isSymbolicGenerator 71 = .ok (.iand, 1) := by decide +kernel
theorem dX2_isSymbolicGenerator_72 : decode cX2_isSymbolicGenerator 72 = .ok (.ifCond .ne 7, 3) := by decide +kernel
theorem dX2_isSymbolicGenerator_75 : decode cX2_isSymbolicGenerator 75 = .ok (.iconst 1, 1) := by decide +kernel
theorem dX2_isSymbolicGenerator_76 : decode cX2_isSymbolicGenerator 76 = .ok (.goto 4, 3) := by decide +kernel
theorem dX2_isSymbolicGenerator_79 : decode cX2_isSymbolicGenerator 79 = .ok (.iconst 0, 1) := by decide +kernel
theorem dX2_isSymbolicGenerator_80 : decode cX2_isSymbolicGenerator 80 = .ok (.ireturn, 1) := by decide +kernel
theorem dX2_lowestOnlySymbolic_0 : decode cX2_lowestOnlySymbolic 0 = .ok (.aload_n 0, 1) := by decide +kernel
theorem dX2_lowestOnlySymbolic_1 : decode cX2_lowestOnlySymbolic 1 = .ok (.iload_n 1, 1) := by decide +kernel
theorem dX2_lowestOnlySymbolic_2 : decode cX2_lowestOnlySymbolic 2 = .ok (.invokevirtual 132, 3) := by decide +kernel
theorem dX2_lowestOnlySymbolic_5 : decode cX2_lowestOnlySymbolic 5 = .ok (.astore_n 2, 1) := by decide +kernel
theorem dX2_lowestOnlySymbolic_6 : decode cX2_lowestOnlySymbolic 6 = .ok (.aload_n 2, 1) := by decide +kernel
theorem dX2_lowestOnlySymbolic_7 : decode cX2_lowestOnlySymbolic 7 = .ok (.getfield 89, 3) := by decide +kernel
theorem dX2_lowestOnlySymbolic_10 : decode cX2_lowestOnlySymbolic 10 = .ok (.iconst 1, 1) := by decide +kernel
theorem dX2_lowestOnlySymbolic_11 : decode cX2_lowestOnlySymbolic 11 = .ok (.isub, 1) := by decide +kernel
theorem dX2_lowestOnlySymbolic_12 : decode cX2_lowestOnlySymbolic 12 = .ok (.istore_n 3, 1) := by decide +kernel
theorem dX2_lowestOnlySymbolic_13 : decode cX2_lowestOnlySymbolic 13 = .ok (.iload_n 3, 1) := by decide +kernel
theorem dX2_lowestOnlySymbolic_14 : decode cX2_lowestOnlySymbolic 14 = .ok (.ifCond .lt 30, 3) := by decide +kernel
theorem dX2_lowestOnlySymbolic_17 : decode cX2_lowestOnlySymbolic 17 = .ok (.aload_n 0, 1) := by decide +kernel
theorem dX2_lowestOnlySymbolic_18 : decode cX2_lowestOnlySymbolic 18 = .ok (.aload_n 2, 1) := by decide +kernel
theorem dX2_lowestOnlySymbolic_19 : decode cX2_lowestOnlySymbolic 19 = .ok (.getfield 110, 3) := by decide +kernel
theorem dX2_lowestOnlySymbolic_22 : decode cX2_lowestOnlySymbolic 22 = .ok (.iload_n 3, 1) := by decide +kernel
theorem dX2_lowestOnlySymbolic_23 : decode cX2_lowestOnlySymbolic 23 = .ok (.iaload, 1) := by decide +kernel
theorem dX2_lowestOnlySymbolic_24 : decode cX2_lowestOnlySymbolic 24 = .ok (.invokevirtual 125, 3) := by decide +kernel
theorem dX2_lowestOnlySymbolic_27 : decode cX2_lowestOnlySymbolic 27 = .ok (.iload_n 1, 1) := by decide +kernel
theorem dX2_lowestOnlySymbolic_28 : decode cX2_lowestOnlySymbolic 28 = .ok (.if_icmp .ge 10, 3) := by decide +kernel
theorem dX2_lowestOnlySymbolic_31 : decode cX2_lowestOnlySymbolic 31 = .ok (.aload_n 2, 1) := by decide +kernel
theorem dX2_lowestOnlySymbolic_32 : decode cX2_lowestOnlySymbolic 32 = .ok (.getfield 110, 3) := by decide +kernel
theorem dX2_lowestOnlySymbolic_35 : decode cX2_lowestOnlySymbolic 35 = .ok (.iload_n 3, 1) := by decide +kernel
theorem dX2_lowestOnlySymbolic_36 : decode cX2_lowestOnlySymbolic 36 = .ok (.iaload, 1) := by decide +kernel
theorem dX2_lowestOnlySymbolic_37 : decode cX2_lowestOnlySymbolic 37 = .ok (.ireturn, 1) := by decide +kernel
theorem dX2_lowestOnlySymbolic_38 : decode cX2_lowestOnlySymbolic 38 = .ok (.iinc 3 (-1), 3) := by decide +kernel
theorem dX2_lowestOnlySymbolic_41 : decode cX2_lowestOnlySymbolic 41 = .ok (.goto (-28), 3) := by decide +kernel
theorem dX2_lowestOnlySymbolic_44 : decode cX2_lowestOnlySymbolic 44 = .ok (.bipush (-2), 2) := by decide +kernel
theorem dX2_lowestOnlySymbolic_46 : decode cX2_lowestOnlySymbolic 46 = .ok (.ireturn, 1) := by decide +kernel
theorem dX3_init_0 : decode cX3_init 0 = .ok (.aload_n 0, 1) := by decide +kernel
theorem dX3_init_1 : decode cX3_init 1 = .ok (.invokespecial 3, 3) := by decide +kernel
theorem dX3_init_4 : decode cX3_init 4 = .ok (.aload_n 0, 1) := by decide +kernel
theorem dX3_init_5 : decode cX3_init 5 = .ok (.new 9, 3) := by decide +kernel
theorem dX3_init_8 : decode cX3_init 8 = .ok (.dup, 1) := by decide +kernel
theorem dX3_init_9 : decode cX3_init 9 = .ok (.bipush 60, 2) := by decide +kernel
theorem dX3_init_11 : decode cX3_init 11 = .ok (.invokespecial 11, 3) := by decide +kernel
theorem dX3_init_14 : decode cX3_init 14 = .ok (.putfield 14, 3) := by decide +kernel
theorem dX3_init_17 : decode cX3_init 17 = .ok (.aload_n 0, 1) := by decide +kernel
theorem dX3_init_18 : decode cX3_init 18 = .ok (.new 9, 3) := by decide +kernel
theorem dX3_init_21 : decode cX3_init 21 = .ok (.dup, 1) := by decide +kernel
theorem dX3_init_22 : decode cX3_init 22 = .ok (.bipush 24, 2) := by decide +kernel
theorem dX3_init_24 : decode cX3_init 24 = .ok (.invokespecial 11, 3) := by decide +kernel
theorem dX3_init_27 : decode cX3_init 27 = .ok (.putfield 20, 3) := by decide +kernel
theorem dX3_init_30 : decode cX3_init 30 = .ok (.aload_n 0, 1) := by decide +kernel
theorem dX3_init_31 : decode cX3_init 31 = .ok (.iconst 0, 1) := by decide +kernel
theorem dX3_init_32 : decode cX3_init 32 = .ok (.putfield 23, 3) := by decide +kernel
theorem dX3_init_35 : decode cX3_init 35 = .ok (.return_, 1) := by decide +kernel
theorem dX3_read_0 : decode cX3_read 0 = .ok (.aload_n 0, 1) := by decide +kernel
theorem dX3_read_1 : decode cX3_read 1 = .ok (.getfield 20, 3) := by decide +kernel
theorem dX3_read_4 : decode cX3_read 4 = .ok (.iconst 0, 1) := by decide +kernel
theorem dX3_read_5 : decode cX3_read 5 = .ok (.putfield 27, 3) := by decide +kernel
theorem dX3_read_8 : decode cX3_read 8 = .ok (.aload_n 0, 1) := by decide +kernel
theorem dX3_read_9 : decode cX3_read 9 = .ok (.iconst 0, 1) := by decide +kernel
theorem dX3_read_10 : decode cX3_read 10 = .ok (.putfield 23, 3) := by decide +kernel
theorem dX3_read_13 : decode cX3_read 13 = .ok (.iconst 0, 1) := by decide +kernel
theorem dX3_read_14 : decode cX3_read 14 = .ok (.istore_n 1, 1) := by decide +kernel
theorem dX3_read_15 : decode cX3_read 15 = .ok (.iload_n 1, 1) := by decide +kernel
theorem dX3_read_16 : decode cX3_read 16 = .ok (.aload_n 0, 1) := by decide +kernel
theorem dX3_read_17 : decode cX3_read 17 = .ok (.getfield 14, 3) := by decide +kernel
theorem dX3_read_20 : decode cX3_read 20 = .ok (.getfield 27, 3) := by decide +kernel
theorem dX3_read_23 : decode cX3_read 23 = .ok (.if_icmp .ge 27, 3) := by decide +kernel
theorem dX3_read_26 : decode cX3_read 26 = .ok (.aload_n 0, 1) := by decide +kernel
theorem dX3_read_27 : decode cX3_read 27 = .ok (.aload_n 0, 1) := by decide +kernel
theorem dX3_read_28 : decode cX3_read 28 = .ok (.getfield 14, 3) := by decide +kernel
theorem dX3_read_31 : decode cX3_read 31 = .ok (.getfield 30, 3) := by decide +kernel
theorem dX3_read_34 : decode cX3_read 34 = .ok (.iload_n 1, 1) := by decide +kernel
theorem dX3_read_35 : decode cX3_read 35 = .ok (.iaload, 1) := by decide +kernel
theorem dX3_read_36 : decode cX3_read 36 = .ok (.invokevirtual 34, 3) := by decide +kernel
theorem dX3_read_39 : decode cX3_read 39 = .ok (.ifCond .ne 5, 3) := by decide +kernel
theorem dX3_read_42 : decode cX3_read 42 = .ok (.iload_n 1, 1) := by decide +kernel
theorem dX3_read_43 : decode cX3_read 43 = .ok (.ireturn, 1) := by decide +kernel
theorem dX3_read_44 : decode cX3_read 44 = .ok (.iinc 1 1, 3) := by decide +kernel
theorem dX3_read_47 : decode cX3_read 47 = .ok (.goto (-32), 3) := by decide +kernel
theorem dX3_read_50 : decode cX3_read 50 = .ok (.aload_n 0, 1) := by decide +kernel
theorem dX3_read_51 : decode cX3_read 51 = .ok (.getfield 23, 3) := by decide +kernel
theorem dX3_read_54 : decode cX3_read 54 = .ok (.ifCond .ne 11, 3) := by decide +kernel
theorem dX3_read_57 : decode cX3_read 57 = .ok (.aload_n 0, 1) := by decide +kernel
theorem dX3_read_58 : decode cX3_read 58 = .ok (.getfield 14, 3) := by decide +kernel
theorem dX3_read_61 : decode cX3_read 61 = .ok (.getfield 27, 3) := by decide +kernel
theorem dX3_read_64 : decode cX3_read 64 = .ok (.ireturn, 1) := by decide +kernel
theorem dX3_read_65 : decode cX3_read 65 = .ok (.aload_n 0, 1) := by decide +kernel
theorem dX3_read_66 : decode cX3_read 66 = .ok (.getfield 20, 3) := by decide +kernel
theorem dX3_read_69 : decode cX3_read 69 = .ok (.aload_n 0, 1) := by decide +kernel
theorem dX3_read_70 : decode cX3_read 70 = .ok (.getfield 38, 3) := by decide +kernel
theorem dX3_read_73 : decode cX3_read 73 = .ok (.invokevirtual 41, 3) := by decide +kernel
theorem dX3_read_76 : decode cX3_read 76 = .ok (.pop, 1) := by decide +kernel
theorem dX3_read_77 : decode cX3_read 77 = .ok (.bipush (-2), 2) := by decide +kernel
theorem dX3_read_79 : decode cX3_read 79 = .ok (.ireturn, 1) := by decide +kernel
theorem dX3_take_0 : decode cX3_take 0 = .ok (.iload_n 1, 1) := by decide +kernel
theorem dX3_take_1 : decode cX3_take 1 = .ok (.bipush 44, 2) := by decide +kernel
theorem dX3_take_3 : decode cX3_take 3 = .ok (.if_icmp .ne 8, 3) := by decide +kernel
theorem dX3_take_6 : decode cX3_take 6 = .ok (.aload_n 0, 1) := by decide +kernel
theorem dX3_take_7 : decode cX3_take 7 = .ok (.invokevirtual 44, 3) := by decide +kernel
theorem dX3_take_10 : decode cX3_take 10 = .ok (.ireturn, 1) := by decide +kernel
theorem dX3_take_11 : decode cX3_take 11 = .ok (.iload_n 1, 1) := by decide +kernel
theorem dX3_take_12 : decode cX3_take 12 = .ok (.bipush 49, 2) := by decide +kernel
theorem dX3_take_14 : decode cX3_take 14 = .ok (.if_icmp .ne 8, 3) := by decide +kernel
theorem dX3_take_17 : decode cX3_take 17 = .ok (.aload_n 0, 1) := by decide +kernel
theorem dX3_take_18 : decode cX3_take 18 = .ok (.invokevirtual 48, 3) := by decide +kernel
theorem dX3_take_21 : decode cX3_take 21 = .ok (.ireturn, 1) := by decide +kernel
theorem dX3_take_22 : decode cX3_take 22 = .ok (.iload_n 1, 1) := by decide +kernel
theorem dX3_take_23 : decode cX3_take 23 = .ok (.bipush 50, 2) := by decide +kernel
theorem dX3_take_25 : decode cX3_take 25 = .ok (.if_icmp .eq 9, 3) := by decide +kernel
theorem dX3_take_28 : decode cX3_take 28 = .ok (.iload_n 1, 1) := by decide +kernel
theorem dX3_take_29 : decode cX3_take 29 = .ok (.bipush 51, 2) := by decide +kernel
theorem dX3_take_31 : decode cX3_take 31 = .ok (.if_icmp .ne 12, 3) := by decide +kernel
theorem dX3_take_34 : decode cX3_take 34 = .ok (.aload_n 0, 1) := by decide +kernel
theorem dX3_take_35 : decode cX3_take 35 = .ok (.iload_n 1, 1) := by decide +kernel
theorem dX3_take_36 : decode cX3_take 36 = .ok (.bipush 48, 2) := by decide +kernel
theorem dX3_take_38 : decode cX3_take 38 = .ok (.isub, 1) := by decide +kernel
theorem dX3_take_39 : decode cX3_take 39 = .ok (.invokevirtual 51, 3) := by decide +kernel
theorem dX3_take_42 : decode cX3_take 42 = .ok (.ireturn, 1) := by decide +kernel
theorem dX3_take_43 : decode cX3_take 43 = .ok (.iload_n 1, 1) := by decide +kernel
theorem dX3_take_44 : decode cX3_take 44 = .ok (.bipush 97, 2) := by decide +kernel
theorem dX3_take_46 : decode cX3_take 46 = .ok (.if_icmp .lt 24, 3) := by decide +kernel
theorem dX3_take_49 : decode cX3_take 49 = .ok (.iload_n 1, 1) := by decide +kernel
theorem dX3_take_50 : decode cX3_take 50 = .ok (.bipush 103, 2) := by decide +kernel
theorem dX3_take_52 : decode cX3_take 52 = .ok (.if_icmp .gt 18, 3) := by decide +kernel
theorem dX3_take_55 : decode cX3_take 55 = .ok (.aload_n 0, 1) := by decide +kernel
theorem dX3_take_56 : decode cX3_take 56 = .ok (.iload_n 1, 1) := by decide +kernel
theorem dX3_take_57 : decode cX3_take 57 = .ok (.bipush 97, 2) := by decide +kernel
theorem dX3_take_59 : decode cX3_take 59 = .ok (.isub, 1) := by decide +kernel
theorem dX3_take_60 : decode cX3_take 60 = .ok (.invokevirtual 54, 3) := by decide +kernel
theorem dX3_take_63 : decode cX3_take 63 = .ok (.ifCond .eq 7, 3) := by decide +kernel
theorem dX3_take_66 : decode cX3_take 66 = .ok (.iconst 1, 1) := by decide +kernel
theorem dX3_take_67 : decode cX3_take 67 = .ok (.goto 4, 3) := by decide +kernel
theorem dX3_take_70 : decode cX3_take 70 = .ok (.iconst 0, 1) := by decide +kernel
theorem dX3_take_71 : decode cX3_take 71 = .ok (.ireturn, 1) := by decide +kernel
theorem dX3_takeComma_0 : decode cX3_takeComma 0 = .ok (.aload_n 0, 1) := by decide +kernel
theorem dX3_takeComma_1 : decode cX3_takeComma 1 = .ok (.getfield 23, 3) := by decide +kernel
theorem dX3_takeComma_4 : decode cX3_takeComma 4 = .ok (.ifCond .eq 15, 3) := by decide +kernel
theorem dX3_takeComma_7 : decode cX3_takeComma 7 = .ok (.aload_n 0, 1) := by decide +kernel
theorem dX3_takeComma_8 : decode cX3_takeComma 8 = .ok (.getfield 20, 3) := by decide +kernel
theorem dX3_takeComma_11 : decode cX3_takeComma 11 = .ok (.getfield 27, 3) := by decide +kernel
theorem dX3_takeComma_14 : decode cX3_takeComma 14 = .ok (.bipush 23, 2) := by decide +kernel
theorem dX3_takeComma_16 : decode cX3_takeComma 16 = .ok (.if_icmp .ne 5, 3) := by decide +kernel
theorem dX3_takeComma_19 : decode cX3_takeComma 19 = .ok (.iconst 0, 1) := by decide +kernel
theorem dX3_takeComma_20 : decode cX3_takeComma 20 = .ok (.ireturn, 1) := by decide +kernel
theorem dX3_takeComma_21 : decode cX3_takeComma 21 = .ok (.aload_n 0, 1) := by decide +kernel
theorem dX3_takeComma_22 : decode cX3_takeComma 22 = .ok (.getfield 20, 3) := by decide +kernel
theorem dX3_takeComma_25 : decode cX3_takeComma 25 = .ok (.aload_n 0, 1) := by decide +kernel
theorem dX3_takeComma_26 : decode cX3_takeComma 26 = .ok (.getfield 38, 3) := by decide +kernel
theorem dX3_takeComma_29 : decode cX3_takeComma 29 = .ok (.invokevirtual 41, 3) := by decide +kernel
theorem dX3_takeComma_32 : decode cX3_takeComma 32 = .ok (.pop, 1) := by decide +kernel
theorem dX3_takeComma_33 : decode cX3_takeComma 33 = .ok (.aload_n 0, 1) := by decide +kernel
theorem dX3_takeComma_34 : decode cX3_takeComma 34 = .ok (.iconst 0, 1) := by decide +kernel
theorem dX3_takeComma_35 : decode cX3_takeComma 35 = .ok (.putfield 23, 3) := by decide +kernel
theorem dX3_takeComma_38 : decode cX3_takeComma 38 = .ok (.iconst 1, 1) := by decide +kernel
theorem dX3_takeComma_39 : decode cX3_takeComma 39 = .ok (.ireturn, 1) := by decide +kernel
theorem dX3_takeOne_0 : decode cX3_takeOne 0 = .ok (.aload_n 0, 1) := by decide +kernel
theorem dX3_takeOne_1 : decode cX3_takeOne 1 = .ok (.getfield 23, 3) := by decide +kernel
theorem dX3_takeOne_4 : decode cX3_takeOne 4 = .ok (.ifCond .eq 5, 3) := by decide +kernel
theorem dX3_takeOne_7 : decode cX3_takeOne 7 = .ok (.iconst 0, 1) := by decide +kernel
theorem dX3_takeOne_8 : decode cX3_takeOne 8 = .ok (.ireturn, 1) := by decide +kernel
theorem dX3_takeOne_9 : decode cX3_takeOne 9 = .ok (.aload_n 0, 1) := by decide +kernel
theorem dX3_takeOne_10 : decode cX3_takeOne 10 = .ok (.iconst 0, 1) := by decide +kernel
theorem dX3_takeOne_11 : decode cX3_takeOne 11 = .ok (.putfield 38, 3) := by decide +kernel
theorem dX3_takeOne_14 : decode cX3_takeOne 14 = .ok (.aload_n 0, 1) := by decide +kernel
theorem dX3_takeOne_15 : decode cX3_takeOne 15 = .ok (.iconst 1, 1) := by decide +kernel
theorem dX3_takeOne_16 : decode cX3_takeOne 16 = .ok (.putfield 23, 3) := by decide +kernel
theorem dX3_takeOne_19 : decode cX3_takeOne 19 = .ok (.iconst 1, 1) := by decide +kernel
theorem dX3_takeOne_20 : decode cX3_takeOne 20 = .ok (.ireturn, 1) := by decide +kernel
theorem dX3_takeDigit_0 : decode cX3_takeDigit 0 = .ok (.aload_n 0, 1) := by decide +kernel
theorem dX3_takeDigit_1 : decode cX3_takeDigit 1 = .ok (.getfield 23, 3) := by decide +kernel
theorem dX3_takeDigit_4 : decode cX3_takeDigit 4 = .ok (.iconst 2, 1) := by decide +kernel
theorem dX3_takeDigit_5 : decode cX3_takeDigit 5 = .ok (.if_icmp .eq 5, 3) := by decide +kernel
theorem dX3_takeDigit_8 : decode cX3_takeDigit 8 = .ok (.iconst 0, 1) := by decide +kernel
theorem dX3_takeDigit_9 : decode cX3_takeDigit 9 = .ok (.ireturn, 1) := by decide +kernel
theorem dX3_takeDigit_10 : decode cX3_takeDigit 10 = .ok (.aload_n 0, 1) := by decide +kernel
theorem dX3_takeDigit_11 : decode cX3_takeDigit 11 = .ok (.dup, 1) := by decide +kernel
theorem dX3_takeDigit_12 : decode cX3_takeDigit 12 = .ok (.getfield 38, 3) := by decide +kernel
theorem dX3_takeDigit_15 : decode cX3_takeDigit 15 = .ok (.iload_n 1, 1) := by decide +kernel
theorem dX3_takeDigit_16 : decode cX3_takeDigit 16 = .ok (.iconst 1, 1) := by decide +kernel
theorem dX3_takeDigit_17 : decode cX3_takeDigit 17 = .ok (.isub, 1) := by decide +kernel
theorem dX3_takeDigit_18 : decode cX3_takeDigit 18 = .ok (.aload_n 0, 1) := by decide +kernel
theorem dX3_takeDigit_19 : decode cX3_takeDigit 19 = .ok (.getfield 57, 3) := by decide +kernel
theorem dX3_takeDigit_22 : decode cX3_takeDigit 22 = .ok (.invokestatic 60, 3) := by decide +kernel
theorem dX3_takeDigit_25 : decode cX3_takeDigit 25 = .ok (.imul, 1) := by decide +kernel
theorem dX3_takeDigit_26 : decode cX3_takeDigit 26 = .ok (.iadd, 1) := by decide +kernel
theorem dX3_takeDigit_27 : decode cX3_takeDigit 27 = .ok (.putfield 38, 3) := by decide +kernel
theorem dX3_takeDigit_30 : decode cX3_takeDigit 30 = .ok (.aload_n 0, 1) := by decide +kernel
theorem dX3_takeDigit_31 : decode cX3_takeDigit 31 = .ok (.iconst 3, 1) := by decide +kernel
theorem dX3_takeDigit_32 : decode cX3_takeDigit 32 = .ok (.putfield 23, 3) := by decide +kernel
theorem dX3_takeDigit_35 : decode cX3_takeDigit 35 = .ok (.iconst 1, 1) := by decide +kernel
theorem dX3_takeDigit_36 : decode cX3_takeDigit 36 = .ok (.ireturn, 1) := by decide +kernel
theorem dX3_takeLetter_0 : decode cX3_takeLetter 0 = .ok (.aload_n 0, 1) := by decide +kernel
theorem dX3_takeLetter_1 : decode cX3_takeLetter 1 = .ok (.getfield 23, 3) := by decide +kernel
theorem dX3_takeLetter_4 : decode cX3_takeLetter 4 = .ok (.ifCond .ne 11, 3) := by decide +kernel
theorem dX3_takeLetter_7 : decode cX3_takeLetter 7 = .ok (.aload_n 0, 1) := by decide +kernel
theorem dX3_takeLetter_8 : decode cX3_takeLetter 8 = .ok (.iconst 0, 1) := by decide +kernel
theorem dX3_takeLetter_9 : decode cX3_takeLetter 9 = .ok (.putfield 38, 3) := by decide +kernel
theorem dX3_takeLetter_12 : decode cX3_takeLetter 12 = .ok (.goto 21, 3) := by decide +kernel
theorem dX3_takeLetter_15 : decode cX3_takeLetter 15 = .ok (.aload_n 0, 1) := by decide +kernel
theorem dX3_takeLetter_16 : decode cX3_takeLetter 16 = .ok (.getfield 23, 3) := by decide +kernel
theorem dX3_takeLetter_19 : decode cX3_takeLetter 19 = .ok (.iconst 1, 1) := by decide +kernel
theorem dX3_takeLetter_20 : decode cX3_takeLetter 20 = .ok (.if_icmp .eq 11, 3) := by decide +kernel
theorem dX3_takeLetter_23 : decode cX3_takeLetter 23 = .ok (.iload_n 1, 1) := by decide +kernel
theorem dX3_takeLetter_24 : decode cX3_takeLetter 24 = .ok (.aload_n 0, 1) := by decide +kernel
theorem dX3_takeLetter_25 : decode cX3_takeLetter 25 = .ok (.getfield 57, 3) := by decide +kernel
theorem dX3_takeLetter_28 : decode cX3_takeLetter 28 = .ok (.if_icmp .gt 5, 3) := by decide +kernel
theorem dX3_takeLetter_31 : decode cX3_takeLetter 31 = .ok (.iconst 0, 1) := by decide +kernel
theorem dX3_takeLetter_32 : decode cX3_takeLetter 32 = .ok (.ireturn, 1) := by decide +kernel
theorem dX3_takeLetter_33 : decode cX3_takeLetter 33 = .ok (.aload_n 0, 1) := by decide +kernel
theorem dX3_takeLetter_34 : decode cX3_takeLetter 34 = .ok (.dup, 1) := by decide +kernel
theorem dX3_takeLetter_35 : decode cX3_takeLetter 35 = .ok (.getfield 38, 3) := by decide +kernel
theorem dX3_takeLetter_38 : decode cX3_takeLetter 38 = .ok (.iload_n 1, 1) := by decide +kernel
theorem dX3_takeLetter_39 : decode cX3_takeLetter 39 = .ok (.invokestatic 60, 3) := by decide +kernel
theorem dX3_takeLetter_42 : decode cX3_takeLetter 42 = .ok (.iadd, 1) := by decide +kernel
theorem dX3_takeLetter_43 : decode cX3_takeLetter 43 = .ok (.putfield 38, 3) := by decide +kernel
theorem dX3_takeLetter_46 : decode cX3_takeLetter 46 = .ok (.aload_n 0, 1) := by decide +kernel
theorem dX3_takeLetter_47 : decode cX3_takeLetter 47 = .ok (.iload_n 1, 1) := by decide +kernel
theorem dX3_takeLetter_48 : decode cX3_takeLetter 48 = .ok (.putfield 57, 3) := by decide +kernel
theorem dX3_takeLetter_51 : decode cX3_takeLetter 51 = .ok (.aload_n 0, 1) := by decide +kernel
theorem dX3_takeLetter_52 : decode cX3_takeLetter 52 = .ok (.iconst 2, 1) := by decide +kernel
theorem dX3_takeLetter_53 : decode cX3_takeLetter 53 = .ok (.putfield 23, 3) := by decide +kernel
theorem dX3_takeLetter_56 : decode cX3_takeLetter 56 = .ok (.iconst 1, 1) := by decide +kernel
theorem dX3_takeLetter_57 : decode cX3_takeLetter 57 = .ok (.ireturn, 1) := by decide +kernel
theorem dX4_init_0 : decode cX4_init 0 = .ok (.aload_n 0, 1) := by decide +kernel
theorem dX4_init_1 : decode cX4_init 1 = .ok (.invokespecial 3, 3) := by decide +kernel
theorem dX4_init_4 : decode cX4_init 4 = .ok (.aload_n 0, 1) := by decide +kernel
theorem dX4_init_5 : decode cX4_init 5 = .ok (.aload_n 1, 1) := by decide +kernel
theorem dX4_init_6 : decode cX4_init 6 = .ok (.putfield 9, 3) := by decide +kernel
theorem dX4_init_9 : decode cX4_init 9 = .ok (.aload_n 0, 1) := by decide +kernel
theorem dX4_init_10 : decode cX4_init 10 = .ok (.aload_n 2, 1) := by decide +kernel
theorem dX4_init_11 : decode cX4_init 11 = .ok (.putfield 15, 3) := by decide +kernel
theorem dX4_init_14 : decode cX4_init 14 = .ok (.aload_n 0, 1) := by decide +kernel
theorem dX4_init_15 : decode cX4_init 15 = .ok (.bipush 7, 2) := by decide +kernel
theorem dX4_init_17 : decode cX4_init 17 = .ok (.newarray .int, 2) := by decide +kernel
theorem dX4_init_19 : decode cX4_init 19 = .ok (.putfield 19, 3) := by decide +kernel
theorem dX4_init_22 : decode cX4_init 22 = .ok (.aload_n 0, 1) := by decide +kernel
theorem dX4_init_23 : decode cX4_init 23 = .ok (.new 23, 3) := by decide +kernel
theorem dX4_init_26 : decode cX4_init 26 = .ok (.dup, 1) := by decide +kernel
theorem dX4_init_27 : decode cX4_init 27 = .ok (.sipush 728, 3) := by decide +kernel
theorem dX4_init_30 : decode cX4_init 30 = .ok (.invokespecial 27, 3) := by decide +kernel
theorem dX4_init_33 : decode cX4_init 33 = .ok (.putfield 30, 3) := by decide +kernel
theorem dX4_init_36 : decode cX4_init 36 = .ok (.aload_n 0, 1) := by decide +kernel
theorem dX4_init_37 : decode cX4_init 37 = .ok (.new 23, 3) := by decide +kernel
theorem dX4_init_40 : decode cX4_init 40 = .ok (.dup, 1) := by decide +kernel
theorem dX4_init_41 : decode cX4_init 41 = .ok (.sipush 728, 3) := by decide +kernel
theorem dX4_init_44 : decode cX4_init 44 = .ok (.invokespecial 27, 3) := by decide +kernel
theorem dX4_init_47 : decode cX4_init 47 = .ok (.putfield 34, 3) := by decide +kernel
theorem dX4_init_50 : decode cX4_init 50 = .ok (.aload_n 0, 1) := by decide +kernel
theorem dX4_init_51 : decode cX4_init 51 = .ok (.iconst 0, 1) := by decide +kernel
theorem dX4_init_52 : decode cX4_init 52 = .ok (.putfield 37, 3) := by decide +kernel
theorem dX4_init_55 : decode cX4_init 55 = .ok (.return_, 1) := by decide +kernel
theorem dX4_forget_0 : decode cX4_forget 0 = .ok (.aload_n 0, 1) := by decide +kernel
theorem dX4_forget_1 : decode cX4_forget 1 = .ok (.iconst 0, 1) := by decide +kernel
theorem dX4_forget_2 : decode cX4_forget 2 = .ok (.putfield 37, 3) := by decide +kernel
theorem dX4_forget_5 : decode cX4_forget 5 = .ok (.return_, 1) := by decide +kernel
theorem dX4_prepare_0 : decode cX4_prepare 0 = .ok (.aload_n 0, 1) := by decide +kernel
theorem dX4_prepare_1 : decode cX4_prepare 1 = .ok (.getfield 37, 3) := by decide +kernel
theorem dX4_prepare_4 : decode cX4_prepare 4 = .ok (.iload_n 1, 1) := by decide +kernel
theorem dX4_prepare_5 : decode cX4_prepare 5 = .ok (.if_icmp .ne 13, 3) := by decide +kernel
theorem dX4_prepare_8 : decode cX4_prepare 8 = .ok (.aload_n 0, 1) := by decide +kernel
theorem dX4_prepare_9 : decode cX4_prepare 9 = .ok (.getfield 41, 3) := by decide +kernel
theorem dX4_prepare_12 : decode cX4_prepare 12 = .ok (.iload_n 2, 1) := by decide +kernel
theorem dX4_prepare_13 : decode cX4_prepare 13 = .ok (.if_icmp .ne 5, 3) := by decide +kernel
theorem dX4_prepare_16 : decode cX4_prepare 16 = .ok (.iconst 1, 1) := by decide +kernel
theorem dX4_prepare_17 : decode cX4_prepare 17 = .ok (.ireturn, 1) := by decide +kernel
theorem dX4_prepare_18 : decode cX4_prepare 18 = .ok (.aload_n 0, 1) := by decide +kernel
theorem dX4_prepare_19 : decode cX4_prepare 19 = .ok (.iconst 0, 1) := by decide +kernel
theorem dX4_prepare_20 : decode cX4_prepare 20 = .ok (.putfield 37, 3) := by decide +kernel
theorem dX4_prepare_23 : decode cX4_prepare 23 = .ok (.aload_n 0, 1) := by decide +kernel
theorem dX4_prepare_24 : decode cX4_prepare 24 = .ok (.iload_n 2, 1) := by decide +kernel
theorem dX4_prepare_25 : decode cX4_prepare 25 = .ok (.invokevirtual 44, 3) := by decide +kernel
theorem dX4_prepare_28 : decode cX4_prepare 28 = .ok (.ifCond .ne 5, 3) := by decide +kernel
theorem dX4_prepare_31 : decode cX4_prepare 31 = .ok (.iconst 0, 1) := by decide +kernel
theorem dX4_prepare_32 : decode cX4_prepare 32 = .ok (.ireturn, 1) := by decide +kernel
theorem dX4_prepare_33 : decode cX4_prepare 33 = .ok (.aload_n 0, 1) := by decide +kernel
theorem dX4_prepare_34 : decode cX4_prepare 34 = .ok (.getfield 30, 3) := by decide +kernel
theorem dX4_prepare_37 : decode cX4_prepare 37 = .ok (.aload_n 0, 1) := by decide +kernel
theorem dX4_prepare_38 : decode cX4_prepare 38 = .ok (.getfield 15, 3) := by decide +kernel
theorem dX4_prepare_41 : decode cX4_prepare 41 = .ok (.iload_n 1, 1) := by decide +kernel
theorem dX4_prepare_42 : decode cX4_prepare 42 = .ok (.invokevirtual 48, 3) := by decide +kernel
theorem dX4_prepare_45 : decode cX4_prepare 45 = .ok (.invokevirtual 52, 3) := by decide +kernel
theorem dX4_prepare_48 : decode cX4_prepare 48 = .ok (.aload_n 0, 1) := by decide +kernel
theorem dX4_prepare_49 : decode cX4_prepare 49 = .ok (.invokevirtual 56, 3) := by decide +kernel
theorem dX4_prepare_52 : decode cX4_prepare 52 = .ok (.aload_n 0, 1) := by decide +kernel
theorem dX4_prepare_53 : decode cX4_prepare 53 = .ok (.iload_n 1, 1) := by decide +kernel
theorem dX4_prepare_54 : decode cX4_prepare 54 = .ok (.putfield 37, 3) := by decide +kernel
theorem dX4_prepare_57 : decode cX4_prepare 57 = .ok (.aload_n 0, 1) := by decide +kernel
theorem dX4_prepare_58 : decode cX4_prepare 58 = .ok (.iload_n 2, 1) := by decide +kernel
theorem dX4_prepare_59 : decode cX4_prepare 59 = .ok (.putfield 41, 3) := by decide +kernel
theorem dX4_prepare_62 : decode cX4_prepare 62 = .ok (.iconst 1, 1) := by decide +kernel
theorem dX4_prepare_63 : decode cX4_prepare 63 = .ok (.ireturn, 1) := by decide +kernel
theorem dX4_readSequence_0 : decode cX4_readSequence 0 = .ok (.iload_n 1, 1) := by decide +kernel
theorem dX4_readSequence_1 : decode cX4_readSequence 1 = .ok (.istore_n 2, 1) := by decide +kernel
theorem dX4_readSequence_2 : decode cX4_readSequence 2 = .ok (.iconst 0, 1) := by decide +kernel
theorem dX4_readSequence_3 : decode cX4_readSequence 3 = .ok (.istore_n 3, 1) := by decide +kernel
theorem dX4_readSequence_4 : decode cX4_readSequence 4 = .ok (.aload_n 0, 1) := by decide +kernel
theorem dX4_readSequence_5 : decode cX4_readSequence 5 = .ok (.getfield 9, 3) := by decide +kernel
theorem dX4_readSequence_8 : decode cX4_readSequence 8 = .ok (.getfield 59, 3) := by decide +kernel
theorem dX4_readSequence_11 : decode cX4_readSequence 11 = .ok (.iconst 1, 1) := by decide +kernel
theorem dX4_readSequence_12 : decode cX4_readSequence 12 = .ok (.isub, 1) := by decide +kernel
theorem dX4_readSequence_13 : decode cX4_readSequence 13 = .ok (.istore 4, 2) := by decide +kernel
theorem dX4_readSequence_15 : decode cX4_readSequence 15 = .ok (.iload 4, 2) := by decide +kernel
theorem dX4_readSequence_17 : decode cX4_readSequence 17 = .ok (.ifCond .lt 66, 3) := by decide +kernel
theorem dX4_readSequence_20 : decode cX4_readSequence 20 = .ok (.iload_n 2, 1) := by decide +kernel
theorem dX4_readSequence_21 : decode cX4_readSequence 21 = .ok (.bipush 10, 2) := by decide +kernel
theorem dX4_readSequence_23 : decode cX4_readSequence 23 = .ok (.irem, 1) := by decide +kernel
theorem dX4_readSequence_24 : decode cX4_readSequence 24 = .ok (.iconst 1, 1) := by decide +kernel
theorem dX4_readSequence_25 : decode cX4_readSequence 25 = .ok (.isub, 1) := by decide +kernel
theorem dX4_readSequence_26 : decode cX4_readSequence 26 = .ok (.istore 5, 2) := by decide +kernel
theorem dX4_readSequence_28 : decode cX4_readSequence 28 = .ok (.iload 5, 2) := by decide +kernel
theorem dX4_readSequence_30 : decode cX4_readSequence 30 = .ok (.ifCond .lt 24, 3) := by decide +kernel
theorem dX4_readSequence_33 : decode cX4_readSequence 33 = .ok (.iload 5, 2) := by decide +kernel
theorem dX4_readSequence_35 : decode cX4_readSequence 35 = .ok (.aload_n 0, 1) := by decide +kernel
theorem dX4_readSequence_36 : decode cX4_readSequence 36 = .ok (.getfield 9, 3) := by decide +kernel
theorem dX4_readSequence_39 : decode cX4_readSequence 39 = .ok (.getfield 59, 3) := by decide +kernel
theorem dX4_readSequence_42 : decode cX4_readSequence 42 = .ok (.if_icmp .ge 12, 3) := by decide +kernel
theorem dX4_readSequence_45 : decode cX4_readSequence 45 = .ok (.iload_n 3, 1) := by decide +kernel
theorem dX4_readSequence_46 : decode cX4_readSequence 46 = .ok (.iload 5, 2) := by decide +kernel
theorem dX4_readSequence_48 : decode cX4_readSequence 48 = .ok (.ishr, 1) := by decide +kernel
theorem dX4_readSequence_49 : decode cX4_readSequence 49 = .ok (.iconst 1, 1) := by decide +kernel
theorem dX4_readSequence_50 : decode cX4_readSequence 50 = .ok (.iand, 1) := by decide +kernel
theorem dX4_readSequence_51 : decode cX4_readSequence 51 = .ok (.ifCond .eq 5, 3) := by decide +kernel
theorem dX4_readSequence_54 : decode cX4_readSequence 54 = .ok (.iconst 0, 1) := by decide +kernel
theorem dX4_readSequence_55 : decode cX4_readSequence 55 = .ok (.ireturn, 1) := by decide +kernel
theorem dX4_readSequence_56 : decode cX4_readSequence 56 = .ok (.iload_n 3, 1) := by decide +kernel
theorem dX4_readSequence_57 : decode cX4_readSequence 57 = .ok (.iconst 1, 1) := by decide +kernel
theorem dX4_readSequence_58 : decode cX4_readSequence 58 = .ok (.iload 5, 2) := by decide +kernel
theorem dX4_readSequence_60 : decode cX4_readSequence 60 = .ok (.ishl, 1) := by decide +kernel
theorem dX4_readSequence_61 : decode cX4_readSequence 61 = .ok (.ior, 1) := by decide +kernel
theorem dX4_readSequence_62 : decode cX4_readSequence 62 = .ok (.istore_n 3, 1) := by decide +kernel
theorem dX4_readSequence_63 : decode cX4_readSequence 63 = .ok (.aload_n 0, 1) := by decide +kernel
theorem dX4_readSequence_64 : decode cX4_readSequence 64 = .ok (.getfield 19, 3) := by decide +kernel
theorem dX4_readSequence_67 : decode cX4_readSequence 67 = .ok (.iload 4, 2) := by decide +kernel
theorem dX4_readSequence_69 : decode cX4_readSequence 69 = .ok (.iload 5, 2) := by decide +kernel
theorem dX4_readSequence_71 : decode cX4_readSequence 71 = .ok (.iastore, 1) := by decide +kernel
theorem dX4_readSequence_72 : decode cX4_readSequence 72 = .ok (.iload_n 2, 1) := by decide +kernel
theorem dX4_readSequence_73 : decode cX4_readSequence 73 = .ok (.bipush 10, 2) := by decide +kernel
theorem dX4_readSequence_75 : decode cX4_readSequence 75 = .ok (.idiv, 1) := by decide +kernel
theorem dX4_readSequence_76 : decode cX4_readSequence 76 = .ok (.istore_n 2, 1) := by decide +kernel
theorem dX4_readSequence_77 : decode cX4_readSequence 77 = .ok (.iinc 4 (-1), 3) := by decide +kernel
theorem dX4_readSequence_80 : decode cX4_readSequence 80 = .ok (.goto (-65), 3) := by decide +kernel
theorem dX4_readSequence_83 : decode cX4_readSequence 83 = .ok (.iload_n 2, 1) := by decide +kernel
theorem dX4_readSequence_84 : decode cX4_readSequence 84 = .ok (.ifCond .ne 7, 3) := by decide +kernel
theorem dX4_readSequence_87 : decode cX4_readSequence 87 = .ok (.iconst 1, 1) := by decide +kernel
theorem dX4_readSequence_88 : decode cX4_readSequence 88 = .ok (.goto 4, 3) := by decide +kernel
theorem dX4_readSequence_91 : decode cX4_readSequence 91 = .ok (.iconst 0, 1) := by decide +kernel
theorem dX4_readSequence_92 : decode cX4_readSequence 92 = .ok (.ireturn, 1) := by decide +kernel
theorem dX4_sortBySequence_0 : decode cX4_sortBySequence 0 = .ok (.aload_n 0, 1) := by decide +kernel
theorem dX4_sortBySequence_1 : decode cX4_sortBySequence 1 = .ok (.getfield 9, 3) := by decide +kernel
theorem dX4_sortBySequence_4 : decode cX4_sortBySequence 4 = .ok (.getfield 59, 3) := by decide +kernel
theorem dX4_sortBySequence_7 : decode cX4_sortBySequence 7 = .ok (.iconst 1, 1) := by decide +kernel
theorem dX4_sortBySequence_8 : decode cX4_sortBySequence 8 = .ok (.isub, 1) := by decide +kernel
theorem dX4_sortBySequence_9 : decode cX4_sortBySequence 9 = .ok (.istore_n 1, 1) := by decide +kernel
theorem dX4_sortBySequence_10 : decode cX4_sortBySequence 10 = .ok (.iload_n 1, 1) := by decide +kernel
theorem dX4_sortBySequence_11 : decode cX4_sortBySequence 11 = .ok (.ifCond .lt 51, 3) := by decide +kernel
theorem dX4_sortBySequence_14 : decode cX4_sortBySequence 14 = .ok (.aload_n 0, 1) := by decide +kernel
theorem dX4_sortBySequence_15 : decode cX4_sortBySequence 15 = .ok (.getfield 34, 3) := by decide +kernel
theorem dX4_sortBySequence_18 : decode cX4_sortBySequence 18 = .ok (.iconst 0, 1) := by decide +kernel
theorem dX4_sortBySequence_19 : decode cX4_sortBySequence 19 = .ok (.putfield 64, 3) := by decide +kernel
theorem dX4_sortBySequence_22 : decode cX4_sortBySequence 22 = .ok (.iconst 3, 1) := by decide +kernel
theorem dX4_sortBySequence_23 : decode cX4_sortBySequence 23 = .ok (.istore_n 2, 1) := by decide +kernel
theorem dX4_sortBySequence_24 : decode cX4_sortBySequence 24 = .ok (.iload_n 2, 1) := by decide +kernel
theorem dX4_sortBySequence_25 : decode cX4_sortBySequence 25 = .ok (.ifCond .lt 20, 3) := by decide +kernel
theorem dX4_sortBySequence_28 : decode cX4_sortBySequence 28 = .ok (.aload_n 0, 1) := by decide +kernel
theorem dX4_sortBySequence_29 : decode cX4_sortBySequence 29 = .ok (.aload_n 0, 1) := by decide +kernel
theorem dX4_sortBySequence_30 : decode cX4_sortBySequence 30 = .ok (.getfield 19, 3) := by decide +kernel
theorem dX4_sortBySequence_33 : decode cX4_sortBySequence 33 = .ok (.iload_n 1, 1) := by decide +kernel
theorem dX4_sortBySequence_34 : decode cX4_sortBySequence 34 = .ok (.iaload, 1) := by decide +kernel
theorem dX4_sortBySequence_35 : decode cX4_sortBySequence 35 = .ok (.iload_n 2, 1) := by decide +kernel
theorem dX4_sortBySequence_36 : decode cX4_sortBySequence 36 = .ok (.invokevirtual 67, 3) := by decide +kernel
theorem dX4_sortBySequence_39 : decode cX4_sortBySequence 39 = .ok (.iinc 2 (-1), 3) := by decide +kernel
theorem dX4_sortBySequence_42 : decode cX4_sortBySequence 42 = .ok (.goto (-18), 3) := by decide +kernel
theorem dX4_sortBySequence_45 : decode cX4_sortBySequence 45 = .ok (.aload_n 0, 1) := by decide +kernel
theorem dX4_sortBySequence_46 : decode cX4_sortBySequence 46 = .ok (.getfield 30, 3) := by decide +kernel
theorem dX4_sortBySequence_49 : decode cX4_sortBySequence 49 = .ok (.aload_n 0, 1) := by decide +kernel
theorem dX4_sortBySequence_50 : decode cX4_sortBySequence 50 = .ok (.getfield 34, 3) := by decide +kernel
theorem dX4_sortBySequence_53 : decode cX4_sortBySequence 53 = .ok (.invokevirtual 52, 3) := by decide +kernel
theorem dX4_sortBySequence_56 : decode cX4_sortBySequence 56 = .ok (.iinc 1 (-1), 3) := by decide +kernel
theorem dX4_sortBySequence_59 : decode cX4_sortBySequence 59 = .ok (.goto (-49), 3) := by decide +kernel
theorem dX4_sortBySequence_62 : decode cX4_sortBySequence 62 = .ok (.return_, 1) := by decide +kernel
theorem dX4_moveToSpare_0 : decode cX4_moveToSpare 0 = .ok (.iconst 0, 1) := by decide +kernel
end
section
theorem dX4_moveToSpare_1 : decode cX4_moveToSpare 1 = .ok (.istore_n 3, 1) := by decide +kernel
theorem dX4_moveToSpare_2 : decode cX4_moveToSpare 2 = .ok (.iload_n 3, 1) := by decide +kernel
theorem dX4_moveToSpare_3 : decode cX4_moveToSpare 3 = .ok (.aload_n 0, 1) := by decide +kernel
theorem dX4_moveToSpare_4 : decode cX4_moveToSpare 4 = .ok (.getfield 30, 3) := by decide +kernel
theorem dX4_moveToSpare_7 : decode cX4_moveToSpare 7 = .ok (.getfield 64, 3) := by decide +kernel
theorem dX4_moveToSpare_10 : decode cX4_moveToSpare 10 = .ok (.if_icmp .ge 43, 3) := by decide +kernel
theorem dX4_moveToSpare_13 : decode cX4_moveToSpare 13 = .ok (.aload_n 0, 1) := by decide +kernel
theorem dX4_moveToSpare_14 : decode cX4_moveToSpare 14 = .ok (.getfield 30, 3) := by decide +kernel
theorem dX4_moveToSpare_17 : decode cX4_moveToSpare 17 = .ok (.getfield 71, 3) := by decide +kernel
theorem dX4_moveToSpare_20 : decode cX4_moveToSpare 20 = .ok (.iload_n 3, 1) := by decide +kernel
theorem dX4_moveToSpare_21 : decode cX4_moveToSpare 21 = .ok (.iaload, 1) := by decide +kernel
theorem dX4_moveToSpare_22 : decode cX4_moveToSpare 22 = .ok (.iload_n 1, 1) := by decide +kernel
theorem dX4_moveToSpare_23 : decode cX4_moveToSpare 23 = .ok (.invokestatic 74, 3) := by decide +kernel
theorem dX4_moveToSpare_26 : decode cX4_moveToSpare 26 = .ok (.iload_n 2, 1) := by decide +kernel
theorem dX4_moveToSpare_27 : decode cX4_moveToSpare 27 = .ok (.if_icmp .ne 20, 3) := by decide +kernel
theorem dX4_moveToSpare_30 : decode cX4_moveToSpare 30 = .ok (.aload_n 0, 1) := by decide +kernel
theorem dX4_moveToSpare_31 : decode cX4_moveToSpare 31 = .ok (.getfield 34, 3) := by decide +kernel
theorem dX4_moveToSpare_34 : decode cX4_moveToSpare 34 = .ok (.aload_n 0, 1) := by decide +kernel
theorem dX4_moveToSpare_35 : decode cX4_moveToSpare 35 = .ok (.getfield 30, 3) := by decide +kernel
theorem dX4_moveToSpare_38 : decode cX4_moveToSpare 38 = .ok (.getfield 71, 3) := by decide +kernel
theorem dX4_moveToSpare_41 : decode cX4_moveToSpare 41 = .ok (.iload_n 3, 1) := by decide +kernel
theorem dX4_moveToSpare_42 : decode cX4_moveToSpare 42 = .ok (.iaload, 1) := by decide +kernel
theorem dX4_moveToSpare_43 : decode cX4_moveToSpare 43 = .ok (.invokevirtual 80, 3) := by decide +kernel
theorem dX4_moveToSpare_46 : decode cX4_moveToSpare 46 = .ok (.pop, 1) := by decide +kernel
theorem dX4_moveToSpare_47 : decode cX4_moveToSpare 47 = .ok (.iinc 3 1, 3) := by decide +kernel
theorem dX4_moveToSpare_50 : decode cX4_moveToSpare 50 = .ok (.goto (-48), 3) := by decide +kernel
theorem dX4_moveToSpare_53 : decode cX4_moveToSpare 53 = .ok (.return_, 1) := by decide +kernel
theorem dX4_colonUnits_0 : decode cX4_colonUnits 0 = .ok (.iconst 0, 1) := by decide +kernel
theorem dX4_colonUnits_1 : decode cX4_colonUnits 1 = .ok (.istore_n 2, 1) := by decide +kernel
theorem dX4_colonUnits_2 : decode cX4_colonUnits 2 = .ok (.aload_n 0, 1) := by decide +kernel
theorem dX4_colonUnits_3 : decode cX4_colonUnits 3 = .ok (.getfield 30, 3) := by decide +kernel
theorem dX4_colonUnits_6 : decode cX4_colonUnits 6 = .ok (.getfield 71, 3) := by decide +kernel
theorem dX4_colonUnits_9 : decode cX4_colonUnits 9 = .ok (.iload_n 1, 1) := by decide +kernel
theorem dX4_colonUnits_10 : decode cX4_colonUnits 10 = .ok (.iaload, 1) := by decide +kernel
theorem dX4_colonUnits_11 : decode cX4_colonUnits 11 = .ok (.istore_n 3, 1) := by decide +kernel
theorem dX4_colonUnits_12 : decode cX4_colonUnits 12 = .ok (.iconst 0, 1) := by decide +kernel
theorem dX4_colonUnits_13 : decode cX4_colonUnits 13 = .ok (.istore 4, 2) := by decide +kernel
theorem dX4_colonUnits_15 : decode cX4_colonUnits 15 = .ok (.iload 4, 2) := by decide +kernel
theorem dX4_colonUnits_17 : decode cX4_colonUnits 17 = .ok (.aload_n 0, 1) := by decide +kernel
theorem dX4_colonUnits_18 : decode cX4_colonUnits 18 = .ok (.getfield 9, 3) := by decide +kernel
theorem dX4_colonUnits_21 : decode cX4_colonUnits 21 = .ok (.getfield 59, 3) := by decide +kernel
theorem dX4_colonUnits_24 : decode cX4_colonUnits 24 = .ok (.if_icmp .ge 46, 3) := by decide +kernel
theorem dX4_colonUnits_27 : decode cX4_colonUnits 27 = .ok (.aload_n 0, 1) := by decide +kernel
theorem dX4_colonUnits_28 : decode cX4_colonUnits 28 = .ok (.getfield 19, 3) := by decide +kernel
theorem dX4_colonUnits_31 : decode cX4_colonUnits 31 = .ok (.iload 4, 2) := by decide +kernel
theorem dX4_colonUnits_33 : decode cX4_colonUnits 33 = .ok (.iaload, 1) := by decide +kernel
theorem dX4_colonUnits_34 : decode cX4_colonUnits 34 = .ok (.istore 5, 2) := by decide +kernel
theorem dX4_colonUnits_36 : decode cX4_colonUnits 36 = .ok (.iload_n 3, 1) := by decide +kernel
theorem dX4_colonUnits_37 : decode cX4_colonUnits 37 = .ok (.iload 5, 2) := by decide +kernel
theorem dX4_colonUnits_39 : decode cX4_colonUnits 39 = .ok (.invokestatic 74, 3) := by decide +kernel
theorem dX4_colonUnits_42 : decode cX4_colonUnits 42 = .ok (.iconst 3, 1) := by decide +kernel
theorem dX4_colonUnits_43 : decode cX4_colonUnits 43 = .ok (.if_icmp .ge 21, 3) := by decide +kernel
theorem dX4_colonUnits_46 : decode cX4_colonUnits 46 = .ok (.aload_n 0, 1) := by decide +kernel
theorem dX4_colonUnits_47 : decode cX4_colonUnits 47 = .ok (.iload_n 3, 1) := by decide +kernel
theorem dX4_colonUnits_48 : decode cX4_colonUnits 48 = .ok (.iload 4, 2) := by decide +kernel
theorem dX4_colonUnits_50 : decode cX4_colonUnits 50 = .ok (.invokevirtual 83, 3) := by decide +kernel
theorem dX4_colonUnits_53 : decode cX4_colonUnits 53 = .ok (.ifCond .eq 11, 3) := by decide +kernel
theorem dX4_colonUnits_56 : decode cX4_colonUnits 56 = .ok (.iload_n 2, 1) := by decide +kernel
theorem dX4_colonUnits_57 : decode cX4_colonUnits 57 = .ok (.iload 5, 2) := by decide +kernel
theorem dX4_colonUnits_59 : decode cX4_colonUnits 59 = .ok (.invokestatic 87, 3) := by decide +kernel
theorem dX4_colonUnits_62 : decode cX4_colonUnits 62 = .ok (.ior, 1) := by decide +kernel
theorem dX4_colonUnits_63 : decode cX4_colonUnits 63 = .ok (.istore_n 2, 1) := by decide +kernel
theorem dX4_colonUnits_64 : decode cX4_colonUnits 64 = .ok (.iinc 4 1, 3) := by decide +kernel
theorem dX4_colonUnits_67 : decode cX4_colonUnits 67 = .ok (.goto (-52), 3) := by decide +kernel
theorem dX4_colonUnits_70 : decode cX4_colonUnits 70 = .ok (.iload_n 2, 1) := by decide +kernel
theorem dX4_colonUnits_71 : decode cX4_colonUnits 71 = .ok (.ireturn, 1) := by decide +kernel
theorem dX4_hasExchange_0 : decode cX4_hasExchange 0 = .ok (.iload_n 1, 1) := by decide +kernel
theorem dX4_hasExchange_1 : decode cX4_hasExchange 1 = .ok (.aload_n 0, 1) := by decide +kernel
theorem dX4_hasExchange_2 : decode cX4_hasExchange 2 = .ok (.getfield 19, 3) := by decide +kernel
theorem dX4_hasExchange_5 : decode cX4_hasExchange 5 = .ok (.iload_n 2, 1) := by decide +kernel
theorem dX4_hasExchange_6 : decode cX4_hasExchange 6 = .ok (.iaload, 1) := by decide +kernel
theorem dX4_hasExchange_7 : decode cX4_hasExchange 7 = .ok (.invokestatic 87, 3) := by decide +kernel
theorem dX4_hasExchange_10 : decode cX4_hasExchange 10 = .ok (.iadd, 1) := by decide +kernel
theorem dX4_hasExchange_11 : decode cX4_hasExchange 11 = .ok (.istore_n 3, 1) := by decide +kernel
theorem dX4_hasExchange_12 : decode cX4_hasExchange 12 = .ok (.iload_n 2, 1) := by decide +kernel
theorem dX4_hasExchange_13 : decode cX4_hasExchange 13 = .ok (.iconst 1, 1) := by decide +kernel
theorem dX4_hasExchange_14 : decode cX4_hasExchange 14 = .ok (.iadd, 1) := by decide +kernel
theorem dX4_hasExchange_15 : decode cX4_hasExchange 15 = .ok (.istore 4, 2) := by decide +kernel
theorem dX4_hasExchange_17 : decode cX4_hasExchange 17 = .ok (.iload 4, 2) := by decide +kernel
theorem dX4_hasExchange_19 : decode cX4_hasExchange 19 = .ok (.aload_n 0, 1) := by decide +kernel
theorem dX4_hasExchange_20 : decode cX4_hasExchange 20 = .ok (.getfield 9, 3) := by decide +kernel
theorem dX4_hasExchange_23 : decode cX4_hasExchange 23 = .ok (.getfield 59, 3) := by decide +kernel
theorem dX4_hasExchange_26 : decode cX4_hasExchange 26 = .ok (.if_icmp .ge 50, 3) := by decide +kernel
theorem dX4_hasExchange_29 : decode cX4_hasExchange 29 = .ok (.aload_n 0, 1) := by decide +kernel
theorem dX4_hasExchange_30 : decode cX4_hasExchange 30 = .ok (.getfield 19, 3) := by decide +kernel
theorem dX4_hasExchange_33 : decode cX4_hasExchange 33 = .ok (.iload 4, 2) := by decide +kernel
theorem dX4_hasExchange_35 : decode cX4_hasExchange 35 = .ok (.iaload, 1) := by decide +kernel
theorem dX4_hasExchange_36 : decode cX4_hasExchange 36 = .ok (.istore 5, 2) := by decide +kernel
theorem dX4_hasExchange_38 : decode cX4_hasExchange 38 = .ok (.iload_n 1, 1) := by decide +kernel
theorem dX4_hasExchange_39 : decode cX4_hasExchange 39 = .ok (.iload 5, 2) := by decide +kernel
theorem dX4_hasExchange_41 : decode cX4_hasExchange 41 = .ok (.invokestatic 74, 3) := by decide +kernel
theorem dX4_hasExchange_44 : decode cX4_hasExchange 44 = .ok (.ifCond .le 26, 3) := by decide +kernel
theorem dX4_hasExchange_47 : decode cX4_hasExchange 47 = .ok (.aload_n 0, 1) := by decide +kernel
theorem dX4_hasExchange_48 : decode cX4_hasExchange 48 = .ok (.getfield 15, 3) := by decide +kernel
theorem dX4_hasExchange_51 : decode cX4_hasExchange 51 = .ok (.iload_n 3, 1) := by decide +kernel
theorem dX4_hasExchange_52 : decode cX4_hasExchange 52 = .ok (.iload 5, 2) := by decide +kernel
theorem dX4_hasExchange_54 : decode cX4_hasExchange 54 = .ok (.invokestatic 87, 3) := by decide +kernel
theorem dX4_hasExchange_57 : decode cX4_hasExchange 57 = .ok (.isub, 1) := by decide +kernel
theorem dX4_hasExchange_58 : decode cX4_hasExchange 58 = .ok (.aload_n 0, 1) := by decide +kernel
theorem dX4_hasExchange_59 : decode cX4_hasExchange 59 = .ok (.getfield 37, 3) := by decide +kernel
theorem dX4_hasExchange_62 : decode cX4_hasExchange 62 = .ok (.invokevirtual 91, 3) := by decide +kernel
theorem dX4_hasExchange_65 : decode cX4_hasExchange 65 = .ok (.ifCond .eq 5, 3) := by decide +kernel
theorem dX4_hasExchange_68 : decode cX4_hasExchange 68 = .ok (.iconst 1, 1) := by decide +kernel
theorem dX4_hasExchange_69 : decode cX4_hasExchange 69 = .ok (.ireturn, 1) := by decide +kernel
theorem dX4_hasExchange_70 : decode cX4_hasExchange 70 = .ok (.iinc 4 1, 3) := by decide +kernel
theorem dX4_hasExchange_73 : decode cX4_hasExchange 73 = .ok (.goto (-56), 3) := by decide +kernel
theorem dX4_hasExchange_76 : decode cX4_hasExchange 76 = .ok (.iconst 0, 1) := by decide +kernel
theorem dX4_hasExchange_77 : decode cX4_hasExchange 77 = .ok (.ireturn, 1) := by decide +kernel
theorem dX4_isLinearAt_0 : decode cX4_isLinearAt 0 = .ok (.aload_n 0, 1) := by decide +kernel
theorem dX4_isLinearAt_1 : decode cX4_isLinearAt 1 = .ok (.getfield 30, 3) := by decide +kernel
theorem dX4_isLinearAt_4 : decode cX4_isLinearAt 4 = .ok (.getfield 71, 3) := by decide +kernel
theorem dX4_isLinearAt_7 : decode cX4_isLinearAt 7 = .ok (.iload_n 1, 1) := by decide +kernel
theorem dX4_isLinearAt_8 : decode cX4_isLinearAt 8 = .ok (.iaload, 1) := by decide +kernel
theorem dX4_isLinearAt_9 : decode cX4_isLinearAt 9 = .ok (.istore_n 2, 1) := by decide +kernel
theorem dX4_isLinearAt_10 : decode cX4_isLinearAt 10 = .ok (.aload_n 0, 1) := by decide +kernel
theorem dX4_isLinearAt_11 : decode cX4_isLinearAt 11 = .ok (.iload_n 1, 1) := by decide +kernel
theorem dX4_isLinearAt_12 : decode cX4_isLinearAt 12 = .ok (.invokevirtual 94, 3) := by decide +kernel
theorem dX4_isLinearAt_15 : decode cX4_isLinearAt 15 = .ok (.istore_n 3, 1) := by decide +kernel
theorem dX4_isLinearAt_16 : decode cX4_isLinearAt 16 = .ok (.iconst 0, 1) := by decide +kernel
theorem dX4_isLinearAt_17 : decode cX4_isLinearAt 17 = .ok (.istore 4, 2) := by decide +kernel
theorem dX4_isLinearAt_19 : decode cX4_isLinearAt 19 = .ok (.iload 4, 2) := by decide +kernel
theorem dX4_isLinearAt_21 : decode cX4_isLinearAt 21 = .ok (.iload_n 1, 1) := by decide +kernel
theorem dX4_isLinearAt_22 : decode cX4_isLinearAt 22 = .ok (.if_icmp .ge 30, 3) := by decide +kernel
theorem dX4_isLinearAt_25 : decode cX4_isLinearAt 25 = .ok (.aload_n 0, 1) := by decide +kernel
theorem dX4_isLinearAt_26 : decode cX4_isLinearAt 26 = .ok (.getfield 30, 3) := by decide +kernel
theorem dX4_isLinearAt_29 : decode cX4_isLinearAt 29 = .ok (.getfield 71, 3) := by decide +kernel
theorem dX4_isLinearAt_32 : decode cX4_isLinearAt 32 = .ok (.iload 4, 2) := by decide +kernel
theorem dX4_isLinearAt_34 : decode cX4_isLinearAt 34 = .ok (.iaload, 1) := by decide +kernel
theorem dX4_isLinearAt_35 : decode cX4_isLinearAt 35 = .ok (.iload_n 2, 1) := by decide +kernel
theorem dX4_isLinearAt_36 : decode cX4_isLinearAt 36 = .ok (.invokestatic 97, 3) := by decide +kernel
theorem dX4_isLinearAt_39 : decode cX4_isLinearAt 39 = .ok (.iload_n 3, 1) := by decide +kernel
theorem dX4_isLinearAt_40 : decode cX4_isLinearAt 40 = .ok (.iand, 1) := by decide +kernel
theorem dX4_isLinearAt_41 : decode cX4_isLinearAt 41 = .ok (.ifCond .ne 5, 3) := by decide +kernel
theorem dX4_isLinearAt_44 : decode cX4_isLinearAt 44 = .ok (.iconst 0, 1) := by decide +kernel
theorem dX4_isLinearAt_45 : decode cX4_isLinearAt 45 = .ok (.ireturn, 1) := by decide +kernel
theorem dX4_isLinearAt_46 : decode cX4_isLinearAt 46 = .ok (.iinc 4 1, 3) := by decide +kernel
theorem dX4_isLinearAt_49 : decode cX4_isLinearAt 49 = .ok (.goto (-30), 3) := by decide +kernel
theorem dX4_isLinearAt_52 : decode cX4_isLinearAt 52 = .ok (.iconst 1, 1) := by decide +kernel
theorem dX4_isLinearAt_53 : decode cX4_isLinearAt 53 = .ok (.ireturn, 1) := by decide +kernel
theorem dX4_firstNonLinear_0 : decode cX4_firstNonLinear 0 = .ok (.iconst 0, 1) := by decide +kernel
theorem dX4_firstNonLinear_1 : decode cX4_firstNonLinear 1 = .ok (.istore_n 1, 1) := by decide +kernel
theorem dX4_firstNonLinear_2 : decode cX4_firstNonLinear 2 = .ok (.iload_n 1, 1) := by decide +kernel
theorem dX4_firstNonLinear_3 : decode cX4_firstNonLinear 3 = .ok (.aload_n 0, 1) := by decide +kernel
theorem dX4_firstNonLinear_4 : decode cX4_firstNonLinear 4 = .ok (.getfield 30, 3) := by decide +kernel
theorem dX4_firstNonLinear_7 : decode cX4_firstNonLinear 7 = .ok (.getfield 64, 3) := by decide +kernel
theorem dX4_firstNonLinear_10 : decode cX4_firstNonLinear 10 = .ok (.if_icmp .ge 19, 3) := by decide +kernel
theorem dX4_firstNonLinear_13 : decode cX4_firstNonLinear 13 = .ok (.aload_n 0, 1) := by decide +kernel
theorem dX4_firstNonLinear_14 : decode cX4_firstNonLinear 14 = .ok (.iload_n 1, 1) := by decide +kernel
theorem dX4_firstNonLinear_15 : decode cX4_firstNonLinear 15 = .ok (.invokevirtual 100, 3) := by decide +kernel
theorem dX4_firstNonLinear_18 : decode cX4_firstNonLinear 18 = .ok (.ifCond .ne 5, 3) := by decide +kernel
theorem dX4_firstNonLinear_21 : decode cX4_firstNonLinear 21 = .ok (.iload_n 1, 1) := by decide +kernel
theorem dX4_firstNonLinear_22 : decode cX4_firstNonLinear 22 = .ok (.ireturn, 1) := by decide +kernel
theorem dX4_firstNonLinear_23 : decode cX4_firstNonLinear 23 = .ok (.iinc 1 1, 3) := by decide +kernel
theorem dX4_firstNonLinear_26 : decode cX4_firstNonLinear 26 = .ok (.goto (-24), 3) := by decide +kernel
theorem dX4_firstNonLinear_29 : decode cX4_firstNonLinear 29 = .ok (.bipush (-2), 2) := by decide +kernel
theorem dX4_firstNonLinear_31 : decode cX4_firstNonLinear 31 = .ok (.ireturn, 1) := by decide +kernel
theorem dX4_bettiSum_0 : decode cX4_bettiSum 0 = .ok (.lconst 0, 1) := by decide +kernel
theorem dX4_bettiSum_1 : decode cX4_bettiSum 1 = .ok (.lstore_n 2, 1) := by decide +kernel
theorem dX4_bettiSum_2 : decode cX4_bettiSum 2 = .ok (.iconst 0, 1) := by decide +kernel
theorem dX4_bettiSum_3 : decode cX4_bettiSum 3 = .ok (.istore 4, 2) := by decide +kernel
theorem dX4_bettiSum_5 : decode cX4_bettiSum 5 = .ok (.iload 4, 2) := by decide +kernel
theorem dX4_bettiSum_7 : decode cX4_bettiSum 7 = .ok (.aload_n 0, 1) := by decide +kernel
theorem dX4_bettiSum_8 : decode cX4_bettiSum 8 = .ok (.getfield 30, 3) := by decide +kernel
theorem dX4_bettiSum_11 : decode cX4_bettiSum 11 = .ok (.getfield 64, 3) := by decide +kernel
theorem dX4_bettiSum_14 : decode cX4_bettiSum 14 = .ok (.if_icmp .ge 26, 3) := by decide +kernel
theorem dX4_bettiSum_17 : decode cX4_bettiSum 17 = .ok (.lload_n 2, 1) := by decide +kernel
theorem dX4_bettiSum_18 : decode cX4_bettiSum 18 = .ok (.aload_n 0, 1) := by decide +kernel
theorem dX4_bettiSum_19 : decode cX4_bettiSum 19 = .ok (.iload 4, 2) := by decide +kernel
theorem dX4_bettiSum_21 : decode cX4_bettiSum 21 = .ok (.invokevirtual 94, 3) := by decide +kernel
theorem dX4_bettiSum_24 : decode cX4_bettiSum 24 = .ok (.invokestatic 103, 3) := by decide +kernel
theorem dX4_bettiSum_27 : decode cX4_bettiSum 27 = .ok (.iload_n 1, 1) := by decide +kernel
theorem dX4_bettiSum_28 : decode cX4_bettiSum 28 = .ok (.invokestatic 108, 3) := by decide +kernel
theorem dX4_bettiSum_31 : decode cX4_bettiSum 31 = .ok (.i2l, 1) := by decide +kernel
theorem dX4_bettiSum_32 : decode cX4_bettiSum 32 = .ok (.ladd, 1) := by decide +kernel
theorem dX4_bettiSum_33 : decode cX4_bettiSum 33 = .ok (.lstore_n 2, 1) := by decide +kernel
theorem dX4_bettiSum_34 : decode cX4_bettiSum 34 = .ok (.iinc 4 1, 3) := by decide +kernel
theorem dX4_bettiSum_37 : decode cX4_bettiSum 37 = .ok (.goto (-32), 3) := by decide +kernel
theorem dX4_bettiSum_40 : decode cX4_bettiSum 40 = .ok (.lload_n 2, 1) := by decide +kernel
theorem dX4_bettiSum_41 : decode cX4_bettiSum 41 = .ok (.lreturn, 1) := by decide +kernel
theorem dX4_binomial_0 : decode cX4_binomial 0 = .ok (.iconst 1, 1) := by decide +kernel
theorem dX4_binomial_1 : decode cX4_binomial 1 = .ok (.istore_n 2, 1) := by decide +kernel
theorem dX4_binomial_2 : decode cX4_binomial 2 = .ok (.iconst 1, 1) := by decide +kernel
theorem dX4_binomial_3 : decode cX4_binomial 3 = .ok (.istore_n 3, 1) := by decide +kernel
theorem dX4_binomial_4 : decode cX4_binomial 4 = .ok (.iload_n 3, 1) := by decide +kernel
theorem dX4_binomial_5 : decode cX4_binomial 5 = .ok (.iload_n 1, 1) := by decide +kernel
theorem dX4_binomial_6 : decode cX4_binomial 6 = .ok (.if_icmp .gt 19, 3) := by decide +kernel
theorem dX4_binomial_9 : decode cX4_binomial 9 = .ok (.iload_n 2, 1) := by decide +kernel
theorem dX4_binomial_10 : decode cX4_binomial 10 = .ok (.iload_n 0, 1) := by decide +kernel
theorem dX4_binomial_11 : decode cX4_binomial 11 = .ok (.iload_n 3, 1) := by decide +kernel
theorem dX4_binomial_12 : decode cX4_binomial 12 = .ok (.isub, 1) := by decide +kernel
theorem dX4_binomial_13 : decode cX4_binomial 13 = .ok (.iconst 1, 1) := by decide +kernel
theorem dX4_binomial_14 : decode cX4_binomial 14 = .ok (.iadd, 1) := by decide +kernel
theorem dX4_binomial_15 : decode cX4_binomial 15 = .ok (.imul, 1) := by decide +kernel
theorem dX4_binomial_16 : decode cX4_binomial 16 = .ok (.iload_n 3, 1) := by decide +kernel
theorem dX4_binomial_17 : decode cX4_binomial 17 = .ok (.idiv, 1) := by decide +kernel
theorem dX4_binomial_18 : decode cX4_binomial 18 = .ok (.istore_n 2, 1) := by decide +kernel
theorem dX4_binomial_19 : decode cX4_binomial 19 = .ok (.iinc 3 1, 3) := by decide +kernel
theorem dX4_binomial_22 : decode cX4_binomial 22 = .ok (.goto (-18), 3) := by decide +kernel
theorem dX4_binomial_25 : decode cX4_binomial 25 = .ok (.iload_n 2, 1) := by decide +kernel
theorem dX4_binomial_26 : decode cX4_binomial 26 = .ok (.ireturn, 1) := by decide +kernel
theorem dX5_init_0 : decode cX5_init 0 = .ok (.aload_n 0, 1) := by decide +kernel
theorem dX5_init_1 : decode cX5_init 1 = .ok (.invokespecial 3, 3) := by decide +kernel
theorem dX5_init_4 : decode cX5_init 4 = .ok (.aload_n 0, 1) := by decide +kernel
theorem dX5_init_5 : decode cX5_init 5 = .ok (.new 9, 3) := by decide +kernel
theorem dX5_init_8 : decode cX5_init 8 = .ok (.dup, 1) := by decide +kernel
theorem dX5_init_9 : decode cX5_init 9 = .ok (.bipush 24, 2) := by decide +kernel
theorem dX5_init_11 : decode cX5_init 11 = .ok (.invokespecial 11, 3) := by decide +kernel
theorem dX5_init_14 : decode cX5_init 14 = .ok (.putfield 14, 3) := by decide +kernel
theorem dX5_init_17 : decode cX5_init 17 = .ok (.aload_n 0, 1) := by decide +kernel
theorem dX5_init_18 : decode cX5_init 18 = .ok (.new 9, 3) := by decide +kernel
theorem dX5_init_21 : decode cX5_init 21 = .ok (.dup, 1) := by decide +kernel
theorem dX5_init_22 : decode cX5_init 22 = .ok (.bipush 24, 2) := by decide +kernel
theorem dX5_init_24 : decode cX5_init 24 = .ok (.invokespecial 11, 3) := by decide +kernel
theorem dX5_init_27 : decode cX5_init 27 = .ok (.putfield 20, 3) := by decide +kernel
theorem dX5_init_30 : decode cX5_init 30 = .ok (.aload_n 0, 1) := by decide +kernel
theorem dX5_init_31 : decode cX5_init 31 = .ok (.new 9, 3) := by decide +kernel
theorem dX5_init_34 : decode cX5_init 34 = .ok (.dup, 1) := by decide +kernel
theorem dX5_init_35 : decode cX5_init 35 = .ok (.sipush 359, 3) := by decide +kernel
theorem dX5_init_38 : decode cX5_init 38 = .ok (.invokespecial 11, 3) := by decide +kernel
theorem dX5_init_41 : decode cX5_init 41 = .ok (.putfield 23, 3) := by decide +kernel
theorem dX5_init_44 : decode cX5_init 44 = .ok (.return_, 1) := by decide +kernel
theorem dX5_minimize_0 : decode cX5_minimize 0 = .ok (.aload_n 0, 1) := by decide +kernel
theorem dX5_minimize_1 : decode cX5_minimize 1 = .ok (.getfield 20, 3) := by decide +kernel
theorem dX5_minimize_4 : decode cX5_minimize 4 = .ok (.iconst 0, 1) := by decide +kernel
theorem dX5_minimize_5 : decode cX5_minimize 5 = .ok (.putfield 26, 3) := by decide +kernel
theorem dX5_minimize_8 : decode cX5_minimize 8 = .ok (.iconst 0, 1) := by decide +kernel
theorem dX5_minimize_9 : decode cX5_minimize 9 = .ok (.istore_n 1, 1) := by decide +kernel
theorem dX5_minimize_10 : decode cX5_minimize 10 = .ok (.iload_n 1, 1) := by decide +kernel
theorem dX5_minimize_11 : decode cX5_minimize 11 = .ok (.aload_n 0, 1) := by decide +kernel
theorem dX5_minimize_12 : decode cX5_minimize 12 = .ok (.getfield 14, 3) := by decide +kernel
theorem dX5_minimize_15 : decode cX5_minimize 15 = .ok (.getfield 26, 3) := by decide +kernel
theorem dX5_minimize_18 : decode cX5_minimize 18 = .ok (.if_icmp .ge 34, 3) := by decide +kernel
theorem dX5_minimize_21 : decode cX5_minimize 21 = .ok (.aload_n 0, 1) := by decide +kernel
theorem dX5_minimize_22 : decode cX5_minimize 22 = .ok (.iload_n 1, 1) := by decide +kernel
theorem dX5_minimize_23 : decode cX5_minimize 23 = .ok (.invokevirtual 30, 3) := by decide +kernel
theorem dX5_minimize_26 : decode cX5_minimize 26 = .ok (.ifCond .ne 20, 3) := by decide +kernel
theorem dX5_minimize_29 : decode cX5_minimize 29 = .ok (.aload_n 0, 1) := by decide +kernel
theorem dX5_minimize_30 : decode cX5_minimize 30 = .ok (.getfield 20, 3) := by decide +kernel
theorem dX5_minimize_33 : decode cX5_minimize 33 = .ok (.aload_n 0, 1) := by decide +kernel
theorem dX5_minimize_34 : decode cX5_minimize 34 = .ok (.getfield 14, 3) := by decide +kernel
theorem dX5_minimize_37 : decode cX5_minimize 37 = .ok (.getfield 34, 3) := by decide +kernel
theorem dX5_minimize_40 : decode cX5_minimize 40 = .ok (.iload_n 1, 1) := by decide +kernel
theorem dX5_minimize_41 : decode cX5_minimize 41 = .ok (.iaload, 1) := by decide +kernel
theorem dX5_minimize_42 : decode cX5_minimize 42 = .ok (.invokevirtual 38, 3) := by decide +kernel
theorem dX5_minimize_45 : decode cX5_minimize 45 = .ok (.pop, 1) := by decide +kernel
theorem dX5_minimize_46 : decode cX5_minimize 46 = .ok (.iinc 1 1, 3) := by decide +kernel
theorem dX5_minimize_49 : decode cX5_minimize 49 = .ok (.goto (-39), 3) := by decide +kernel
theorem dX5_minimize_52 : decode cX5_minimize 52 = .ok (.aload_n 0, 1) := by decide +kernel
theorem dX5_minimize_53 : decode cX5_minimize 53 = .ok (.getfield 14, 3) := by decide +kernel
theorem dX5_minimize_56 : decode cX5_minimize 56 = .ok (.aload_n 0, 1) := by decide +kernel
theorem dX5_minimize_57 : decode cX5_minimize 57 = .ok (.getfield 20, 3) := by decide +kernel
theorem dX5_minimize_60 : decode cX5_minimize 60 = .ok (.invokevirtual 41, 3) := by decide +kernel
theorem dX5_minimize_63 : decode cX5_minimize 63 = .ok (.return_, 1) := by decide +kernel
theorem dX5_isSuperfluous_0 : decode cX5_isSuperfluous 0 = .ok (.iconst 0, 1) := by decide +kernel
theorem dX5_isSuperfluous_1 : decode cX5_isSuperfluous 1 = .ok (.istore_n 2, 1) := by decide +kernel
theorem dX5_isSuperfluous_2 : decode cX5_isSuperfluous 2 = .ok (.iload_n 2, 1) := by decide +kernel
theorem dX5_isSuperfluous_3 : decode cX5_isSuperfluous 3 = .ok (.aload_n 0, 1) := by decide +kernel
theorem dX5_isSuperfluous_4 : decode cX5_isSuperfluous 4 = .ok (.getfield 14, 3) := by decide +kernel
theorem dX5_isSuperfluous_7 : decode cX5_isSuperfluous 7 = .ok (.getfield 26, 3) := by decide +kernel
theorem dX5_isSuperfluous_10 : decode cX5_isSuperfluous 10 = .ok (.if_icmp .ge 71, 3) := by decide +kernel
theorem dX5_isSuperfluous_13 : decode cX5_isSuperfluous 13 = .ok (.aload_n 0, 1) := by decide +kernel
theorem dX5_isSuperfluous_14 : decode cX5_isSuperfluous 14 = .ok (.getfield 14, 3) := by decide +kernel
theorem dX5_isSuperfluous_17 : decode cX5_isSuperfluous 17 = .ok (.getfield 34, 3) := by decide +kernel
theorem dX5_isSuperfluous_20 : decode cX5_isSuperfluous 20 = .ok (.iload_n 2, 1) := by decide +kernel
theorem dX5_isSuperfluous_21 : decode cX5_isSuperfluous 21 = .ok (.iaload, 1) := by decide +kernel
theorem dX5_isSuperfluous_22 : decode cX5_isSuperfluous 22 = .ok (.aload_n 0, 1) := by decide +kernel
theorem dX5_isSuperfluous_23 : decode cX5_isSuperfluous 23 = .ok (.getfield 14, 3) := by decide +kernel
theorem dX5_isSuperfluous_26 : decode cX5_isSuperfluous 26 = .ok (.getfield 34, 3) := by decide +kernel
theorem dX5_isSuperfluous_29 : decode cX5_isSuperfluous 29 = .ok (.iload_n 1, 1) := by decide +kernel
theorem dX5_isSuperfluous_30 : decode cX5_isSuperfluous 30 = .ok (.iaload, 1) := by decide +kernel
theorem dX5_isSuperfluous_31 : decode cX5_isSuperfluous 31 = .ok (.if_icmp .ne 8, 3) := by decide +kernel
theorem dX5_isSuperfluous_34 : decode cX5_isSuperfluous 34 = .ok (.iload_n 2, 1) := by decide +kernel
theorem dX5_isSuperfluous_35 : decode cX5_isSuperfluous 35 = .ok (.iload_n 1, 1) := by decide +kernel
theorem dX5_isSuperfluous_36 : decode cX5_isSuperfluous 36 = .ok (.if_icmp .ge 7, 3) := by decide +kernel
theorem dX5_isSuperfluous_39 : decode cX5_isSuperfluous 39 = .ok (.iconst 1, 1) := by decide +kernel
theorem dX5_isSuperfluous_40 : decode cX5_isSuperfluous 40 = .ok (.goto 4, 3) := by decide +kernel
theorem dX5_isSuperfluous_43 : decode cX5_isSuperfluous 43 = .ok (.iconst 0, 1) := by decide +kernel
theorem dX5_isSuperfluous_44 : decode cX5_isSuperfluous 44 = .ok (.istore_n 3, 1) := by decide +kernel
theorem dX5_isSuperfluous_45 : decode cX5_isSuperfluous 45 = .ok (.iload_n 3, 1) := by decide +kernel
theorem dX5_isSuperfluous_46 : decode cX5_isSuperfluous 46 = .ok (.ifCond .eq 29, 3) := by decide +kernel
theorem dX5_isSuperfluous_49 : decode cX5_isSuperfluous 49 = .ok (.aload_n 0, 1) := by decide +kernel
theorem dX5_isSuperfluous_50 : decode cX5_isSuperfluous 50 = .ok (.getfield 14, 3) := by decide +kernel
theorem dX5_isSuperfluous_53 : decode cX5_isSuperfluous 53 = .ok (.getfield 34, 3) := by decide +kernel
theorem dX5_isSuperfluous_56 : decode cX5_isSuperfluous 56 = .ok (.iload_n 2, 1) := by decide +kernel
theorem dX5_isSuperfluous_57 : decode cX5_isSuperfluous 57 = .ok (.iaload, 1) := by decide +kernel
theorem dX5_isSuperfluous_58 : decode cX5_isSuperfluous 58 = .ok (.aload_n 0, 1) := by decide +kernel
theorem dX5_isSuperfluous_59 : decode cX5_isSuperfluous 59 = .ok (.getfield 14, 3) := by decide +kernel
theorem dX5_isSuperfluous_62 : decode cX5_isSuperfluous 62 = .ok (.getfield 34, 3) := by decide +kernel
theorem dX5_isSuperfluous_65 : decode cX5_isSuperfluous 65 = .ok (.iload_n 1, 1) := by decide +kernel
theorem dX5_isSuperfluous_66 : decode cX5_isSuperfluous 66 = .ok (.iaload, 1) := by decide +kernel
theorem dX5_isSuperfluous_67 : decode cX5_isSuperfluous 67 = .ok (.invokestatic 45, 3) := by decide +kernel
theorem dX5_isSuperfluous_70 : decode cX5_isSuperfluous 70 = .ok (.ifCond .eq 5, 3) := by decide +kernel
theorem dX5_isSuperfluous_73 : decode cX5_isSuperfluous 73 = .ok (.iconst 1, 1) := by decide +kernel
theorem dX5_isSuperfluous_74 : decode cX5_isSuperfluous 74 = .ok (.ireturn, 1) := by decide +kernel
theorem dX5_isSuperfluous_75 : decode cX5_isSuperfluous 75 = .ok (.iinc 2 1, 3) := by decide +kernel
theorem dX5_isSuperfluous_78 : decode cX5_isSuperfluous 78 = .ok (.goto (-76), 3) := by decide +kernel
theorem dX5_isSuperfluous_81 : decode cX5_isSuperfluous 81 = .ok (.iconst 0, 1) := by decide +kernel
theorem dX5_isSuperfluous_82 : decode cX5_isSuperfluous 82 = .ok (.ireturn, 1) := by decide +kernel
theorem dX5_decreaseExponents_0 : decode cX5_decreaseExponents 0 = .ok (.iconst 0, 1) := by decide +kernel
theorem dX5_decreaseExponents_1 : decode cX5_decreaseExponents 1 = .ok (.istore_n 2, 1) := by decide +kernel
theorem dX5_decreaseExponents_2 : decode cX5_decreaseExponents 2 = .ok (.iload_n 2, 1) := by decide +kernel
theorem dX5_decreaseExponents_3 : decode cX5_decreaseExponents 3 = .ok (.aload_n 0, 1) := by decide +kernel
theorem dX5_decreaseExponents_4 : decode cX5_decreaseExponents 4 = .ok (.getfield 14, 3) := by decide +kernel
theorem dX5_decreaseExponents_7 : decode cX5_decreaseExponents 7 = .ok (.getfield 26, 3) := by decide +kernel
theorem dX5_decreaseExponents_10 : decode cX5_decreaseExponents 10 = .ok (.if_icmp .ge 41, 3) := by decide +kernel
theorem dX5_decreaseExponents_13 : decode cX5_decreaseExponents 13 = .ok (.aload_n 0, 1) := by decide +kernel
theorem dX5_decreaseExponents_14 : decode cX5_decreaseExponents 14 = .ok (.getfield 14, 3) := by decide +kernel
theorem dX5_decreaseExponents_17 : decode cX5_decreaseExponents 17 = .ok (.getfield 34, 3) := by decide +kernel
theorem dX5_decreaseExponents_20 : decode cX5_decreaseExponents 20 = .ok (.iload_n 2, 1) := by decide +kernel
theorem dX5_decreaseExponents_21 : decode cX5_decreaseExponents 21 = .ok (.iaload, 1) := by decide +kernel
theorem dX5_decreaseExponents_22 : decode cX5_decreaseExponents 22 = .ok (.iload_n 1, 1) := by decide +kernel
theorem dX5_decreaseExponents_23 : decode cX5_decreaseExponents 23 = .ok (.invokestatic 51, 3) := by decide +kernel
theorem dX5_decreaseExponents_26 : decode cX5_decreaseExponents 26 = .ok (.ifCond .le 19, 3) := by decide +kernel
theorem dX5_decreaseExponents_29 : decode cX5_decreaseExponents 29 = .ok (.aload_n 0, 1) := by decide +kernel
theorem dX5_decreaseExponents_30 : decode cX5_decreaseExponents 30 = .ok (.getfield 14, 3) := by decide +kernel
theorem dX5_decreaseExponents_33 : decode cX5_decreaseExponents 33 = .ok (.getfield 34, 3) := by decide +kernel
theorem dX5_decreaseExponents_36 : decode cX5_decreaseExponents 36 = .ok (.iload_n 2, 1) := by decide +kernel
theorem dX5_decreaseExponents_37 : decode cX5_decreaseExponents 37 = .ok (.dup2, 1) := by decide +kernel
theorem dX5_decreaseExponents_38 : decode cX5_decreaseExponents 38 = .ok (.iaload, 1) := by decide +kernel
theorem dX5_decreaseExponents_39 : decode cX5_decreaseExponents 39 = .ok (.iload_n 1, 1) := by decide +kernel
theorem dX5_decreaseExponents_40 : decode cX5_decreaseExponents 40 = .ok (.invokestatic 55, 3) := by decide +kernel
theorem dX5_decreaseExponents_43 : decode cX5_decreaseExponents 43 = .ok (.isub, 1) := by decide +kernel
theorem dX5_decreaseExponents_44 : decode cX5_decreaseExponents 44 = .ok (.iastore, 1) := by decide +kernel
theorem dX5_decreaseExponents_45 : decode cX5_decreaseExponents 45 = .ok (.iinc 2 1, 3) := by decide +kernel
theorem dX5_decreaseExponents_48 : decode cX5_decreaseExponents 48 = .ok (.goto (-46), 3) := by decide +kernel
theorem dX5_decreaseExponents_51 : decode cX5_decreaseExponents 51 = .ok (.return_, 1) := by decide +kernel
theorem dX5_reverse_0 : decode cX5_reverse 0 = .ok (.iconst 0, 1) := by decide +kernel
theorem dX5_reverse_1 : decode cX5_reverse 1 = .ok (.istore_n 1, 1) := by decide +kernel
theorem dX5_reverse_2 : decode cX5_reverse 2 = .ok (.iload_n 1, 1) := by decide +kernel
theorem dX5_reverse_3 : decode cX5_reverse 3 = .ok (.aload_n 0, 1) := by decide +kernel
theorem dX5_reverse_4 : decode cX5_reverse 4 = .ok (.getfield 14, 3) := by decide +kernel
theorem dX5_reverse_7 : decode cX5_reverse 7 = .ok (.getfield 26, 3) := by decide +kernel
theorem dX5_reverse_10 : decode cX5_reverse 10 = .ok (.iconst 2, 1) := by decide +kernel
theorem dX5_reverse_11 : decode cX5_reverse 11 = .ok (.idiv, 1) := by decide +kernel
theorem dX5_reverse_12 : decode cX5_reverse 12 = .ok (.if_icmp .ge 25, 3) := by decide +kernel
theorem dX5_reverse_15 : decode cX5_reverse 15 = .ok (.aload_n 0, 1) := by decide +kernel
theorem dX5_reverse_16 : decode cX5_reverse 16 = .ok (.iload_n 1, 1) := by decide +kernel
theorem dX5_reverse_17 : decode cX5_reverse 17 = .ok (.aload_n 0, 1) := by decide +kernel
theorem dX5_reverse_18 : decode cX5_reverse 18 = .ok (.getfield 14, 3) := by decide +kernel
theorem dX5_reverse_21 : decode cX5_reverse 21 = .ok (.getfield 26, 3) := by decide +kernel
theorem dX5_reverse_24 : decode cX5_reverse 24 = .ok (.iconst 1, 1) := by decide +kernel
theorem dX5_reverse_25 : decode cX5_reverse 25 = .ok (.isub, 1) := by decide +kernel
theorem dX5_reverse_26 : decode cX5_reverse 26 = .ok (.iload_n 1, 1) := by decide +kernel
theorem dX5_reverse_27 : decode cX5_reverse 27 = .ok (.isub, 1) := by decide +kernel
theorem dX5_reverse_28 : decode cX5_reverse 28 = .ok (.invokevirtual 59, 3) := by decide +kernel
theorem dX5_reverse_31 : decode cX5_reverse 31 = .ok (.iinc 1 1, 3) := by decide +kernel
theorem dX5_reverse_34 : decode cX5_reverse 34 = .ok (.goto (-32), 3) := by decide +kernel
theorem dX5_reverse_37 : decode cX5_reverse 37 = .ok (.return_, 1) := by decide +kernel
theorem dX5_swap_0 : decode cX5_swap 0 = .ok (.aload_n 0, 1) := by decide +kernel
theorem dX5_swap_1 : decode cX5_swap 1 = .ok (.getfield 14, 3) := by decide +kernel
theorem dX5_swap_4 : decode cX5_swap 4 = .ok (.getfield 34, 3) := by decide +kernel
theorem dX5_swap_7 : decode cX5_swap 7 = .ok (.iload_n 1, 1) := by decide +kernel
theorem dX5_swap_8 : decode cX5_swap 8 = .ok (.iaload, 1) := by decide +kernel
theorem dX5_swap_9 : decode cX5_swap 9 = .ok (.istore_n 3, 1) := by decide +kernel
theorem dX5_swap_10 : decode cX5_swap 10 = .ok (.aload_n 0, 1) := by decide +kernel
theorem dX5_swap_11 : decode cX5_swap 11 = .ok (.getfield 14, 3) := by decide +kernel
theorem dX5_swap_14 : decode cX5_swap 14 = .ok (.getfield 34, 3) := by decide +kernel
theorem dX5_swap_17 : decode cX5_swap 17 = .ok (.iload_n 1, 1) := by decide +kernel
theorem dX5_swap_18 : decode cX5_swap 18 = .ok (.aload_n 0, 1) := by decide +kernel
theorem dX5_swap_19 : decode cX5_swap 19 = .ok (.getfield 14, 3) := by decide +kernel
theorem dX5_swap_22 : decode cX5_swap 22 = .ok (.getfield 34, 3) := by decide +kernel
theorem dX5_swap_25 : decode cX5_swap 25 = .ok (.iload_n 2, 1) := by decide +kernel
theorem dX5_swap_26 : decode cX5_swap 26 = .ok (.iaload, 1) := by decide +kernel
theorem dX5_swap_27 : decode cX5_swap 27 = .ok (.iastore, 1) := by decide +kernel
theorem dX5_swap_28 : decode cX5_swap 28 = .ok (.aload_n 0, 1) := by decide +kernel
theorem dX5_swap_29 : decode cX5_swap 29 = .ok (.getfield 14, 3) := by decide +kernel
theorem dX5_swap_32 : decode cX5_swap 32 = .ok (.getfield 34, 3) := by decide +kernel
theorem dX5_swap_35 : decode cX5_swap 35 = .ok (.iload_n 2, 1) := by decide +kernel
theorem dX5_swap_36 : decode cX5_swap 36 = .ok (.iload_n 3, 1) := by decide +kernel
theorem dX5_swap_37 : decode cX5_swap 37 = .ok (.iastore, 1) := by decide +kernel
theorem dX5_swap_38 : decode cX5_swap 38 = .ok (.return_, 1) := by decide +kernel
theorem dX5_rotate_0 : decode cX5_rotate 0 = .ok (.aload_n 0, 1) := by decide +kernel
theorem dX5_rotate_1 : decode cX5_rotate 1 = .ok (.getfield 14, 3) := by decide +kernel
theorem dX5_rotate_4 : decode cX5_rotate 4 = .ok (.getfield 26, 3) := by decide +kernel
theorem dX5_rotate_7 : decode cX5_rotate 7 = .ok (.ifCond .ne 4, 3) := by decide +kernel
theorem dX5_rotate_10 : decode cX5_rotate 10 = .ok (.return_, 1) := by decide +kernel
theorem dX5_rotate_11 : decode cX5_rotate 11 = .ok (.aload_n 0, 1) := by decide +kernel
theorem dX5_rotate_12 : decode cX5_rotate 12 = .ok (.getfield 14, 3) := by decide +kernel
theorem dX5_rotate_15 : decode cX5_rotate 15 = .ok (.getfield 26, 3) := by decide +kernel
theorem dX5_rotate_18 : decode cX5_rotate 18 = .ok (.iload_n 1, 1) := by decide +kernel
theorem dX5_rotate_19 : decode cX5_rotate 19 = .ok (.aload_n 0, 1) := by decide +kernel
theorem dX5_rotate_20 : decode cX5_rotate 20 = .ok (.getfield 14, 3) := by decide +kernel
theorem dX5_rotate_23 : decode cX5_rotate 23 = .ok (.getfield 26, 3) := by decide +kernel
theorem dX5_rotate_26 : decode cX5_rotate 26 = .ok (.irem, 1) := by decide +kernel
theorem dX5_rotate_27 : decode cX5_rotate 27 = .ok (.isub, 1) := by decide +kernel
theorem dX5_rotate_28 : decode cX5_rotate 28 = .ok (.istore_n 2, 1) := by decide +kernel
theorem dX5_rotate_29 : decode cX5_rotate 29 = .ok (.aload_n 0, 1) := by decide +kernel
theorem dX5_rotate_30 : decode cX5_rotate 30 = .ok (.getfield 20, 3) := by decide +kernel
theorem dX5_rotate_33 : decode cX5_rotate 33 = .ok (.iconst 0, 1) := by decide +kernel
theorem dX5_rotate_34 : decode cX5_rotate 34 = .ok (.putfield 26, 3) := by decide +kernel
theorem dX5_rotate_37 : decode cX5_rotate 37 = .ok (.iconst 0, 1) := by decide +kernel
theorem dX5_rotate_38 : decode cX5_rotate 38 = .ok (.istore_n 3, 1) := by decide +kernel
theorem dX5_rotate_39 : decode cX5_rotate 39 = .ok (.iload_n 3, 1) := by decide +kernel
theorem dX5_rotate_40 : decode cX5_rotate 40 = .ok (.aload_n 0, 1) := by decide +kernel
theorem dX5_rotate_41 : decode cX5_rotate 41 = .ok (.getfield 14, 3) := by decide +kernel
theorem dX5_rotate_44 : decode cX5_rotate 44 = .ok (.getfield 26, 3) := by decide +kernel
theorem dX5_rotate_47 : decode cX5_rotate 47 = .ok (.if_icmp .ge 36, 3) := by decide +kernel
theorem dX5_rotate_50 : decode cX5_rotate 50 = .ok (.aload_n 0, 1) := by decide +kernel
theorem dX5_rotate_51 : decode cX5_rotate 51 = .ok (.getfield 20, 3) := by decide +kernel
theorem dX5_rotate_54 : decode cX5_rotate 54 = .ok (.aload_n 0, 1) := by decide +kernel
theorem dX5_rotate_55 : decode cX5_rotate 55 = .ok (.getfield 14, 3) := by decide +kernel
theorem dX5_rotate_58 : decode cX5_rotate 58 = .ok (.getfield 34, 3) := by decide +kernel
theorem dX5_rotate_61 : decode cX5_rotate 61 = .ok (.iload_n 2, 1) := by decide +kernel
theorem dX5_rotate_62 : decode cX5_rotate 62 = .ok (.iload_n 3, 1) := by decide +kernel
theorem dX5_rotate_63 : decode cX5_rotate 63 = .ok (.iadd, 1) := by decide +kernel
theorem dX5_rotate_64 : decode cX5_rotate 64 = .ok (.aload_n 0, 1) := by decide +kernel
theorem dX5_rotate_65 : decode cX5_rotate 65 = .ok (.getfield 14, 3) := by decide +kernel
theorem dX5_rotate_68 : decode cX5_rotate 68 = .ok (.getfield 26, 3) := by decide +kernel
theorem dX5_rotate_71 : decode cX5_rotate 71 = .ok (.irem, 1) := by decide +kernel
theorem dX5_rotate_72 : decode cX5_rotate 72 = .ok (.iaload, 1) := by decide +kernel
theorem dX5_rotate_73 : decode cX5_rotate 73 = .ok (.invokevirtual 38, 3) := by decide +kernel
theorem dX5_rotate_76 : decode cX5_rotate 76 = .ok (.pop, 1) := by decide +kernel
theorem dX5_rotate_77 : decode cX5_rotate 77 = .ok (.iinc 3 1, 3) := by decide +kernel
theorem dX5_rotate_80 : decode cX5_rotate 80 = .ok (.goto (-41), 3) := by decide +kernel
theorem dX5_rotate_83 : decode cX5_rotate 83 = .ok (.aload_n 0, 1) := by decide +kernel
theorem dX5_rotate_84 : decode cX5_rotate 84 = .ok (.getfield 14, 3) := by decide +kernel
theorem dX5_rotate_87 : decode cX5_rotate 87 = .ok (.aload_n 0, 1) := by decide +kernel
theorem dX5_rotate_88 : decode cX5_rotate 88 = .ok (.getfield 20, 3) := by decide +kernel
theorem dX5_rotate_91 : decode cX5_rotate 91 = .ok (.invokevirtual 41, 3) := by decide +kernel
theorem dX5_rotate_94 : decode cX5_rotate 94 = .ok (.return_, 1) := by decide +kernel
theorem dX5_firstDivisorOf_0 : decode cX5_firstDivisorOf 0 = .ok (.iconst 0, 1) := by decide +kernel
theorem dX5_firstDivisorOf_1 : decode cX5_firstDivisorOf 1 = .ok (.istore_n 2, 1) := by decide +kernel
theorem dX5_firstDivisorOf_2 : decode cX5_firstDivisorOf 2 = .ok (.iload_n 2, 1) := by decide +kernel
theorem dX5_firstDivisorOf_3 : decode cX5_firstDivisorOf 3 = .ok (.aload_n 0, 1) := by decide +kernel
theorem dX5_firstDivisorOf_4 : decode cX5_firstDivisorOf 4 = .ok (.getfield 14, 3) := by decide +kernel
theorem dX5_firstDivisorOf_7 : decode cX5_firstDivisorOf 7 = .ok (.getfield 26, 3) := by decide +kernel
theorem dX5_firstDivisorOf_10 : decode cX5_firstDivisorOf 10 = .ok (.if_icmp .ge 27, 3) := by decide +kernel
theorem dX5_firstDivisorOf_13 : decode cX5_firstDivisorOf 13 = .ok (.aload_n 0, 1) := by decide +kernel
theorem dX5_firstDivisorOf_14 : decode cX5_firstDivisorOf 14 = .ok (.getfield 14, 3) := by decide +kernel
theorem dX5_firstDivisorOf_17 : decode cX5_firstDivisorOf 17 = .ok (.getfield 34, 3) := by decide +kernel
theorem dX5_firstDivisorOf_20 : decode cX5_firstDivisorOf 20 = .ok (.iload_n 2, 1) := by decide +kernel
theorem dX5_firstDivisorOf_21 : decode cX5_firstDivisorOf 21 = .ok (.iaload, 1) := by decide +kernel
theorem dX5_firstDivisorOf_22 : decode cX5_firstDivisorOf 22 = .ok (.iload_n 1, 1) := by decide +kernel
theorem dX5_firstDivisorOf_23 : decode cX5_firstDivisorOf 23 = .ok (.invokestatic 45, 3) := by decide +kernel
theorem dX5_firstDivisorOf_26 : decode cX5_firstDivisorOf 26 = .ok (.ifCond .eq 5, 3) := by decide +kernel
theorem dX5_firstDivisorOf_29 : decode cX5_firstDivisorOf 29 = .ok (.iload_n 2, 1) := by decide +kernel
theorem dX5_firstDivisorOf_30 : decode cX5_firstDivisorOf 30 = .ok (.ireturn, 1) := by decide +kernel
theorem dX5_firstDivisorOf_31 : decode cX5_firstDivisorOf 31 = .ok (.iinc 2 1, 3) := by decide +kernel
theorem dX5_firstDivisorOf_34 : decode cX5_firstDivisorOf 34 = .ok (.goto (-32), 3) := by decide +kernel
theorem dX5_firstDivisorOf_37 : decode cX5_firstDivisorOf 37 = .ok (.bipush (-2), 2) := by decide +kernel
theorem dX5_firstDivisorOf_39 : decode cX5_firstDivisorOf 39 = .ok (.ireturn, 1) := by decide +kernel
theorem dX5_greatestExponentOf_0 : decode cX5_greatestExponentOf 0 = .ok (.iconst 0, 1) := by decide +kernel
theorem dX5_greatestExponentOf_1 : decode cX5_greatestExponentOf 1 = .ok (.istore_n 2, 1) := by decide +kernel
theorem dX5_greatestExponentOf_2 : decode cX5_greatestExponentOf 2 = .ok (.iconst 0, 1) := by decide +kernel
theorem dX5_greatestExponentOf_3 : decode cX5_greatestExponentOf 3 = .ok (.istore_n 3, 1) := by decide +kernel
theorem dX5_greatestExponentOf_4 : decode cX5_greatestExponentOf 4 = .ok (.iload_n 3, 1) := by decide +kernel
theorem dX5_greatestExponentOf_5 : decode cX5_greatestExponentOf 5 = .ok (.aload_n 0, 1) := by decide +kernel
theorem dX5_greatestExponentOf_6 : decode cX5_greatestExponentOf 6 = .ok (.getfield 14, 3) := by decide +kernel
theorem dX5_greatestExponentOf_9 : decode cX5_greatestExponentOf 9 = .ok (.getfield 26, 3) := by decide +kernel
theorem dX5_greatestExponentOf_12 : decode cX5_greatestExponentOf 12 = .ok (.if_icmp .ge 27, 3) := by decide +kernel
theorem dX5_greatestExponentOf_15 : decode cX5_greatestExponentOf 15 = .ok (.iload_n 2, 1) := by decide +kernel
theorem dX5_greatestExponentOf_16 : decode cX5_greatestExponentOf 16 = .ok (.aload_n 0, 1) := by decide +kernel
theorem dX5_greatestExponentOf_17 : decode cX5_greatestExponentOf 17 = .ok (.getfield 14, 3) := by decide +kernel
theorem dX5_greatestExponentOf_20 : decode cX5_greatestExponentOf 20 = .ok (.getfield 34, 3) := by decide +kernel
theorem dX5_greatestExponentOf_23 : decode cX5_greatestExponentOf 23 = .ok (.iload_n 3, 1) := by decide +kernel
theorem dX5_greatestExponentOf_24 : decode cX5_greatestExponentOf 24 = .ok (.iaload, 1) := by decide +kernel
theorem dX5_greatestExponentOf_25 : decode cX5_greatestExponentOf 25 = .ok (.iload_n 1, 1) := by decide +kernel
theorem dX5_greatestExponentOf_26 : decode cX5_greatestExponentOf 26 = .ok (.invokestatic 51, 3) := by decide +kernel
theorem dX5_greatestExponentOf_29 : decode cX5_greatestExponentOf 29 = .ok (.invokestatic 63, 3) := by decide +kernel
theorem dX5_greatestExponentOf_32 : decode cX5_greatestExponentOf 32 = .ok (.istore_n 2, 1) := by decide +kernel
theorem dX5_greatestExponentOf_33 : decode cX5_greatestExponentOf 33 = .ok (.iinc 3 1, 3) := by decide +kernel
theorem dX5_greatestExponentOf_36 : decode cX5_greatestExponentOf 36 = .ok (.goto (-32), 3) := by decide +kernel
theorem dX5_greatestExponentOf_39 : decode cX5_greatestExponentOf 39 = .ok (.iload_n 2, 1) := by decide +kernel
theorem dX5_greatestExponentOf_40 : decode cX5_greatestExponentOf 40 = .ok (.ireturn, 1) := by decide +kernel
theorem dX5_polarizedTotal_0 : decode cX5_polarizedTotal 0 = .ok (.iconst 0, 1) := by decide +kernel
theorem dX5_polarizedTotal_1 : decode cX5_polarizedTotal 1 = .ok (.istore_n 1, 1) := by decide +kernel
theorem dX5_polarizedTotal_2 : decode cX5_polarizedTotal 2 = .ok (.iconst 0, 1) := by decide +kernel
theorem dX5_polarizedTotal_3 : decode cX5_polarizedTotal 3 = .ok (.istore_n 2, 1) := by decide +kernel
theorem dX5_polarizedTotal_4 : decode cX5_polarizedTotal 4 = .ok (.iload_n 2, 1) := by decide +kernel
theorem dX5_polarizedTotal_5 : decode cX5_polarizedTotal 5 = .ok (.bipush 7, 2) := by decide +kernel
theorem dX5_polarizedTotal_7 : decode cX5_polarizedTotal 7 = .ok (.if_icmp .ge 17, 3) := by decide +kernel
theorem dX5_polarizedTotal_10 : decode cX5_polarizedTotal 10 = .ok (.iload_n 1, 1) := by decide +kernel
theorem dX5_polarizedTotal_11 : decode cX5_polarizedTotal 11 = .ok (.aload_n 0, 1) := by decide +kernel
theorem dX5_polarizedTotal_12 : decode cX5_polarizedTotal 12 = .ok (.iload_n 2, 1) := by decide +kernel
theorem dX5_polarizedTotal_13 : decode cX5_polarizedTotal 13 = .ok (.invokevirtual 68, 3) := by decide +kernel
theorem dX5_polarizedTotal_16 : decode cX5_polarizedTotal 16 = .ok (.iadd, 1) := by decide +kernel
theorem dX5_polarizedTotal_17 : decode cX5_polarizedTotal 17 = .ok (.istore_n 1, 1) := by decide +kernel
theorem dX5_polarizedTotal_18 : decode cX5_polarizedTotal 18 = .ok (.iinc 2 1, 3) := by decide +kernel
theorem dX5_polarizedTotal_21 : decode cX5_polarizedTotal 21 = .ok (.goto (-17), 3) := by decide +kernel
theorem dX5_polarizedTotal_24 : decode cX5_polarizedTotal 24 = .ok (.iload_n 1, 1) := by decide +kernel
theorem dX5_polarizedTotal_25 : decode cX5_polarizedTotal 25 = .ok (.ireturn, 1) := by decide +kernel
theorem dX5_polarizationOf_0 : decode cX5_polarizationOf 0 = .ok (.iconst 0, 1) := by decide +kernel
theorem dX5_polarizationOf_1 : decode cX5_polarizationOf 1 = .ok (.istore_n 2, 1) := by decide +kernel
theorem dX5_polarizationOf_2 : decode cX5_polarizationOf 2 = .ok (.iconst 0, 1) := by decide +kernel
theorem dX5_polarizationOf_3 : decode cX5_polarizationOf 3 = .ok (.istore_n 3, 1) := by decide +kernel
theorem dX5_polarizationOf_4 : decode cX5_polarizationOf 4 = .ok (.iconst 0, 1) := by decide +kernel
theorem dX5_polarizationOf_5 : decode cX5_polarizationOf 5 = .ok (.istore 4, 2) := by decide +kernel
theorem dX5_polarizationOf_7 : decode cX5_polarizationOf 7 = .ok (.iload 4, 2) := by decide +kernel
theorem dX5_polarizationOf_9 : decode cX5_polarizationOf 9 = .ok (.bipush 7, 2) := by decide +kernel
theorem dX5_polarizationOf_11 : decode cX5_polarizationOf 11 = .ok (.if_icmp .ge 45, 3) := by decide +kernel
theorem dX5_polarizationOf_14 : decode cX5_polarizationOf 14 = .ok (.iconst 1, 1) := by decide +kernel
theorem dX5_polarizationOf_15 : decode cX5_polarizationOf 15 = .ok (.aload_n 0, 1) := by decide +kernel
theorem dX5_polarizationOf_16 : decode cX5_polarizationOf 16 = .ok (.getfield 14, 3) := by decide +kernel
theorem dX5_polarizationOf_19 : decode cX5_polarizationOf 19 = .ok (.getfield 34, 3) := by decide +kernel
theorem dX5_polarizationOf_22 : decode cX5_polarizationOf 22 = .ok (.iload_n 1, 1) := by decide +kernel
theorem dX5_polarizationOf_23 : decode cX5_polarizationOf 23 = .ok (.iaload, 1) := by decide +kernel
theorem dX5_polarizationOf_24 : decode cX5_polarizationOf 24 = .ok (.iload 4, 2) := by decide +kernel
theorem dX5_polarizationOf_26 : decode cX5_polarizationOf 26 = .ok (.invokestatic 51, 3) := by decide +kernel
theorem dX5_polarizationOf_29 : decode cX5_polarizationOf 29 = .ok (.ishl, 1) := by decide +kernel
theorem dX5_polarizationOf_30 : decode cX5_polarizationOf 30 = .ok (.iconst 1, 1) := by decide +kernel
theorem dX5_polarizationOf_31 : decode cX5_polarizationOf 31 = .ok (.isub, 1) := by decide +kernel
theorem dX5_polarizationOf_32 : decode cX5_polarizationOf 32 = .ok (.istore 5, 2) := by decide +kernel
theorem dX5_polarizationOf_34 : decode cX5_polarizationOf 34 = .ok (.iload_n 2, 1) := by decide +kernel
theorem dX5_polarizationOf_35 : decode cX5_polarizationOf 35 = .ok (.iload 5, 2) := by decide +kernel
theorem dX5_polarizationOf_37 : decode cX5_polarizationOf 37 = .ok (.iload_n 3, 1) := by decide +kernel
theorem dX5_polarizationOf_38 : decode cX5_polarizationOf 38 = .ok (.ishl, 1) := by decide +kernel
theorem dX5_polarizationOf_39 : decode cX5_polarizationOf 39 = .ok (.ior, 1) := by decide +kernel
theorem dX5_polarizationOf_40 : decode cX5_polarizationOf 40 = .ok (.istore_n 2, 1) := by decide +kernel
theorem dX5_polarizationOf_41 : decode cX5_polarizationOf 41 = .ok (.iload_n 3, 1) := by decide +kernel
theorem dX5_polarizationOf_42 : decode cX5_polarizationOf 42 = .ok (.aload_n 0, 1) := by decide +kernel
theorem dX5_polarizationOf_43 : decode cX5_polarizationOf 43 = .ok (.iload 4, 2) := by decide +kernel
theorem dX5_polarizationOf_45 : decode cX5_polarizationOf 45 = .ok (.invokevirtual 68, 3) := by decide +kernel
theorem dX5_polarizationOf_48 : decode cX5_polarizationOf 48 = .ok (.iadd, 1) := by decide +kernel
theorem dX5_polarizationOf_49 : decode cX5_polarizationOf 49 = .ok (.istore_n 3, 1) := by decide +kernel
theorem dX5_polarizationOf_50 : decode cX5_polarizationOf 50 = .ok (.iinc 4 1, 3) := by decide +kernel
theorem dX5_polarizationOf_53 : decode cX5_polarizationOf 53 = .ok (.goto (-46), 3) := by decide +kernel
theorem dX5_polarizationOf_56 : decode cX5_polarizationOf 56 = .ok (.iload_n 2, 1) := by decide +kernel
theorem dX5_polarizationOf_57 : decode cX5_polarizationOf 57 = .ok (.ireturn, 1) := by decide +kernel
theorem dX5_smallestHittingSize_0 : decode cX5_smallestHittingSize 0 = .ok (.bipush 8, 2) := by decide +kernel
theorem dX5_smallestHittingSize_2 : decode cX5_smallestHittingSize 2 = .ok (.istore_n 1, 1) := by decide +kernel
theorem dX5_smallestHittingSize_3 : decode cX5_smallestHittingSize 3 = .ok (.iconst 0, 1) := by decide +kernel
theorem dX5_smallestHittingSize_4 : decode cX5_smallestHittingSize 4 = .ok (.istore_n 2, 1) := by decide +kernel
theorem dX5_smallestHittingSize_5 : decode cX5_smallestHittingSize 5 = .ok (.iload_n 2, 1) := by decide +kernel
theorem dX5_smallestHittingSize_6 : decode cX5_smallestHittingSize 6 = .ok (.sipush 128, 3) := by decide +kernel
theorem dX5_smallestHittingSize_9 : decode cX5_smallestHittingSize 9 = .ok (.if_icmp .ge 33, 3) := by decide +kernel
theorem dX5_smallestHittingSize_12 : decode cX5_smallestHittingSize 12 = .ok (.iload_n 2, 1) := by decide +kernel
theorem dX5_smallestHittingSize_13 : decode cX5_smallestHittingSize 13 = .ok (.invokestatic 71, 3) := by decide +kernel
theorem dX5_smallestHittingSize_16 : decode cX5_smallestHittingSize 16 = .ok (.iload_n 1, 1) := by decide +kernel
theorem dX5_smallestHittingSize_17 : decode cX5_smallestHittingSize 17 = .ok (.if_icmp .ge 19, 3) := by decide +kernel
theorem dX5_smallestHittingSize_20 : decode cX5_smallestHittingSize 20 = .ok (.aload_n 0, 1) := by decide +kernel
theorem dX5_smallestHittingSize_21 : decode cX5_smallestHittingSize 21 = .ok (.iload_n 2, 1) := by decide +kernel
theorem dX5_smallestHittingSize_22 : decode cX5_smallestHittingSize 22 = .ok (.invokestatic 76, 3) := by decide +kernel
theorem dX5_smallestHittingSize_25 : decode cX5_smallestHittingSize 25 = .ok (.invokevirtual 79, 3) := by decide +kernel
theorem dX5_smallestHittingSize_28 : decode cX5_smallestHittingSize 28 = .ok (.ifCond .eq 8, 3) := by decide +kernel
theorem dX5_smallestHittingSize_31 : decode cX5_smallestHittingSize 31 = .ok (.iload_n 2, 1) := by decide +kernel
theorem dX5_smallestHittingSize_32 : decode cX5_smallestHittingSize 32 = .ok (.invokestatic 71, 3) := by decide +kernel
theorem dX5_smallestHittingSize_35 : decode cX5_smallestHittingSize 35 = .ok (.istore_n 1, 1) := by decide +kernel
theorem dX5_smallestHittingSize_36 : decode cX5_smallestHittingSize 36 = .ok (.iinc 2 1, 3) := by decide +kernel
theorem dX5_smallestHittingSize_39 : decode cX5_smallestHittingSize 39 = .ok (.goto (-34), 3) := by decide +kernel
theorem dX5_smallestHittingSize_42 : decode cX5_smallestHittingSize 42 = .ok (.iload_n 1, 1) := by decide +kernel
theorem dX5_smallestHittingSize_43 : decode cX5_smallestHittingSize 43 = .ok (.bipush 7, 2) := by decide +kernel
theorem dX5_smallestHittingSize_45 : decode cX5_smallestHittingSize 45 = .ok (.if_icmp .le 8, 3) := by decide +kernel
theorem dX5_smallestHittingSize_48 : decode cX5_smallestHittingSize 48 = .ok (.bipush (-2), 2) := by decide +kernel
theorem dX5_smallestHittingSize_50 : decode cX5_smallestHittingSize 50 = .ok (.goto 4, 3) := by decide +kernel
theorem dX5_smallestHittingSize_53 : decode cX5_smallestHittingSize 53 = .ok (.iload_n 1, 1) := by decide +kernel
theorem dX5_smallestHittingSize_54 : decode cX5_smallestHittingSize 54 = .ok (.ireturn, 1) := by decide +kernel
theorem dX5_hitsAll_0 : decode cX5_hitsAll 0 = .ok (.iconst 0, 1) := by decide +kernel
theorem dX5_hitsAll_1 : decode cX5_hitsAll 1 = .ok (.istore_n 2, 1) := by decide +kernel
theorem dX5_hitsAll_2 : decode cX5_hitsAll 2 = .ok (.iload_n 2, 1) := by decide +kernel
theorem dX5_hitsAll_3 : decode cX5_hitsAll 3 = .ok (.aload_n 0, 1) := by decide +kernel
theorem dX5_hitsAll_4 : decode cX5_hitsAll 4 = .ok (.getfield 14, 3) := by decide +kernel
theorem dX5_hitsAll_7 : decode cX5_hitsAll 7 = .ok (.getfield 26, 3) := by decide +kernel
theorem dX5_hitsAll_10 : decode cX5_hitsAll 10 = .ok (.if_icmp .ge 25, 3) := by decide +kernel
theorem dX5_hitsAll_13 : decode cX5_hitsAll 13 = .ok (.aload_n 0, 1) := by decide +kernel
theorem dX5_hitsAll_14 : decode cX5_hitsAll 14 = .ok (.getfield 14, 3) := by decide +kernel
theorem dX5_hitsAll_17 : decode cX5_hitsAll 17 = .ok (.getfield 34, 3) := by decide +kernel
theorem dX5_hitsAll_20 : decode cX5_hitsAll 20 = .ok (.iload_n 2, 1) := by decide +kernel
theorem dX5_hitsAll_21 : decode cX5_hitsAll 21 = .ok (.iaload, 1) := by decide +kernel
theorem dX5_hitsAll_22 : decode cX5_hitsAll 22 = .ok (.iload_n 1, 1) := by decide +kernel
theorem dX5_hitsAll_23 : decode cX5_hitsAll 23 = .ok (.iand, 1) := by decide +kernel
theorem dX5_hitsAll_24 : decode cX5_hitsAll 24 = .ok (.ifCond .ne 5, 3) := by decide +kernel
theorem dX5_hitsAll_27 : decode cX5_hitsAll 27 = .ok (.iconst 0, 1) := by decide +kernel
theorem dX5_hitsAll_28 : decode cX5_hitsAll 28 = .ok (.ireturn, 1) := by decide +kernel
theorem dX5_hitsAll_29 : decode cX5_hitsAll 29 = .ok (.iinc 2 1, 3) := by decide +kernel
theorem dX5_hitsAll_32 : decode cX5_hitsAll 32 = .ok (.goto (-30), 3) := by decide +kernel
theorem dX5_hitsAll_35 : decode cX5_hitsAll 35 = .ok (.iconst 1, 1) := by decide +kernel
theorem dX5_hitsAll_36 : decode cX5_hitsAll 36 = .ok (.ireturn, 1) := by decide +kernel
theorem dX5_formatted_0 : decode cX5_formatted 0 = .ok (.aload_n 0, 1) := by decide +kernel
theorem dX5_formatted_1 : decode cX5_formatted 1 = .ok (.getfield 23, 3) := by decide +kernel
theorem dX5_formatted_4 : decode cX5_formatted 4 = .ok (.iconst 0, 1) := by decide +kernel
theorem dX5_formatted_5 : decode cX5_formatted 5 = .ok (.putfield 26, 3) := by decide +kernel
theorem dX5_formatted_8 : decode cX5_formatted 8 = .ok (.iconst 0, 1) := by decide +kernel
theorem dX5_formatted_9 : decode cX5_formatted 9 = .ok (.istore_n 1, 1) := by decide +kernel
theorem dX5_formatted_10 : decode cX5_formatted 10 = .ok (.iload_n 1, 1) := by decide +kernel
theorem dX5_formatted_11 : decode cX5_formatted 11 = .ok (.aload_n 0, 1) := by decide +kernel
theorem dX5_formatted_12 : decode cX5_formatted 12 = .ok (.getfield 14, 3) := by decide +kernel
theorem dX5_formatted_15 : decode cX5_formatted 15 = .ok (.getfield 26, 3) := by decide +kernel
theorem dX5_formatted_18 : decode cX5_formatted 18 = .ok (.if_icmp .ge 36, 3) := by decide +kernel
theorem dX5_formatted_21 : decode cX5_formatted 21 = .ok (.iload_n 1, 1) := by decide +kernel
theorem dX5_formatted_22 : decode cX5_formatted 22 = .ok (.ifCond .le 13, 3) := by decide +kernel
theorem dX5_formatted_25 : decode cX5_formatted 25 = .ok (.aload_n 0, 1) := by decide +kernel
theorem dX5_formatted_26 : decode cX5_formatted 26 = .ok (.getfield 23, 3) := by decide +kernel
theorem dX5_formatted_29 : decode cX5_formatted 29 = .ok (.bipush 44, 2) := by decide +kernel
theorem dX5_formatted_31 : decode cX5_formatted 31 = .ok (.invokevirtual 38, 3) := by decide +kernel
theorem dX5_formatted_34 : decode cX5_formatted 34 = .ok (.pop, 1) := by decide +kernel
theorem dX5_formatted_35 : decode cX5_formatted 35 = .ok (.aload_n 0, 1) := by decide +kernel
theorem dX5_formatted_36 : decode cX5_formatted 36 = .ok (.aload_n 0, 1) := by decide +kernel
theorem dX5_formatted_37 : decode cX5_formatted 37 = .ok (.getfield 14, 3) := by decide +kernel
theorem dX5_formatted_40 : decode cX5_formatted 40 = .ok (.getfield 34, 3) := by decide +kernel
theorem dX5_formatted_43 : decode cX5_formatted 43 = .ok (.iload_n 1, 1) := by decide +kernel
theorem dX5_formatted_44 : decode cX5_formatted 44 = .ok (.iaload, 1) := by decide +kernel
theorem dX5_formatted_45 : decode cX5_formatted 45 = .ok (.invokevirtual 82, 3) := by decide +kernel
theorem dX5_formatted_48 : decode cX5_formatted 48 = .ok (.iinc 1 1, 3) := by decide +kernel
theorem dX5_formatted_51 : decode cX5_formatted 51 = .ok (.goto (-41), 3) := by decide +kernel
theorem dX5_formatted_54 : decode cX5_formatted 54 = .ok (.aload_n 0, 1) := by decide +kernel
theorem dX5_formatted_55 : decode cX5_formatted 55 = .ok (.getfield 23, 3) := by decide +kernel
theorem dX5_formatted_58 : decode cX5_formatted 58 = .ok (.areturn, 1) := by decide +kernel
theorem dX5_formatMonomial_0 : decode cX5_formatMonomial 0 = .ok (.iload_n 1, 1) := by decide +kernel
theorem dX5_formatMonomial_1 : decode cX5_formatMonomial 1 = .ok (.ifCond .ne 13, 3) := by decide +kernel
theorem dX5_formatMonomial_4 : decode cX5_formatMonomial 4 = .ok (.aload_n 0, 1) := by decide +kernel
theorem dX5_formatMonomial_5 : decode cX5_formatMonomial 5 = .ok (.getfield 23, 3) := by decide +kernel
theorem dX5_formatMonomial_8 : decode cX5_formatMonomial 8 = .ok (.bipush 49, 2) := by decide +kernel
theorem dX5_formatMonomial_10 : decode cX5_formatMonomial 10 = .ok (.invokevirtual 38, 3) := by decide +kernel
theorem dX5_formatMonomial_13 : decode cX5_formatMonomial 13 = .ok (.pop, 1) := by decide +kernel
theorem dX5_formatMonomial_14 : decode cX5_formatMonomial 14 = .ok (.iconst 0, 1) := by decide +kernel
theorem dX5_formatMonomial_15 : decode cX5_formatMonomial 15 = .ok (.istore_n 2, 1) := by decide +kernel
theorem dX5_formatMonomial_16 : decode cX5_formatMonomial 16 = .ok (.iload_n 2, 1) := by decide +kernel
theorem dX5_formatMonomial_17 : decode cX5_formatMonomial 17 = .ok (.bipush 7, 2) := by decide +kernel
theorem dX5_formatMonomial_19 : decode cX5_formatMonomial 19 = .ok (.if_icmp .ge 48, 3) := by decide +kernel
theorem dX5_formatMonomial_22 : decode cX5_formatMonomial 22 = .ok (.iload_n 1, 1) := by decide +kernel
theorem dX5_formatMonomial_23 : decode cX5_formatMonomial 23 = .ok (.iload_n 2, 1) := by decide +kernel
theorem dX5_formatMonomial_24 : decode cX5_formatMonomial 24 = .ok (.invokestatic 51, 3) := by decide +kernel
theorem dX5_formatMonomial_27 : decode cX5_formatMonomial 27 = .ok (.istore_n 3, 1) := by decide +kernel
theorem dX5_formatMonomial_28 : decode cX5_formatMonomial 28 = .ok (.iload_n 3, 1) := by decide +kernel
theorem dX5_formatMonomial_29 : decode cX5_formatMonomial 29 = .ok (.ifCond .le 15, 3) := by decide +kernel
theorem dX5_formatMonomial_32 : decode cX5_formatMonomial 32 = .ok (.aload_n 0, 1) := by decide +kernel
theorem dX5_formatMonomial_33 : decode cX5_formatMonomial 33 = .ok (.getfield 23, 3) := by decide +kernel
theorem dX5_formatMonomial_36 : decode cX5_formatMonomial 36 = .ok (.bipush 97, 2) := by decide +kernel
theorem dX5_formatMonomial_38 : decode cX5_formatMonomial 38 = .ok (.iload_n 2, 1) := by decide +kernel
theorem dX5_formatMonomial_39 : decode cX5_formatMonomial 39 = .ok (.iadd, 1) := by decide +kernel
theorem dX5_formatMonomial_40 : decode cX5_formatMonomial 40 = .ok (.invokevirtual 38, 3) := by decide +kernel
theorem dX5_formatMonomial_43 : decode cX5_formatMonomial 43 = .ok (.pop, 1) := by decide +kernel
theorem dX5_formatMonomial_44 : decode cX5_formatMonomial 44 = .ok (.iload_n 3, 1) := by decide +kernel
theorem dX5_formatMonomial_45 : decode cX5_formatMonomial 45 = .ok (.iconst 1, 1) := by decide +kernel
theorem dX5_formatMonomial_46 : decode cX5_formatMonomial 46 = .ok (.if_icmp .le 15, 3) := by decide +kernel
theorem dX5_formatMonomial_49 : decode cX5_formatMonomial 49 = .ok (.aload_n 0, 1) := by decide +kernel
theorem dX5_formatMonomial_50 : decode cX5_formatMonomial 50 = .ok (.getfield 23, 3) := by decide +kernel
theorem dX5_formatMonomial_53 : decode cX5_formatMonomial 53 = .ok (.bipush 48, 2) := by decide +kernel
theorem dX5_formatMonomial_55 : decode cX5_formatMonomial 55 = .ok (.iload_n 3, 1) := by decide +kernel
theorem dX5_formatMonomial_56 : decode cX5_formatMonomial 56 = .ok (.iadd, 1) := by decide +kernel
theorem dX5_formatMonomial_57 : decode cX5_formatMonomial 57 = .ok (.invokevirtual 38, 3) := by decide +kernel
theorem dX5_formatMonomial_60 : decode cX5_formatMonomial 60 = .ok (.pop, 1) := by decide +kernel
theorem dX5_formatMonomial_61 : decode cX5_formatMonomial 61 = .ok (.iinc 2 1, 3) := by decide +kernel
theorem dX5_formatMonomial_64 : decode cX5_formatMonomial 64 = .ok (.goto (-48), 3) := by decide +kernel
theorem dX5_formatMonomial_67 : decode cX5_formatMonomial 67 = .ok (.return_, 1) := by decide +kernel
theorem dX6_unit_0 : decode cX6_unit 0 = .ok (.iconst 1, 1) := by decide +kernel
theorem dX6_unit_1 : decode cX6_unit 1 = .ok (.iconst 2, 1) := by decide +kernel
theorem dX6_unit_2 : decode cX6_unit 2 = .ok (.iload_n 0, 1) := by decide +kernel
theorem dX6_unit_3 : decode cX6_unit 3 = .ok (.imul, 1) := by decide +kernel
theorem dX6_unit_4 : decode cX6_unit 4 = .ok (.ishl, 1) := by decide +kernel
theorem dX6_unit_5 : decode cX6_unit 5 = .ok (.ireturn, 1) := by decide +kernel
theorem dX6_exponentOf_0 : decode cX6_exponentOf 0 = .ok (.iload_n 0, 1) := by decide +kernel
theorem dX6_exponentOf_1 : decode cX6_exponentOf 1 = .ok (.iconst 2, 1) := by decide +kernel
theorem dX6_exponentOf_2 : decode cX6_exponentOf 2 = .ok (.iload_n 1, 1) := by decide +kernel
theorem dX6_exponentOf_3 : decode cX6_exponentOf 3 = .ok (.imul, 1) := by decide +kernel
theorem dX6_exponentOf_4 : decode cX6_exponentOf 4 = .ok (.ishr, 1) := by decide +kernel
theorem dX6_exponentOf_5 : decode cX6_exponentOf 5 = .ok (.iconst 3, 1) := by decide +kernel
theorem dX6_exponentOf_6 : decode cX6_exponentOf 6 = .ok (.iand, 1) := by decide +kernel
theorem dX6_exponentOf_7 : decode cX6_exponentOf 7 = .ok (.ireturn, 1) := by decide +kernel
theorem dX6_degreeOf_0 : decode cX6_degreeOf 0 = .ok (.iload_n 0, 1) := by decide +kernel
theorem dX6_degreeOf_1 : decode cX6_degreeOf 1 = .ok (.invokestatic 11, 3) := by decide +kernel
theorem dX6_degreeOf_4 : decode cX6_degreeOf 4 = .ok (.iload_n 0, 1) := by decide +kernel
theorem dX6_degreeOf_5 : decode cX6_degreeOf 5 = .ok (.iconst 1, 1) := by decide +kernel
theorem dX6_degreeOf_6 : decode cX6_degreeOf 6 = .ok (.ishr, 1) := by decide +kernel
theorem dX6_degreeOf_7 : decode cX6_degreeOf 7 = .ok (.sipush 5461, 3) := by decide +kernel
theorem dX6_degreeOf_10 : decode cX6_degreeOf 10 = .ok (.iand, 1) := by decide +kernel
theorem dX6_degreeOf_11 : decode cX6_degreeOf 11 = .ok (.invokestatic 11, 3) := by decide +kernel
theorem dX6_degreeOf_14 : decode cX6_degreeOf 14 = .ok (.iadd, 1) := by decide +kernel
theorem dX6_degreeOf_15 : decode cX6_degreeOf 15 = .ok (.ireturn, 1) := by decide +kernel
theorem dX6_exceeding_0 : decode cX6_exceeding 0 = .ok (.iload_n 0, 1) := by decide +kernel
theorem dX6_exceeding_1 : decode cX6_exceeding 1 = .ok (.iconst 1, 1) := by decide +kernel
theorem dX6_exceeding_2 : decode cX6_exceeding 2 = .ok (.ishr, 1) := by decide +kernel
theorem dX6_exceeding_3 : decode cX6_exceeding 3 = .ok (.sipush 5461, 3) := by decide +kernel
theorem dX6_exceeding_6 : decode cX6_exceeding 6 = .ok (.iand, 1) := by decide +kernel
theorem dX6_exceeding_7 : decode cX6_exceeding 7 = .ok (.istore_n 2, 1) := by decide +kernel
theorem dX6_exceeding_8 : decode cX6_exceeding 8 = .ok (.iload_n 1, 1) := by decide +kernel
theorem dX6_exceeding_9 : decode cX6_exceeding 9 = .ok (.iconst 1, 1) := by decide +kernel
theorem dX6_exceeding_10 : decode cX6_exceeding 10 = .ok (.ishr, 1) := by decide +kernel
theorem dX6_exceeding_11 : decode cX6_exceeding 11 = .ok (.sipush 5461, 3) := by decide +kernel
theorem dX6_exceeding_14 : decode cX6_exceeding 14 = .ok (.iand, 1) := by decide +kernel
theorem dX6_exceeding_15 : decode cX6_exceeding 15 = .ok (.istore_n 3, 1) := by decide +kernel
theorem dX6_exceeding_16 : decode cX6_exceeding 16 = .ok (.iload_n 2, 1) := by decide +kernel
theorem dX6_exceeding_17 : decode cX6_exceeding 17 = .ok (.iload_n 3, 1) := by decide +kernel
theorem dX6_exceeding_18 : decode cX6_exceeding 18 = .ok (.iconst (-1), 1) := by decide +kernel
theorem dX6_exceeding_19 : decode cX6_exceeding 19 = .ok (.ixor, 1) := by decide +kernel
theorem dX6_exceeding_20 : decode cX6_exceeding 20 = .ok (.iand, 1) := by decide +kernel
theorem dX6_exceeding_21 : decode cX6_exceeding 21 = .ok (.istore 4, 2) := by decide +kernel
theorem dX6_exceeding_23 : decode cX6_exceeding 23 = .ok (.iload_n 0, 1) := by decide +kernel
theorem dX6_exceeding_24 : decode cX6_exceeding 24 = .ok (.iload_n 1, 1) := by decide +kernel
theorem dX6_exceeding_25 : decode cX6_exceeding 25 = .ok (.iconst (-1), 1) := by decide +kernel
theorem dX6_exceeding_26 : decode cX6_exceeding 26 = .ok (.ixor, 1) := by decide +kernel
theorem dX6_exceeding_27 : decode cX6_exceeding 27 = .ok (.iand, 1) := by decide +kernel
theorem dX6_exceeding_28 : decode cX6_exceeding 28 = .ok (.iload_n 2, 1) := by decide +kernel
theorem dX6_exceeding_29 : decode cX6_exceeding 29 = .ok (.iload_n 3, 1) := by decide +kernel
theorem dX6_exceeding_30 : decode cX6_exceeding 30 = .ok (.ixor, 1) := by decide +kernel
theorem dX6_exceeding_31 : decode cX6_exceeding 31 = .ok (.iconst (-1), 1) := by decide +kernel
theorem dX6_exceeding_32 : decode cX6_exceeding 32 = .ok (.ixor, 1) := by decide +kernel
theorem dX6_exceeding_33 : decode cX6_exceeding 33 = .ok (.iand, 1) := by decide +kernel
theorem dX6_exceeding_34 : decode cX6_exceeding 34 = .ok (.sipush 5461, 3) := by decide +kernel
theorem dX6_exceeding_37 : decode cX6_exceeding 37 = .ok (.iand, 1) := by decide +kernel
theorem dX6_exceeding_38 : decode cX6_exceeding 38 = .ok (.istore 5, 2) := by decide +kernel
theorem dX6_exceeding_40 : decode cX6_exceeding 40 = .ok (.iload 4, 2) := by decide +kernel
theorem dX6_exceeding_42 : decode cX6_exceeding 42 = .ok (.iload 5, 2) := by decide +kernel
theorem dX6_exceeding_44 : decode cX6_exceeding 44 = .ok (.ior, 1) := by decide +kernel
theorem dX6_exceeding_45 : decode cX6_exceeding 45 = .ok (.ireturn, 1) := by decide +kernel
theorem dX6_divides_0 : decode cX6_divides 0 = .ok (.iload_n 0, 1) := by decide +kernel
theorem dX6_divides_1 : decode cX6_divides 1 = .ok (.iload_n 1, 1) := by decide +kernel
theorem dX6_divides_2 : decode cX6_divides 2 = .ok (.invokestatic 17, 3) := by decide +kernel
theorem dX6_divides_5 : decode cX6_divides 5 = .ok (.ifCond .ne 7, 3) := by decide +kernel
theorem dX6_divides_8 : decode cX6_divides 8 = .ok (.iconst 1, 1) := by decide +kernel
theorem dX6_divides_9 : decode cX6_divides 9 = .ok (.goto 4, 3) := by decide +kernel
theorem dX6_divides_12 : decode cX6_divides 12 = .ok (.iconst 0, 1) := by decide +kernel
theorem dX6_divides_13 : decode cX6_divides 13 = .ok (.ireturn, 1) := by decide +kernel
theorem dX6_commonDivisor_0 : decode cX6_commonDivisor 0 = .ok (.iconst 3, 1) := by decide +kernel
theorem dX6_commonDivisor_1 : decode cX6_commonDivisor 1 = .ok (.iload_n 0, 1) := by decide +kernel
theorem dX6_commonDivisor_2 : decode cX6_commonDivisor 2 = .ok (.iload_n 1, 1) := by decide +kernel
theorem dX6_commonDivisor_3 : decode cX6_commonDivisor 3 = .ok (.invokestatic 17, 3) := by decide +kernel
theorem dX6_commonDivisor_6 : decode cX6_commonDivisor 6 = .ok (.imul, 1) := by decide +kernel
theorem dX6_commonDivisor_7 : decode cX6_commonDivisor 7 = .ok (.istore_n 2, 1) := by decide +kernel
theorem dX6_commonDivisor_8 : decode cX6_commonDivisor 8 = .ok (.iload_n 0, 1) := by decide +kernel
theorem dX6_commonDivisor_9 : decode cX6_commonDivisor 9 = .ok (.iload_n 2, 1) := by decide +kernel
theorem dX6_commonDivisor_10 : decode cX6_commonDivisor 10 = .ok (.iconst (-1), 1) := by decide +kernel
theorem dX6_commonDivisor_11 : decode cX6_commonDivisor 11 = .ok (.ixor, 1) := by decide +kernel
theorem dX6_commonDivisor_12 : decode cX6_commonDivisor 12 = .ok (.iand, 1) := by decide +kernel
theorem dX6_commonDivisor_13 : decode cX6_commonDivisor 13 = .ok (.iload_n 1, 1) := by decide +kernel
theorem dX6_commonDivisor_14 : decode cX6_commonDivisor 14 = .ok (.iload_n 2, 1) := by decide +kernel
theorem dX6_commonDivisor_15 : decode cX6_commonDivisor 15 = .ok (.iand, 1) := by decide +kernel
theorem dX6_commonDivisor_16 : decode cX6_commonDivisor 16 = .ok (.ior, 1) := by decide +kernel
theorem dX6_commonDivisor_17 : decode cX6_commonDivisor 17 = .ok (.ireturn, 1) := by decide +kernel
theorem dX6_supportOf_0 : decode cX6_supportOf 0 = .ok (.iconst 0, 1) := by decide +kernel
theorem dX6_supportOf_1 : decode cX6_supportOf 1 = .ok (.istore_n 1, 1) := by decide +kernel
theorem dX6_supportOf_2 : decode cX6_supportOf 2 = .ok (.iconst 0, 1) := by decide +kernel
theorem dX6_supportOf_3 : decode cX6_supportOf 3 = .ok (.istore_n 2, 1) := by decide +kernel
theorem dX6_supportOf_4 : decode cX6_supportOf 4 = .ok (.iload_n 2, 1) := by decide +kernel
theorem dX6_supportOf_5 : decode cX6_supportOf 5 = .ok (.bipush 7, 2) := by decide +kernel
theorem dX6_supportOf_7 : decode cX6_supportOf 7 = .ok (.if_icmp .ge 23, 3) := by decide +kernel
theorem dX6_supportOf_10 : decode cX6_supportOf 10 = .ok (.iload_n 0, 1) := by decide +kernel
theorem dX6_supportOf_11 : decode cX6_supportOf 11 = .ok (.iload_n 2, 1) := by decide +kernel
theorem dX6_supportOf_12 : decode cX6_supportOf 12 = .ok (.invokestatic 21, 3) := by decide +kernel
theorem dX6_supportOf_15 : decode cX6_supportOf 15 = .ok (.ifCond .le 9, 3) := by decide +kernel
theorem dX6_supportOf_18 : decode cX6_supportOf 18 = .ok (.iload_n 1, 1) := by decide +kernel
theorem dX6_supportOf_19 : decode cX6_supportOf 19 = .ok (.iconst 1, 1) := by decide +kernel
theorem dX6_supportOf_20 : decode cX6_supportOf 20 = .ok (.iload_n 2, 1) := by decide +kernel
theorem dX6_supportOf_21 : decode cX6_supportOf 21 = .ok (.ishl, 1) := by decide +kernel
theorem dX6_supportOf_22 : decode cX6_supportOf 22 = .ok (.ior, 1) := by decide +kernel
theorem dX6_supportOf_23 : decode cX6_supportOf 23 = .ok (.istore_n 1, 1) := by decide +kernel
theorem dX6_supportOf_24 : decode cX6_supportOf 24 = .ok (.iinc 2 1, 3) := by decide +kernel
theorem dX6_supportOf_27 : decode cX6_supportOf 27 = .ok (.goto (-23), 3) := by decide +kernel
theorem dX6_supportOf_30 : decode cX6_supportOf 30 = .ok (.iload_n 1, 1) := by decide +kernel
theorem dX6_supportOf_31 : decode cX6_supportOf 31 = .ok (.ireturn, 1) := by decide +kernel
theorem dX6_maskOf_0 : decode cX6_maskOf 0 = .ok (.iconst 0, 1) := by decide +kernel
theorem dX6_maskOf_1 : decode cX6_maskOf 1 = .ok (.istore_n 1, 1) := by decide +kernel
theorem dX6_maskOf_2 : decode cX6_maskOf 2 = .ok (.iconst 0, 1) := by decide +kernel
theorem dX6_maskOf_3 : decode cX6_maskOf 3 = .ok (.istore_n 2, 1) := by decide +kernel
theorem dX6_maskOf_4 : decode cX6_maskOf 4 = .ok (.iload_n 2, 1) := by decide +kernel
theorem dX6_maskOf_5 : decode cX6_maskOf 5 = .ok (.bipush 7, 2) := by decide +kernel
theorem dX6_maskOf_7 : decode cX6_maskOf 7 = .ok (.if_icmp .ge 24, 3) := by decide +kernel
theorem dX6_maskOf_10 : decode cX6_maskOf 10 = .ok (.iload_n 1, 1) := by decide +kernel
theorem dX6_maskOf_11 : decode cX6_maskOf 11 = .ok (.iload_n 0, 1) := by decide +kernel
theorem dX6_maskOf_12 : decode cX6_maskOf 12 = .ok (.iload_n 2, 1) := by decide +kernel
theorem dX6_maskOf_13 : decode cX6_maskOf 13 = .ok (.ishr, 1) := by decide +kernel
theorem dX6_maskOf_14 : decode cX6_maskOf 14 = .ok (.iconst 1, 1) := by decide +kernel
theorem dX6_maskOf_15 : decode cX6_maskOf 15 = .ok (.iand, 1) := by decide +kernel
theorem dX6_maskOf_16 : decode cX6_maskOf 16 = .ok (.iconst 3, 1) := by decide +kernel
theorem dX6_maskOf_17 : decode cX6_maskOf 17 = .ok (.imul, 1) := by decide +kernel
theorem dX6_maskOf_18 : decode cX6_maskOf 18 = .ok (.iload_n 2, 1) := by decide +kernel
theorem dX6_maskOf_19 : decode cX6_maskOf 19 = .ok (.invokestatic 24, 3) := by decide +kernel
theorem dX6_maskOf_22 : decode cX6_maskOf 22 = .ok (.imul, 1) := by decide +kernel
theorem dX6_maskOf_23 : decode cX6_maskOf 23 = .ok (.ior, 1) := by decide +kernel
theorem dX6_maskOf_24 : decode cX6_maskOf 24 = .ok (.istore_n 1, 1) := by decide +kernel
theorem dX6_maskOf_25 : decode cX6_maskOf 25 = .ok (.iinc 2 1, 3) := by decide +kernel
theorem dX6_maskOf_28 : decode cX6_maskOf 28 = .ok (.goto (-24), 3) := by decide +kernel
theorem dX6_maskOf_31 : decode cX6_maskOf 31 = .ok (.iload_n 1, 1) := by decide +kernel
theorem dX6_maskOf_32 : decode cX6_maskOf 32 = .ok (.ireturn, 1) := by decide +kernel
theorem dX7_init_0 : decode cX7_init 0 = .ok (.aload_n 0, 1) := by decide +kernel
theorem dX7_init_1 : decode cX7_init 1 = .ok (.invokespecial 3, 3) := by decide +kernel
theorem dX7_init_4 : decode cX7_init 4 = .ok (.aload_n 0, 1) := by decide +kernel
theorem dX7_init_5 : decode cX7_init 5 = .ok (.iload_n 1, 1) := by decide +kernel
theorem dX7_init_6 : decode cX7_init 6 = .ok (.iconst 0, 1) := by decide +kernel
theorem dX7_init_7 : decode cX7_init 7 = .ok (.invokestatic 9, 3) := by decide +kernel
theorem dX7_init_10 : decode cX7_init 10 = .ok (.newarray .int, 2) := by decide +kernel
theorem dX7_init_12 : decode cX7_init 12 = .ok (.putfield 15, 3) := by decide +kernel
theorem dX7_init_15 : decode cX7_init 15 = .ok (.aload_n 0, 1) := by decide +kernel
theorem dX7_init_16 : decode cX7_init 16 = .ok (.iconst 0, 1) := by decide +kernel
theorem dX7_init_17 : decode cX7_init 17 = .ok (.putfield 21, 3) := by decide +kernel
theorem dX7_init_20 : decode cX7_init 20 = .ok (.return_, 1) := by decide +kernel
theorem dX7_add_0 : decode cX7_add 0 = .ok (.aload_n 0, 1) := by decide +kernel
theorem dX7_add_1 : decode cX7_add 1 = .ok (.getfield 21, 3) := by decide +kernel
theorem dX7_add_4 : decode cX7_add 4 = .ok (.aload_n 0, 1) := by decide +kernel
theorem dX7_add_5 : decode cX7_add 5 = .ok (.getfield 15, 3) := by decide +kernel
theorem dX7_add_8 : decode cX7_add 8 = .ok (.arraylength, 1) := by decide +kernel
theorem dX7_add_9 : decode cX7_add 9 = .ok (.if_icmp .lt 5, 3) := by decide +kernel
theorem dX7_add_12 : decode cX7_add 12 = .ok (.iconst 0, 1) := by decide +kernel
theorem dX7_add_13 : decode cX7_add 13 = .ok (.ireturn, 1) := by decide +kernel
theorem dX7_add_14 : decode cX7_add 14 = .ok (.aload_n 0, 1) := by decide +kernel
theorem dX7_add_15 : decode cX7_add 15 = .ok (.getfield 15, 3) := by decide +kernel
theorem dX7_add_18 : decode cX7_add 18 = .ok (.aload_n 0, 1) := by decide +kernel
theorem dX7_add_19 : decode cX7_add 19 = .ok (.getfield 21, 3) := by decide +kernel
theorem dX7_add_22 : decode cX7_add 22 = .ok (.iload_n 1, 1) := by decide +kernel
theorem dX7_add_23 : decode cX7_add 23 = .ok (.iastore, 1) := by decide +kernel
theorem dX7_add_24 : decode cX7_add 24 = .ok (.aload_n 0, 1) := by decide +kernel
theorem dX7_add_25 : decode cX7_add 25 = .ok (.dup, 1) := by decide +kernel
theorem dX7_add_26 : decode cX7_add 26 = .ok (.getfield 21, 3) := by decide +kernel
theorem dX7_add_29 : decode cX7_add 29 = .ok (.iconst 1, 1) := by decide +kernel
theorem dX7_add_30 : decode cX7_add 30 = .ok (.iadd, 1) := by decide +kernel
theorem dX7_add_31 : decode cX7_add 31 = .ok (.putfield 21, 3) := by decide +kernel
theorem dX7_add_34 : decode cX7_add 34 = .ok (.iconst 1, 1) := by decide +kernel
theorem dX7_add_35 : decode cX7_add 35 = .ok (.ireturn, 1) := by decide +kernel
theorem dX7_has_0 : decode cX7_has 0 = .ok (.iload_n 1, 1) := by decide +kernel
theorem dX7_has_1 : decode cX7_has 1 = .ok (.ifCond .lt 15, 3) := by decide +kernel
theorem dX7_has_4 : decode cX7_has 4 = .ok (.iload_n 1, 1) := by decide +kernel
theorem dX7_has_5 : decode cX7_has 5 = .ok (.aload_n 0, 1) := by decide +kernel
theorem dX7_has_6 : decode cX7_has 6 = .ok (.getfield 21, 3) := by decide +kernel
theorem dX7_has_9 : decode cX7_has 9 = .ok (.if_icmp .ge 7, 3) := by decide +kernel
theorem dX7_has_12 : decode cX7_has 12 = .ok (.iconst 1, 1) := by decide +kernel
theorem dX7_has_13 : decode cX7_has 13 = .ok (.goto 4, 3) := by decide +kernel
theorem dX7_has_16 : decode cX7_has 16 = .ok (.iconst 0, 1) := by decide +kernel
theorem dX7_has_17 : decode cX7_has 17 = .ok (.ireturn, 1) := by decide +kernel
theorem dX7_copyFrom_0 : decode cX7_copyFrom 0 = .ok (.aload_n 0, 1) := by decide +kernel
theorem dX7_copyFrom_1 : decode cX7_copyFrom 1 = .ok (.aload_n 1, 1) := by decide +kernel
theorem dX7_copyFrom_2 : decode cX7_copyFrom 2 = .ok (.getfield 21, 3) := by decide +kernel
theorem dX7_copyFrom_5 : decode cX7_copyFrom 5 = .ok (.aload_n 0, 1) := by decide +kernel
theorem dX7_copyFrom_6 : decode cX7_copyFrom 6 = .ok (.getfield 15, 3) := by decide +kernel
theorem dX7_copyFrom_9 : decode cX7_copyFrom 9 = .ok (.arraylength, 1) := by decide +kernel
theorem dX7_copyFrom_10 : decode cX7_copyFrom 10 = .ok (.invokestatic 25, 3) := by decide +kernel
theorem dX7_copyFrom_13 : decode cX7_copyFrom 13 = .ok (.putfield 21, 3) := by decide +kernel
theorem dX7_copyFrom_16 : decode cX7_copyFrom 16 = .ok (.aload_n 1, 1) := by decide +kernel
theorem dX7_copyFrom_17 : decode cX7_copyFrom 17 = .ok (.getfield 15, 3) := by decide +kernel
theorem dX7_copyFrom_20 : decode cX7_copyFrom 20 = .ok (.iconst 0, 1) := by decide +kernel
theorem dX7_copyFrom_21 : decode cX7_copyFrom 21 = .ok (.aload_n 0, 1) := by decide +kernel
theorem dX7_copyFrom_22 : decode cX7_copyFrom 22 = .ok (.getfield 15, 3) := by decide +kernel
theorem dX7_copyFrom_25 : decode cX7_copyFrom 25 = .ok (.iconst 0, 1) := by decide +kernel
theorem dX7_copyFrom_26 : decode cX7_copyFrom 26 = .ok (.aload_n 0, 1) := by decide +kernel
theorem dX7_copyFrom_27 : decode cX7_copyFrom 27 = .ok (.getfield 21, 3) := by decide +kernel
theorem dX7_copyFrom_30 : decode cX7_copyFrom 30 = .ok (.invokestatic 28, 3) := by decide +kernel
theorem dX7_copyFrom_33 : decode cX7_copyFrom 33 = .ok (.return_, 1) := by decide +kernel
theorem dX7_fillWithZeros_0 : decode cX7_fillWithZeros 0 = .ok (.aload_n 0, 1) := by decide +kernel
theorem dX7_fillWithZeros_1 : decode cX7_fillWithZeros 1 = .ok (.iconst 0, 1) := by decide +kernel
theorem dX7_fillWithZeros_2 : decode cX7_fillWithZeros 2 = .ok (.iload_n 1, 1) := by decide +kernel
theorem dX7_fillWithZeros_3 : decode cX7_fillWithZeros 3 = .ok (.aload_n 0, 1) := by decide +kernel
theorem dX7_fillWithZeros_4 : decode cX7_fillWithZeros 4 = .ok (.getfield 15, 3) := by decide +kernel
theorem dX7_fillWithZeros_7 : decode cX7_fillWithZeros 7 = .ok (.arraylength, 1) := by decide +kernel
theorem dX7_fillWithZeros_8 : decode cX7_fillWithZeros 8 = .ok (.invokestatic 25, 3) := by decide +kernel
theorem dX7_fillWithZeros_11 : decode cX7_fillWithZeros 11 = .ok (.invokestatic 9, 3) := by decide +kernel
theorem dX7_fillWithZeros_14 : decode cX7_fillWithZeros 14 = .ok (.putfield 21, 3) := by decide +kernel
theorem dX7_fillWithZeros_17 : decode cX7_fillWithZeros 17 = .ok (.iconst 0, 1) := by decide +kernel
theorem dX7_fillWithZeros_18 : decode cX7_fillWithZeros 18 = .ok (.istore_n 2, 1) := by decide +kernel
theorem dX7_fillWithZeros_19 : decode cX7_fillWithZeros 19 = .ok (.iload_n 2, 1) := by decide +kernel
theorem dX7_fillWithZeros_20 : decode cX7_fillWithZeros 20 = .ok (.aload_n 0, 1) := by decide +kernel
theorem dX7_fillWithZeros_21 : decode cX7_fillWithZeros 21 = .ok (.getfield 21, 3) := by decide +kernel
theorem dX7_fillWithZeros_24 : decode cX7_fillWithZeros 24 = .ok (.if_icmp .ge 16, 3) := by decide +kernel
theorem dX7_fillWithZeros_27 : decode cX7_fillWithZeros 27 = .ok (.aload_n 0, 1) := by decide +kernel
theorem dX7_fillWithZeros_28 : decode cX7_fillWithZeros 28 = .ok (.getfield 15, 3) := by decide +kernel
theorem dX7_fillWithZeros_31 : decode cX7_fillWithZeros 31 = .ok (.iload_n 2, 1) := by decide +kernel
theorem dX7_fillWithZeros_32 : decode cX7_fillWithZeros 32 = .ok (.iconst 0, 1) := by decide +kernel
theorem dX7_fillWithZeros_33 : decode cX7_fillWithZeros 33 = .ok (.iastore, 1) := by decide +kernel
theorem dX7_fillWithZeros_34 : decode cX7_fillWithZeros 34 = .ok (.iinc 2 1, 3) := by decide +kernel
theorem dX7_fillWithZeros_37 : decode cX7_fillWithZeros 37 = .ok (.goto (-18), 3) := by decide +kernel
theorem dX7_fillWithZeros_40 : decode cX7_fillWithZeros 40 = .ok (.return_, 1) := by decide +kernel
theorem dX7_mismatch_0 : decode cX7_mismatch 0 = .ok (.aload_n 0, 1) := by decide +kernel
theorem dX7_mismatch_1 : decode cX7_mismatch 1 = .ok (.getfield 21, 3) := by decide +kernel
theorem dX7_mismatch_4 : decode cX7_mismatch 4 = .ok (.aload_n 1, 1) := by decide +kernel
theorem dX7_mismatch_5 : decode cX7_mismatch 5 = .ok (.getfield 21, 3) := by decide +kernel
theorem dX7_mismatch_8 : decode cX7_mismatch 8 = .ok (.invokestatic 25, 3) := by decide +kernel
theorem dX7_mismatch_11 : decode cX7_mismatch 11 = .ok (.istore_n 2, 1) := by decide +kernel
theorem dX7_mismatch_12 : decode cX7_mismatch 12 = .ok (.iconst 0, 1) := by decide +kernel
theorem dX7_mismatch_13 : decode cX7_mismatch 13 = .ok (.istore_n 3, 1) := by decide +kernel
theorem dX7_mismatch_14 : decode cX7_mismatch 14 = .ok (.iload_n 3, 1) := by decide +kernel
theorem dX7_mismatch_15 : decode cX7_mismatch 15 = .ok (.iload_n 2, 1) := by decide +kernel
theorem dX7_mismatch_16 : decode cX7_mismatch 16 = .ok (.if_icmp .ge 26, 3) := by decide +kernel
theorem dX7_mismatch_19 : decode cX7_mismatch 19 = .ok (.aload_n 0, 1) := by decide +kernel
theorem dX7_mismatch_20 : decode cX7_mismatch 20 = .ok (.getfield 15, 3) := by decide +kernel
theorem dX7_mismatch_23 : decode cX7_mismatch 23 = .ok (.iload_n 3, 1) := by decide +kernel
theorem dX7_mismatch_24 : decode cX7_mismatch 24 = .ok (.iaload, 1) := by decide +kernel
theorem dX7_mismatch_25 : decode cX7_mismatch 25 = .ok (.aload_n 1, 1) := by decide +kernel
theorem dX7_mismatch_26 : decode cX7_mismatch 26 = .ok (.getfield 15, 3) := by decide +kernel
theorem dX7_mismatch_29 : decode cX7_mismatch 29 = .ok (.iload_n 3, 1) := by decide +kernel
theorem dX7_mismatch_30 : decode cX7_mismatch 30 = .ok (.iaload, 1) := by decide +kernel
theorem dX7_mismatch_31 : decode cX7_mismatch 31 = .ok (.if_icmp .eq 5, 3) := by decide +kernel
theorem dX7_mismatch_34 : decode cX7_mismatch 34 = .ok (.iload_n 3, 1) := by decide +kernel
theorem dX7_mismatch_35 : decode cX7_mismatch 35 = .ok (.ireturn, 1) := by decide +kernel
theorem dX7_mismatch_36 : decode cX7_mismatch 36 = .ok (.iinc 3 1, 3) := by decide +kernel
theorem dX7_mismatch_39 : decode cX7_mismatch 39 = .ok (.goto (-25), 3) := by decide +kernel
theorem dX7_mismatch_42 : decode cX7_mismatch 42 = .ok (.aload_n 0, 1) := by decide +kernel
theorem dX7_mismatch_43 : decode cX7_mismatch 43 = .ok (.getfield 21, 3) := by decide +kernel
theorem dX7_mismatch_46 : decode cX7_mismatch 46 = .ok (.aload_n 1, 1) := by decide +kernel
theorem dX7_mismatch_47 : decode cX7_mismatch 47 = .ok (.getfield 21, 3) := by decide +kernel
theorem dX7_mismatch_50 : decode cX7_mismatch 50 = .ok (.if_icmp .ne 8, 3) := by decide +kernel
theorem dX7_mismatch_53 : decode cX7_mismatch 53 = .ok (.bipush (-2), 2) := by decide +kernel
theorem dX7_mismatch_55 : decode cX7_mismatch 55 = .ok (.goto 4, 3) := by decide +kernel
theorem dX7_mismatch_58 : decode cX7_mismatch 58 = .ok (.iload_n 2, 1) := by decide +kernel
theorem dX7_mismatch_59 : decode cX7_mismatch 59 = .ok (.ireturn, 1) := by decide +kernel
theorem dX8_init_0 : decode cX8_init 0 = .ok (.aload_n 0, 1) := by decide +kernel
theorem dX8_init_1 : decode cX8_init 1 = .ok (.invokespecial 3, 3) := by decide +kernel
theorem dX8_init_4 : decode cX8_init 4 = .ok (.aload_n 0, 1) := by decide +kernel
theorem dX8_init_5 : decode cX8_init 5 = .ok (.iconst 0, 1) := by decide +kernel
theorem dX8_init_6 : decode cX8_init 6 = .ok (.putfield 11, 3) := by decide +kernel
theorem dX8_init_9 : decode cX8_init 9 = .ok (.aload_n 0, 1) := by decide +kernel
theorem dX8_init_10 : decode cX8_init 10 = .ok (.new 15, 3) := by decide +kernel
theorem dX8_init_13 : decode cX8_init 13 = .ok (.dup, 1) := by decide +kernel
theorem dX8_init_14 : decode cX8_init 14 = .ok (.bipush 30, 2) := by decide +kernel
theorem dX8_init_16 : decode cX8_init 16 = .ok (.invokespecial 17, 3) := by decide +kernel
theorem dX8_init_19 : decode cX8_init 19 = .ok (.putfield 20, 3) := by decide +kernel
theorem dX8_init_22 : decode cX8_init 22 = .ok (.return_, 1) := by decide +kernel
theorem dX9_init_0 : decode cX9_init 0 = .ok (.aload_n 0, 1) := by decide +kernel
theorem dX9_init_1 : decode cX9_init 1 = .ok (.invokespecial 3, 3) := by decide +kernel
theorem dX9_init_4 : decode cX9_init 4 = .ok (.aload_n 0, 1) := by decide +kernel
theorem dX9_init_5 : decode cX9_init 5 = .ok (.iconst 0, 1) := by decide +kernel
theorem dX9_init_6 : decode cX9_init 6 = .ok (.putfield 9, 3) := by decide +kernel
theorem dX9_init_9 : decode cX9_init 9 = .ok (.aload_n 0, 1) := by decide +kernel
theorem dX9_init_10 : decode cX9_init 10 = .ok (.new 15, 3) := by decide +kernel
theorem dX9_init_13 : decode cX9_init 13 = .ok (.dup, 1) := by decide +kernel
theorem dX9_init_14 : decode cX9_init 14 = .ok (.bipush 24, 2) := by decide +kernel
theorem dX9_init_16 : decode cX9_init 16 = .ok (.invokespecial 17, 3) := by decide +kernel
theorem dX9_init_19 : decode cX9_init 19 = .ok (.putfield 20, 3) := by decide +kernel
theorem dX9_init_22 : decode cX9_init 22 = .ok (.return_, 1) := by decide +kernel
theorem dX10_init_0 : decode cX10_init 0 = .ok (.aload_n 0, 1) := by decide +kernel
theorem dX10_init_1 : decode cX10_init 1 = .ok (.invokespecial 3, 3) := by decide +kernel
theorem dX10_init_4 : decode cX10_init 4 = .ok (.aload_n 0, 1) := by decide +kernel
theorem dX10_init_5 : decode cX10_init 5 = .ok (.bipush 8, 2) := by decide +kernel
theorem dX10_init_7 : decode cX10_init 7 = .ok (.newarray .int, 2) := by decide +kernel
theorem dX10_init_9 : decode cX10_init 9 = .ok (.putfield 11, 3) := by decide +kernel
theorem dX10_init_12 : decode cX10_init 12 = .ok (.aload_n 0, 1) := by decide +kernel
theorem dX10_init_13 : decode cX10_init 13 = .ok (.bipush 8, 2) := by decide +kernel
theorem dX10_init_15 : decode cX10_init 15 = .ok (.newarray .int, 2) := by decide +kernel
theorem dX10_init_17 : decode cX10_init 17 = .ok (.putfield 15, 3) := by decide +kernel
theorem dX10_init_20 : decode cX10_init 20 = .ok (.aload_n 0, 1) := by decide +kernel
theorem dX10_init_21 : decode cX10_init 21 = .ok (.bipush 8, 2) := by decide +kernel
theorem dX10_init_23 : decode cX10_init 23 = .ok (.newarray .int, 2) := by decide +kernel
theorem dX10_init_25 : decode cX10_init 25 = .ok (.putfield 18, 3) := by decide +kernel
theorem dX10_init_28 : decode cX10_init 28 = .ok (.aload_n 0, 1) := by decide +kernel
theorem dX10_init_29 : decode cX10_init 29 = .ok (.bipush 8, 2) := by decide +kernel
theorem dX10_init_31 : decode cX10_init 31 = .ok (.newarray .int, 2) := by decide +kernel
theorem dX10_init_33 : decode cX10_init 33 = .ok (.putfield 21, 3) := by decide +kernel
theorem dX10_init_36 : decode cX10_init 36 = .ok (.aload_n 0, 1) := by decide +kernel
theorem dX10_init_37 : decode cX10_init 37 = .ok (.iconst 0, 1) := by decide +kernel
theorem dX10_init_38 : decode cX10_init 38 = .ok (.putfield 24, 3) := by decide +kernel
theorem dX10_init_41 : decode cX10_init 41 = .ok (.return_, 1) := by decide +kernel
theorem dX10_add_0 : decode cX10_add 0 = .ok (.aload_n 0, 1) := by decide +kernel
theorem dX10_add_1 : decode cX10_add 1 = .ok (.getfield 24, 3) := by decide +kernel
theorem dX10_add_4 : decode cX10_add 4 = .ok (.bipush 8, 2) := by decide +kernel
theorem dX10_add_6 : decode cX10_add 6 = .ok (.if_icmp .ne 6, 3) := by decide +kernel
theorem dX10_add_9 : decode cX10_add 9 = .ok (.bipush (-3), 2) := by decide +kernel
theorem dX10_add_11 : decode cX10_add 11 = .ok (.ireturn, 1) := by decide +kernel
theorem dX10_add_12 : decode cX10_add 12 = .ok (.aload_n 0, 1) := by decide +kernel
theorem dX10_add_13 : decode cX10_add 13 = .ok (.getfield 24, 3) := by decide +kernel
theorem dX10_add_16 : decode cX10_add 16 = .ok (.istore 4, 2) := by decide +kernel
theorem dX10_add_18 : decode cX10_add 18 = .ok (.aload_n 0, 1) := by decide +kernel
theorem dX10_add_19 : decode cX10_add 19 = .ok (.getfield 11, 3) := by decide +kernel
theorem dX10_add_22 : decode cX10_add 22 = .ok (.iload 4, 2) := by decide +kernel
theorem dX10_add_24 : decode cX10_add 24 = .ok (.iload_n 1, 1) := by decide +kernel
theorem dX10_add_25 : decode cX10_add 25 = .ok (.iastore, 1) := by decide +kernel
theorem dX10_add_26 : decode cX10_add 26 = .ok (.aload_n 0, 1) := by decide +kernel
theorem dX10_add_27 : decode cX10_add 27 = .ok (.getfield 15, 3) := by decide +kernel
theorem dX10_add_30 : decode cX10_add 30 = .ok (.iload 4, 2) := by decide +kernel
theorem dX10_add_32 : decode cX10_add 32 = .ok (.iload_n 2, 1) := by decide +kernel
theorem dX10_add_33 : decode cX10_add 33 = .ok (.iastore, 1) := by decide +kernel
theorem dX10_add_34 : decode cX10_add 34 = .ok (.aload_n 0, 1) := by decide +kernel
theorem dX10_add_35 : decode cX10_add 35 = .ok (.getfield 18, 3) := by decide +kernel
theorem dX10_add_38 : decode cX10_add 38 = .ok (.iload 4, 2) := by decide +kernel
theorem dX10_add_40 : decode cX10_add 40 = .ok (.iload_n 3, 1) := by decide +kernel
theorem dX10_add_41 : decode cX10_add 41 = .ok (.iastore, 1) := by decide +kernel
theorem dX10_add_42 : decode cX10_add 42 = .ok (.aload_n 0, 1) := by decide +kernel
theorem dX10_add_43 : decode cX10_add 43 = .ok (.getfield 21, 3) := by decide +kernel
theorem dX10_add_46 : decode cX10_add 46 = .ok (.iload 4, 2) := by decide +kernel
theorem dX10_add_48 : decode cX10_add 48 = .ok (.iconst 1, 1) := by decide +kernel
theorem dX10_add_49 : decode cX10_add 49 = .ok (.iload 4, 2) := by decide +kernel
theorem dX10_add_51 : decode cX10_add 51 = .ok (.ishl, 1) := by decide +kernel
theorem dX10_add_52 : decode cX10_add 52 = .ok (.iastore, 1) := by decide +kernel
theorem dX10_add_53 : decode cX10_add 53 = .ok (.iload_n 1, 1) := by decide +kernel
theorem dX10_add_54 : decode cX10_add 54 = .ok (.iconst 5, 1) := by decide +kernel
theorem dX10_add_55 : decode cX10_add 55 = .ok (.if_icmp .eq 15, 3) := by decide +kernel
theorem dX10_add_58 : decode cX10_add 58 = .ok (.iload_n 1, 1) := by decide +kernel
theorem dX10_add_59 : decode cX10_add 59 = .ok (.bipush 6, 2) := by decide +kernel
theorem dX10_add_61 : decode cX10_add 61 = .ok (.if_icmp .eq 9, 3) := by decide +kernel
theorem dX10_add_64 : decode cX10_add 64 = .ok (.iload_n 1, 1) := by decide +kernel
theorem dX10_add_65 : decode cX10_add 65 = .ok (.bipush 7, 2) := by decide +kernel
theorem dX10_add_67 : decode cX10_add 67 = .ok (.if_icmp .ne 26, 3) := by decide +kernel
theorem dX10_add_70 : decode cX10_add 70 = .ok (.aload_n 0, 1) := by decide +kernel
theorem dX10_add_71 : decode cX10_add 71 = .ok (.getfield 21, 3) := by decide +kernel
theorem dX10_add_74 : decode cX10_add 74 = .ok (.iload 4, 2) := by decide +kernel
theorem dX10_add_76 : decode cX10_add 76 = .ok (.dup2, 1) := by decide +kernel
theorem dX10_add_77 : decode cX10_add 77 = .ok (.iaload, 1) := by decide +kernel
theorem dX10_add_78 : decode cX10_add 78 = .ok (.aload_n 0, 1) := by decide +kernel
theorem dX10_add_79 : decode cX10_add 79 = .ok (.getfield 21, 3) := by decide +kernel
theorem dX10_add_82 : decode cX10_add 82 = .ok (.iload_n 2, 1) := by decide +kernel
theorem dX10_add_83 : decode cX10_add 83 = .ok (.iaload, 1) := by decide +kernel
theorem dX10_add_84 : decode cX10_add 84 = .ok (.aload_n 0, 1) := by decide +kernel
theorem dX10_add_85 : decode cX10_add 85 = .ok (.getfield 21, 3) := by decide +kernel
theorem dX10_add_88 : decode cX10_add 88 = .ok (.iload_n 3, 1) := by decide +kernel
theorem dX10_add_89 : decode cX10_add 89 = .ok (.iaload, 1) := by decide +kernel
theorem dX10_add_90 : decode cX10_add 90 = .ok (.ior, 1) := by decide +kernel
theorem dX10_add_91 : decode cX10_add 91 = .ok (.ior, 1) := by decide +kernel
theorem dX10_add_92 : decode cX10_add 92 = .ok (.iastore, 1) := by decide +kernel
theorem dX10_add_93 : decode cX10_add 93 = .ok (.aload_n 0, 1) := by decide +kernel
theorem dX10_add_94 : decode cX10_add 94 = .ok (.dup, 1) := by decide +kernel
theorem dX10_add_95 : decode cX10_add 95 = .ok (.getfield 24, 3) := by decide +kernel
theorem dX10_add_98 : decode cX10_add 98 = .ok (.iconst 1, 1) := by decide +kernel
theorem dX10_add_99 : decode cX10_add 99 = .ok (.iadd, 1) := by decide +kernel
theorem dX10_add_100 : decode cX10_add 100 = .ok (.putfield 24, 3) := by decide +kernel
theorem dX10_add_103 : decode cX10_add 103 = .ok (.iload 4, 2) := by decide +kernel
theorem dX10_add_105 : decode cX10_add 105 = .ok (.ireturn, 1) := by decide +kernel
theorem dX10_accepts_0 : decode cX10_accepts 0 = .ok (.iconst 0, 1) := by decide +kernel
theorem dX10_accepts_1 : decode cX10_accepts 1 = .ok (.istore 4, 2) := by decide +kernel
theorem dX10_accepts_3 : decode cX10_accepts 3 = .ok (.iconst 0, 1) := by decide +kernel
theorem dX10_accepts_4 : decode cX10_accepts 4 = .ok (.istore 5, 2) := by decide +kernel
theorem dX10_accepts_6 : decode cX10_accepts 6 = .ok (.iload 5, 2) := by decide +kernel
theorem dX10_accepts_8 : decode cX10_accepts 8 = .ok (.iload_n 1, 1) := by decide +kernel
theorem dX10_accepts_9 : decode cX10_accepts 9 = .ok (.if_icmp .gt 45, 3) := by decide +kernel
theorem dX10_accepts_12 : decode cX10_accepts 12 = .ok (.aload_n 0, 1) := by decide +kernel
theorem dX10_accepts_13 : decode cX10_accepts 13 = .ok (.getfield 21, 3) := by decide +kernel
theorem dX10_accepts_16 : decode cX10_accepts 16 = .ok (.iload_n 1, 1) := by decide +kernel
theorem dX10_accepts_17 : decode cX10_accepts 17 = .ok (.iaload, 1) := by decide +kernel
theorem dX10_accepts_18 : decode cX10_accepts 18 = .ok (.iload 5, 2) := by decide +kernel
theorem dX10_accepts_20 : decode cX10_accepts 20 = .ok (.ishr, 1) := by decide +kernel
theorem dX10_accepts_21 : decode cX10_accepts 21 = .ok (.iconst 1, 1) := by decide +kernel
theorem dX10_accepts_22 : decode cX10_accepts 22 = .ok (.iand, 1) := by decide +kernel
theorem dX10_accepts_23 : decode cX10_accepts 23 = .ok (.ifCond .eq 25, 3) := by decide +kernel
theorem dX10_accepts_26 : decode cX10_accepts 26 = .ok (.aload_n 0, 1) := by decide +kernel
theorem dX10_accepts_27 : decode cX10_accepts 27 = .ok (.iload 5, 2) := by decide +kernel
theorem dX10_accepts_29 : decode cX10_accepts 29 = .ok (.iload_n 2, 1) := by decide +kernel
theorem dX10_accepts_30 : decode cX10_accepts 30 = .ok (.iload 4, 2) := by decide +kernel
theorem dX10_accepts_32 : decode cX10_accepts 32 = .ok (.aload_n 3, 1) := by decide +kernel
theorem dX10_accepts_33 : decode cX10_accepts 33 = .ok (.invokevirtual 28, 3) := by decide +kernel
theorem dX10_accepts_36 : decode cX10_accepts 36 = .ok (.ifCond .eq 12, 3) := by decide +kernel
theorem dX10_accepts_39 : decode cX10_accepts 39 = .ok (.iload 4, 2) := by decide +kernel
theorem dX10_accepts_41 : decode cX10_accepts 41 = .ok (.iconst 1, 1) := by decide +kernel
theorem dX10_accepts_42 : decode cX10_accepts 42 = .ok (.iload 5, 2) := by decide +kernel
theorem dX10_accepts_44 : decode cX10_accepts 44 = .ok (.ishl, 1) := by decide +kernel
theorem dX10_accepts_45 : decode cX10_accepts 45 = .ok (.ior, 1) := by decide +kernel
theorem dX10_accepts_46 : decode cX10_accepts 46 = .ok (.istore 4, 2) := by decide +kernel
theorem dX10_accepts_48 : decode cX10_accepts 48 = .ok (.iinc 5 1, 3) := by decide +kernel
theorem dX10_accepts_51 : decode cX10_accepts 51 = .ok (.goto (-45), 3) := by decide +kernel
theorem dX10_accepts_54 : decode cX10_accepts 54 = .ok (.iload 4, 2) := by decide +kernel
theorem dX10_accepts_56 : decode cX10_accepts 56 = .ok (.iload_n 1, 1) := by decide +kernel
theorem dX10_accepts_57 : decode cX10_accepts 57 = .ok (.ishr, 1) := by decide +kernel
theorem dX10_accepts_58 : decode cX10_accepts 58 = .ok (.iconst 1, 1) := by decide +kernel
theorem dX10_accepts_59 : decode cX10_accepts 59 = .ok (.iand, 1) := by decide +kernel
theorem dX10_accepts_60 : decode cX10_accepts 60 = .ok (.ifCond .eq 7, 3) := by decide +kernel
theorem dX10_accepts_63 : decode cX10_accepts 63 = .ok (.iconst 1, 1) := by decide +kernel
theorem dX10_accepts_64 : decode cX10_accepts 64 = .ok (.goto 4, 3) := by decide +kernel
theorem dX10_accepts_67 : decode cX10_accepts 67 = .ok (.iconst 0, 1) := by decide +kernel
theorem dX10_accepts_68 : decode cX10_accepts 68 = .ok (.ireturn, 1) := by decide +kernel
theorem dX10_holds_0 : decode cX10_holds 0 = .ok (.aload_n 0, 1) := by decide +kernel
theorem dX10_holds_1 : decode cX10_holds 1 = .ok (.getfield 15, 3) := by decide +kernel
theorem dX10_holds_4 : decode cX10_holds 4 = .ok (.iload_n 1, 1) := by decide +kernel
theorem dX10_holds_5 : decode cX10_holds 5 = .ok (.iaload, 1) := by decide +kernel
theorem dX10_holds_6 : decode cX10_holds 6 = .ok (.istore 5, 2) := by decide +kernel
theorem dX10_holds_8 : decode cX10_holds 8 = .ok (.aload_n 0, 1) := by decide +kernel
theorem dX10_holds_9 : decode cX10_holds 9 = .ok (.getfield 18, 3) := by decide +kernel
theorem dX10_holds_12 : decode cX10_holds 12 = .ok (.iload_n 1, 1) := by decide +kernel
theorem dX10_holds_13 : decode cX10_holds 13 = .ok (.iaload, 1) := by decide +kernel
theorem dX10_holds_14 : decode cX10_holds 14 = .ok (.istore 6, 2) := by decide +kernel
theorem dX10_holds_16 : decode cX10_holds 16 = .ok (.aload_n 0, 1) := by decide +kernel
theorem dX10_holds_17 : decode cX10_holds 17 = .ok (.getfield 11, 3) := by decide +kernel
theorem dX10_holds_20 : decode cX10_holds 20 = .ok (.iload_n 1, 1) := by decide +kernel
theorem dX10_holds_21 : decode cX10_holds 21 = .ok (.iaload, 1) := by decide +kernel
theorem dX10_holds_22 : decode cX10_holds 22 = .ok (.tableswitch 162 0 6 #[42, 57, 74, 88, 105, 122, 142], 42) := by decide +kernel
theorem dX10_holds_64 : decode cX10_holds 64 = .ok (.iload_n 2, 1) := by decide +kernel
theorem dX10_holds_65 : decode cX10_holds 65 = .ok (.invokestatic 32, 3) := by decide +kernel
theorem dX10_holds_68 : decode cX10_holds 68 = .ok (.iload 5, 2) := by decide +kernel
theorem dX10_holds_70 : decode cX10_holds 70 = .ok (.if_icmp .ne 7, 3) := by decide +kernel
theorem dX10_holds_73 : decode cX10_holds 73 = .ok (.iconst 1, 1) := by decide +kernel
theorem dX10_holds_74 : decode cX10_holds 74 = .ok (.goto 4, 3) := by decide +kernel
theorem dX10_holds_77 : decode cX10_holds 77 = .ok (.iconst 0, 1) := by decide +kernel
theorem dX10_holds_78 : decode cX10_holds 78 = .ok (.ireturn, 1) := by decide +kernel
theorem dX10_holds_79 : decode cX10_holds 79 = .ok (.iload_n 2, 1) := by decide +kernel
theorem dX10_holds_80 : decode cX10_holds 80 = .ok (.iload 5, 2) := by decide +kernel
theorem dX10_holds_82 : decode cX10_holds 82 = .ok (.invokestatic 38, 3) := by decide +kernel
theorem dX10_holds_85 : decode cX10_holds 85 = .ok (.iload 6, 2) := by decide +kernel
theorem dX10_holds_87 : decode cX10_holds 87 = .ok (.if_icmp .lt 7, 3) := by decide +kernel
theorem dX10_holds_90 : decode cX10_holds 90 = .ok (.iconst 1, 1) := by decide +kernel
theorem dX10_holds_91 : decode cX10_holds 91 = .ok (.goto 4, 3) := by decide +kernel
theorem dX10_holds_94 : decode cX10_holds 94 = .ok (.iconst 0, 1) := by decide +kernel
theorem dX10_holds_95 : decode cX10_holds 95 = .ok (.ireturn, 1) := by decide +kernel
theorem dX10_holds_96 : decode cX10_holds 96 = .ok (.iload_n 2, 1) := by decide +kernel
theorem dX10_holds_97 : decode cX10_holds 97 = .ok (.sipush (-5462), 3) := by decide +kernel
theorem dX10_holds_100 : decode cX10_holds 100 = .ok (.iand, 1) := by decide +kernel
theorem dX10_holds_101 : decode cX10_holds 101 = .ok (.ifCond .ne 7, 3) := by decide +kernel
theorem dX10_holds_104 : decode cX10_holds 104 = .ok (.iconst 1, 1) := by decide +kernel
theorem dX10_holds_105 : decode cX10_holds 105 = .ok (.goto 4, 3) := by decide +kernel
theorem dX10_holds_108 : decode cX10_holds 108 = .ok (.iconst 0, 1) := by decide +kernel
theorem dX10_holds_109 : decode cX10_holds 109 = .ok (.ireturn, 1) := by decide +kernel
theorem dX10_holds_110 : decode cX10_holds 110 = .ok (.aload 4, 2) := by decide +kernel
theorem dX10_holds_112 : decode cX10_holds 112 = .ok (.iload_n 2, 1) := by decide +kernel
theorem dX10_holds_113 : decode cX10_holds 113 = .ok (.invokevirtual 42, 3) := by decide +kernel
theorem dX10_holds_116 : decode cX10_holds 116 = .ok (.iload 5, 2) := by decide +kernel
theorem dX10_holds_118 : decode cX10_holds 118 = .ok (.if_icmp .lt 7, 3) := by decide +kernel
theorem dX10_holds_121 : decode cX10_holds 121 = .ok (.iconst 1, 1) := by decide +kernel
theorem dX10_holds_122 : decode cX10_holds 122 = .ok (.goto 4, 3) := by decide +kernel
theorem dX10_holds_125 : decode cX10_holds 125 = .ok (.iconst 0, 1) := by decide +kernel
theorem dX10_holds_126 : decode cX10_holds 126 = .ok (.ireturn, 1) := by decide +kernel
theorem dX10_holds_127 : decode cX10_holds 127 = .ok (.aload 4, 2) := by decide +kernel
theorem dX10_holds_129 : decode cX10_holds 129 = .ok (.iload_n 2, 1) := by decide +kernel
theorem dX10_holds_130 : decode cX10_holds 130 = .ok (.invokevirtual 47, 3) := by decide +kernel
theorem dX10_holds_133 : decode cX10_holds 133 = .ok (.iload 5, 2) := by decide +kernel
theorem dX10_holds_135 : decode cX10_holds 135 = .ok (.if_icmp .lt 7, 3) := by decide +kernel
theorem dX10_holds_138 : decode cX10_holds 138 = .ok (.iconst 1, 1) := by decide +kernel
theorem dX10_holds_139 : decode cX10_holds 139 = .ok (.goto 4, 3) := by decide +kernel
theorem dX10_holds_142 : decode cX10_holds 142 = .ok (.iconst 0, 1) := by decide +kernel
theorem dX10_holds_143 : decode cX10_holds 143 = .ok (.ireturn, 1) := by decide +kernel
theorem dX10_holds_144 : decode cX10_holds 144 = .ok (.iload_n 3, 1) := by decide +kernel
theorem dX10_holds_145 : decode cX10_holds 145 = .ok (.iload 5, 2) := by decide +kernel
theorem dX10_holds_147 : decode cX10_holds 147 = .ok (.ishr, 1) := by decide +kernel
theorem dX10_holds_148 : decode cX10_holds 148 = .ok (.iload_n 3, 1) := by decide +kernel
theorem dX10_holds_149 : decode cX10_holds 149 = .ok (.iload 6, 2) := by decide +kernel
theorem dX10_holds_151 : decode cX10_holds 151 = .ok (.ishr, 1) := by decide +kernel
theorem dX10_holds_152 : decode cX10_holds 152 = .ok (.iand, 1) := by decide +kernel
theorem dX10_holds_153 : decode cX10_holds 153 = .ok (.iconst 1, 1) := by decide +kernel
theorem dX10_holds_154 : decode cX10_holds 154 = .ok (.iand, 1) := by decide +kernel
theorem dX10_holds_155 : decode cX10_holds 155 = .ok (.ifCond .eq 7, 3) := by decide +kernel
theorem dX10_holds_158 : decode cX10_holds 158 = .ok (.iconst 1, 1) := by decide +kernel
theorem dX10_holds_159 : decode cX10_holds 159 = .ok (.goto 4, 3) := by decide +kernel
theorem dX10_holds_162 : decode cX10_holds 162 = .ok (.iconst 0, 1) := by decide +kernel
theorem dX10_holds_163 : decode cX10_holds 163 = .ok (.ireturn, 1) := by decide +kernel
theorem dX10_holds_164 : decode cX10_holds 164 = .ok (.iload_n 3, 1) := by decide +kernel
theorem dX10_holds_165 : decode cX10_holds 165 = .ok (.iload 5, 2) := by decide +kernel
theorem dX10_holds_167 : decode cX10_holds 167 = .ok (.ishr, 1) := by decide +kernel
theorem dX10_holds_168 : decode cX10_holds 168 = .ok (.iload_n 3, 1) := by decide +kernel
theorem dX10_holds_169 : decode cX10_holds 169 = .ok (.iload 6, 2) := by decide +kernel
theorem dX10_holds_171 : decode cX10_holds 171 = .ok (.ishr, 1) := by decide +kernel
theorem dX10_holds_172 : decode cX10_holds 172 = .ok (.ior, 1) := by decide +kernel
theorem dX10_holds_173 : decode cX10_holds 173 = .ok (.iconst 1, 1) := by decide +kernel
theorem dX10_holds_174 : decode cX10_holds 174 = .ok (.iand, 1) := by decide +kernel
theorem dX10_holds_175 : decode cX10_holds 175 = .ok (.ifCond .eq 7, 3) := by decide +kernel
theorem dX10_holds_178 : decode cX10_holds 178 = .ok (.iconst 1, 1) := by decide +kernel
theorem dX10_holds_179 : decode cX10_holds 179 = .ok (.goto 4, 3) := by decide +kernel
theorem dX10_holds_182 : decode cX10_holds 182 = .ok (.iconst 0, 1) := by decide +kernel
theorem dX10_holds_183 : decode cX10_holds 183 = .ok (.ireturn, 1) := by decide +kernel
theorem dX10_holds_184 : decode cX10_holds 184 = .ok (.iload_n 3, 1) := by decide +kernel
theorem dX10_holds_185 : decode cX10_holds 185 = .ok (.iload 5, 2) := by decide +kernel
theorem dX10_holds_187 : decode cX10_holds 187 = .ok (.ishr, 1) := by decide +kernel
theorem dX10_holds_188 : decode cX10_holds 188 = .ok (.iconst 1, 1) := by decide +kernel
theorem dX10_holds_189 : decode cX10_holds 189 = .ok (.iand, 1) := by decide +kernel
theorem dX10_holds_190 : decode cX10_holds 190 = .ok (.ifCond .ne 7, 3) := by decide +kernel
theorem dX10_holds_193 : decode cX10_holds 193 = .ok (.iconst 1, 1) := by decide +kernel
theorem dX10_holds_194 : decode cX10_holds 194 = .ok (.goto 4, 3) := by decide +kernel
theorem dX10_holds_197 : decode cX10_holds 197 = .ok (.iconst 0, 1) := by decide +kernel
theorem dX10_holds_198 : decode cX10_holds 198 = .ok (.ireturn, 1) := by decide +kernel
theorem dX11_init_0 : decode cX11_init 0 = .ok (.aload_n 0, 1) := by decide +kernel
theorem dX11_init_1 : decode cX11_init 1 = .ok (.invokespecial 5, 3) := by decide +kernel
theorem dX11_init_4 : decode cX11_init 4 = .ok (.aload_n 0, 1) := by decide +kernel
theorem dX11_init_5 : decode cX11_init 5 = .ok (.new 11, 3) := by decide +kernel
theorem dX11_init_8 : decode cX11_init 8 = .ok (.dup, 1) := by decide +kernel
theorem dX11_init_9 : decode cX11_init 9 = .ok (.invokespecial 13, 3) := by decide +kernel
theorem dX11_init_12 : decode cX11_init 12 = .ok (.putfield 14, 3) := by decide +kernel
theorem dX11_init_15 : decode cX11_init 15 = .ok (.aload_n 0, 1) := by decide +kernel
theorem dX11_init_16 : decode cX11_init 16 = .ok (.new 18, 3) := by decide +kernel
theorem dX11_init_19 : decode cX11_init 19 = .ok (.dup, 1) := by decide +kernel
theorem dX11_init_20 : decode cX11_init 20 = .ok (.aload_n 0, 1) := by decide +kernel
theorem dX11_init_21 : decode cX11_init 21 = .ok (.getfield 14, 3) := by decide +kernel
theorem dX11_init_24 : decode cX11_init 24 = .ok (.invokespecial 20, 3) := by decide +kernel
theorem dX11_init_27 : decode cX11_init 27 = .ok (.putfield 23, 3) := by decide +kernel
theorem dX11_init_30 : decode cX11_init 30 = .ok (.aload_n 0, 1) := by decide +kernel
theorem dX11_init_31 : decode cX11_init 31 = .ok (.new 27, 3) := by decide +kernel
theorem dX11_init_34 : decode cX11_init 34 = .ok (.dup, 1) := by decide +kernel
theorem dX11_init_35 : decode cX11_init 35 = .ok (.aload_n 0, 1) := by decide +kernel
theorem dX11_init_36 : decode cX11_init 36 = .ok (.getfield 14, 3) := by decide +kernel
theorem dX11_init_39 : decode cX11_init 39 = .ok (.aload_n 0, 1) := by decide +kernel
theorem dX11_init_40 : decode cX11_init 40 = .ok (.getfield 23, 3) := by decide +kernel
theorem dX11_init_43 : decode cX11_init 43 = .ok (.invokespecial 29, 3) := by decide +kernel
theorem dX11_init_46 : decode cX11_init 46 = .ok (.putfield 32, 3) := by decide +kernel
theorem dX11_init_49 : decode cX11_init 49 = .ok (.aload_n 0, 1) := by decide +kernel
theorem dX11_init_50 : decode cX11_init 50 = .ok (.new 36, 3) := by decide +kernel
theorem dX11_init_53 : decode cX11_init 53 = .ok (.dup, 1) := by decide +kernel
theorem dX11_init_54 : decode cX11_init 54 = .ok (.invokespecial 38, 3) := by decide +kernel
theorem dX11_init_57 : decode cX11_init 57 = .ok (.putfield 39, 3) := by decide +kernel
theorem dX11_init_60 : decode cX11_init 60 = .ok (.aload_n 0, 1) := by decide +kernel
theorem dX11_init_61 : decode cX11_init 61 = .ok (.new 43, 3) := by decide +kernel
theorem dX11_init_64 : decode cX11_init 64 = .ok (.dup, 1) := by decide +kernel
theorem dX11_init_65 : decode cX11_init 65 = .ok (.invokespecial 45, 3) := by decide +kernel
theorem dX11_init_68 : decode cX11_init 68 = .ok (.putfield 46, 3) := by decide +kernel
theorem dX11_init_71 : decode cX11_init 71 = .ok (.aload_n 0, 1) := by decide +kernel
theorem dX11_init_72 : decode cX11_init 72 = .ok (.new 50, 3) := by decide +kernel
theorem dX11_init_75 : decode cX11_init 75 = .ok (.dup, 1) := by decide +kernel
theorem dX11_init_76 : decode cX11_init 76 = .ok (.invokespecial 52, 3) := by decide +kernel
theorem dX11_init_79 : decode cX11_init 79 = .ok (.putfield 53, 3) := by decide +kernel
theorem dX11_init_82 : decode cX11_init 82 = .ok (.aload_n 0, 1) := by decide +kernel
theorem dX11_init_83 : decode cX11_init 83 = .ok (.new 57, 3) := by decide +kernel
theorem dX11_init_86 : decode cX11_init 86 = .ok (.dup, 1) := by decide +kernel
theorem dX11_init_87 : decode cX11_init 87 = .ok (.invokespecial 59, 3) := by decide +kernel
theorem dX11_init_90 : decode cX11_init 90 = .ok (.putfield 60, 3) := by decide +kernel
theorem dX11_init_93 : decode cX11_init 93 = .ok (.aload_n 0, 1) := by decide +kernel
theorem dX11_init_94 : decode cX11_init 94 = .ok (.iconst 4, 1) := by decide +kernel
theorem dX11_init_95 : decode cX11_init 95 = .ok (.anewarray 64, 3) := by decide +kernel
theorem dX11_init_98 : decode cX11_init 98 = .ok (.putfield 66, 3) := by decide +kernel
theorem dX11_init_101 : decode cX11_init 101 = .ok (.iconst 0, 1) := by decide +kernel
theorem dX11_init_102 : decode cX11_init 102 = .ok (.istore_n 1, 1) := by decide +kernel
theorem dX11_init_103 : decode cX11_init 103 = .ok (.iload_n 1, 1) := by decide +kernel
theorem dX11_init_104 : decode cX11_init 104 = .ok (.iconst 4, 1) := by decide +kernel
theorem dX11_init_105 : decode cX11_init 105 = .ok (.if_icmp .ge 22, 3) := by decide +kernel
theorem dX11_init_108 : decode cX11_init 108 = .ok (.aload_n 0, 1) := by decide +kernel
theorem dX11_init_109 : decode cX11_init 109 = .ok (.getfield 66, 3) := by decide +kernel
theorem dX11_init_112 : decode cX11_init 112 = .ok (.iload_n 1, 1) := by decide +kernel
theorem dX11_init_113 : decode cX11_init 113 = .ok (.new 64, 3) := by decide +kernel
theorem dX11_init_116 : decode cX11_init 116 = .ok (.dup, 1) := by decide +kernel
theorem dX11_init_117 : decode cX11_init 117 = .ok (.invokespecial 70, 3) := by decide +kernel
theorem dX11_init_120 : decode cX11_init 120 = .ok (.aastore, 1) := by decide +kernel
theorem dX11_init_121 : decode cX11_init 121 = .ok (.iinc 1 1, 3) := by decide +kernel
theorem dX11_init_124 : decode cX11_init 124 = .ok (.goto (-21), 3) := by decide +kernel
theorem dX11_init_127 : decode cX11_init 127 = .ok (.aload_n 0, 1) := by decide +kernel
theorem dX11_init_128 : decode cX11_init 128 = .ok (.new 71, 3) := by decide +kernel
theorem dX11_init_131 : decode cX11_init 131 = .ok (.dup, 1) := by decide +kernel
theorem dX11_init_132 : decode cX11_init 132 = .ok (.invokespecial 73, 3) := by decide +kernel
theorem dX11_init_135 : decode cX11_init 135 = .ok (.putfield 74, 3) := by decide +kernel
theorem dX11_init_138 : decode cX11_init 138 = .ok (.return_, 1) := by decide +kernel
theorem dX11_setVertexCount_0 : decode cX11_setVertexCount 0 = .ok (.iload_n 1, 1) := by decide +kernel
theorem dX11_setVertexCount_1 : decode cX11_setVertexCount 1 = .ok (.iconst 1, 1) := by decide +kernel
theorem dX11_setVertexCount_2 : decode cX11_setVertexCount 2 = .ok (.if_icmp .lt 9, 3) := by decide +kernel
theorem dX11_setVertexCount_5 : decode cX11_setVertexCount 5 = .ok (.iload_n 1, 1) := by decide +kernel
theorem dX11_setVertexCount_6 : decode cX11_setVertexCount 6 = .ok (.bipush 7, 2) := by decide +kernel
theorem dX11_setVertexCount_8 : decode cX11_setVertexCount 8 = .ok (.if_icmp .le 5, 3) := by decide +kernel
theorem dX11_setVertexCount_11 : decode cX11_setVertexCount 11 = .ok (.iconst (-1), 1) := by decide +kernel
theorem dX11_setVertexCount_12 : decode cX11_setVertexCount 12 = .ok (.ireturn, 1) := by decide +kernel
theorem dX11_setVertexCount_13 : decode cX11_setVertexCount 13 = .ok (.aload_n 0, 1) := by decide +kernel
theorem dX11_setVertexCount_14 : decode cX11_setVertexCount 14 = .ok (.getfield 14, 3) := by decide +kernel
theorem dX11_setVertexCount_17 : decode cX11_setVertexCount 17 = .ok (.getfield 78, 3) := by decide +kernel
theorem dX11_setVertexCount_20 : decode cX11_setVertexCount 20 = .ok (.istore_n 2, 1) := by decide +kernel
theorem dX11_setVertexCount_21 : decode cX11_setVertexCount 21 = .ok (.aload_n 0, 1) := by decide +kernel
theorem dX11_setVertexCount_22 : decode cX11_setVertexCount 22 = .ok (.iload_n 1, 1) := by decide +kernel
theorem dX11_setVertexCount_23 : decode cX11_setVertexCount 23 = .ok (.lconst 0, 1) := by decide +kernel
theorem dX11_setVertexCount_24 : decode cX11_setVertexCount 24 = .ok (.invokevirtual 82, 3) := by decide +kernel
theorem dX11_setVertexCount_27 : decode cX11_setVertexCount 27 = .ok (.aload_n 0, 1) := by decide +kernel
theorem dX11_setVertexCount_28 : decode cX11_setVertexCount 28 = .ok (.getfield 39, 3) := by decide +kernel
theorem dX11_setVertexCount_31 : decode cX11_setVertexCount 31 = .ok (.iconst 0, 1) := by decide +kernel
theorem dX11_setVertexCount_32 : decode cX11_setVertexCount 32 = .ok (.putfield 86, 3) := by decide +kernel
theorem dX11_setVertexCount_35 : decode cX11_setVertexCount 35 = .ok (.iload_n 2, 1) := by decide +kernel
theorem dX11_setVertexCount_36 : decode cX11_setVertexCount 36 = .ok (.ireturn, 1) := by decide +kernel
theorem dX11_toggleEdge_0 : decode cX11_toggleEdge 0 = .ok (.aload_n 0, 1) := by decide +kernel
theorem dX11_toggleEdge_1 : decode cX11_toggleEdge 1 = .ok (.iload_n 1, 1) := by decide +kernel
theorem dX11_toggleEdge_2 : decode cX11_toggleEdge 2 = .ok (.invokevirtual 89, 3) := by decide +kernel
theorem dX11_toggleEdge_5 : decode cX11_toggleEdge 5 = .ok (.ifCond .eq 16, 3) := by decide +kernel
theorem dX11_toggleEdge_8 : decode cX11_toggleEdge 8 = .ok (.aload_n 0, 1) := by decide +kernel
theorem dX11_toggleEdge_9 : decode cX11_toggleEdge 9 = .ok (.iload_n 2, 1) := by decide +kernel
theorem dX11_toggleEdge_10 : decode cX11_toggleEdge 10 = .ok (.invokevirtual 89, 3) := by decide +kernel
theorem dX11_toggleEdge_13 : decode cX11_toggleEdge 13 = .ok (.ifCond .eq 8, 3) := by decide +kernel
theorem dX11_toggleEdge_16 : decode cX11_toggleEdge 16 = .ok (.iload_n 1, 1) := by decide +kernel
theorem dX11_toggleEdge_17 : decode cX11_toggleEdge 17 = .ok (.iload_n 2, 1) := by decide +kernel
theorem dX11_toggleEdge_18 : decode cX11_toggleEdge 18 = .ok (.if_icmp .ne 5, 3) := by decide +kernel
theorem dX11_toggleEdge_21 : decode cX11_toggleEdge 21 = .ok (.iconst (-1), 1) := by decide +kernel
theorem dX11_toggleEdge_22 : decode cX11_toggleEdge 22 = .ok (.ireturn, 1) := by decide +kernel
theorem dX11_toggleEdge_23 : decode cX11_toggleEdge 23 = .ok (.aload_n 0, 1) := by decide +kernel
theorem dX11_toggleEdge_24 : decode cX11_toggleEdge 24 = .ok (.aload_n 0, 1) := by decide +kernel
theorem dX11_toggleEdge_25 : decode cX11_toggleEdge 25 = .ok (.getfield 14, 3) := by decide +kernel
theorem dX11_toggleEdge_28 : decode cX11_toggleEdge 28 = .ok (.getfield 93, 3) := by decide +kernel
theorem dX11_toggleEdge_31 : decode cX11_toggleEdge 31 = .ok (.iload_n 1, 1) := by decide +kernel
theorem dX11_toggleEdge_32 : decode cX11_toggleEdge 32 = .ok (.iload_n 2, 1) := by decide +kernel
theorem dX11_toggleEdge_33 : decode cX11_toggleEdge 33 = .ok (.invokestatic 97, 3) := by decide +kernel
theorem dX11_toggleEdge_36 : decode cX11_toggleEdge 36 = .ok (.lxor, 1) := by decide +kernel
theorem dX11_toggleEdge_37 : decode cX11_toggleEdge 37 = .ok (.invokevirtual 101, 3) := by decide +kernel
theorem dX11_toggleEdge_40 : decode cX11_toggleEdge 40 = .ok (.aload_n 0, 1) := by decide +kernel
theorem dX11_toggleEdge_41 : decode cX11_toggleEdge 41 = .ok (.getfield 14, 3) := by decide +kernel
theorem dX11_toggleEdge_44 : decode cX11_toggleEdge 44 = .ok (.getfield 93, 3) := by decide +kernel
theorem dX11_toggleEdge_47 : decode cX11_toggleEdge 47 = .ok (.iload_n 1, 1) := by decide +kernel
theorem dX11_toggleEdge_48 : decode cX11_toggleEdge 48 = .ok (.invokestatic 105, 3) := by decide +kernel
theorem dX11_toggleEdge_51 : decode cX11_toggleEdge 51 = .ok (.iload_n 2, 1) := by decide +kernel
theorem dX11_toggleEdge_52 : decode cX11_toggleEdge 52 = .ok (.ishr, 1) := by decide +kernel
theorem dX11_toggleEdge_53 : decode cX11_toggleEdge 53 = .ok (.iconst 1, 1) := by decide +kernel
theorem dX11_toggleEdge_54 : decode cX11_toggleEdge 54 = .ok (.iand, 1) := by decide +kernel
theorem dX11_toggleEdge_55 : decode cX11_toggleEdge 55 = .ok (.ireturn, 1) := by decide +kernel
theorem dX11_build_0 : decode cX11_build 0 = .ok (.iload_n 1, 1) := by decide +kernel
theorem dX11_build_1 : decode cX11_build 1 = .ok (.ifCond .lt 8, 3) := by decide +kernel
theorem dX11_build_4 : decode cX11_build 4 = .ok (.iload_n 1, 1) := by decide +kernel
theorem dX11_build_5 : decode cX11_build 5 = .ok (.iconst 5, 1) := by decide +kernel
theorem dX11_build_6 : decode cX11_build 6 = .ok (.if_icmp .le 5, 3) := by decide +kernel
theorem dX11_build_9 : decode cX11_build 9 = .ok (.iconst (-1), 1) := by decide +kernel
theorem dX11_build_10 : decode cX11_build 10 = .ok (.ireturn, 1) := by decide +kernel
theorem dX11_build_11 : decode cX11_build 11 = .ok (.iload_n 1, 1) := by decide +kernel
theorem dX11_build_12 : decode cX11_build 12 = .ok (.iconst 1, 1) := by decide +kernel
theorem dX11_build_13 : decode cX11_build 13 = .ok (.if_icmp .ne 17, 3) := by decide +kernel
theorem dX11_build_16 : decode cX11_build 16 = .ok (.aload_n 0, 1) := by decide +kernel
theorem dX11_build_17 : decode cX11_build 17 = .ok (.getfield 14, 3) := by decide +kernel
theorem dX11_build_20 : decode cX11_build 20 = .ok (.getfield 78, 3) := by decide +kernel
theorem dX11_build_23 : decode cX11_build 23 = .ok (.iconst 3, 1) := by decide +kernel
theorem dX11_build_24 : decode cX11_build 24 = .ok (.if_icmp .ge 6, 3) := by decide +kernel
theorem dX11_build_27 : decode cX11_build 27 = .ok (.bipush (-5), 2) := by decide +kernel
theorem dX11_build_29 : decode cX11_build 29 = .ok (.ireturn, 1) := by decide +kernel
theorem dX11_build_30 : decode cX11_build 30 = .ok (.aload_n 0, 1) := by decide +kernel
theorem dX11_build_31 : decode cX11_build 31 = .ok (.aload_n 0, 1) := by decide +kernel
theorem dX11_build_32 : decode cX11_build 32 = .ok (.getfield 14, 3) := by decide +kernel
theorem dX11_build_35 : decode cX11_build 35 = .ok (.iload_n 1, 1) := by decide +kernel
theorem dX11_build_36 : decode cX11_build 36 = .ok (.invokevirtual 109, 3) := by decide +kernel
theorem dX11_build_39 : decode cX11_build 39 = .ok (.invokevirtual 101, 3) := by decide +kernel
theorem dX11_build_42 : decode cX11_build 42 = .ok (.aload_n 0, 1) := by decide +kernel
theorem dX11_build_43 : decode cX11_build 43 = .ok (.getfield 14, 3) := by decide +kernel
theorem dX11_build_46 : decode cX11_build 46 = .ok (.invokevirtual 113, 3) := by decide +kernel
theorem dX11_build_49 : decode cX11_build 49 = .ok (.ireturn, 1) := by decide +kernel
theorem dX11_revertChange_0 : decode cX11_revertChange 0 = .ok (.aload_n 0, 1) := by decide +kernel
theorem dX11_revertChange_1 : decode cX11_revertChange 1 = .ok (.getfield 39, 3) := by decide +kernel
theorem dX11_revertChange_4 : decode cX11_revertChange 4 = .ok (.getfield 86, 3) := by decide +kernel
theorem dX11_revertChange_7 : decode cX11_revertChange 7 = .ok (.ifCond .ne 6, 3) := by decide +kernel
theorem dX11_revertChange_10 : decode cX11_revertChange 10 = .ok (.bipush (-5), 2) := by decide +kernel
theorem dX11_revertChange_12 : decode cX11_revertChange 12 = .ok (.ireturn, 1) := by decide +kernel
theorem dX11_revertChange_13 : decode cX11_revertChange 13 = .ok (.aload_n 0, 1) := by decide +kernel
theorem dX11_revertChange_14 : decode cX11_revertChange 14 = .ok (.aload_n 0, 1) := by decide +kernel
theorem dX11_revertChange_15 : decode cX11_revertChange 15 = .ok (.getfield 14, 3) := by decide +kernel
theorem dX11_revertChange_18 : decode cX11_revertChange 18 = .ok (.getfield 78, 3) := by decide +kernel
theorem dX11_revertChange_21 : decode cX11_revertChange 21 = .ok (.aload_n 0, 1) := by decide +kernel
theorem dX11_revertChange_22 : decode cX11_revertChange 22 = .ok (.getfield 39, 3) := by decide +kernel
theorem dX11_revertChange_25 : decode cX11_revertChange 25 = .ok (.invokevirtual 117, 3) := by decide +kernel
theorem dX11_revertChange_28 : decode cX11_revertChange 28 = .ok (.invokevirtual 82, 3) := by decide +kernel
theorem dX11_revertChange_31 : decode cX11_revertChange 31 = .ok (.aload_n 0, 1) := by decide +kernel
theorem dX11_revertChange_32 : decode cX11_revertChange 32 = .ok (.getfield 39, 3) := by decide +kernel
theorem dX11_revertChange_35 : decode cX11_revertChange 35 = .ok (.getfield 86, 3) := by decide +kernel
theorem dX11_revertChange_38 : decode cX11_revertChange 38 = .ok (.ireturn, 1) := by decide +kernel
theorem dX11_changeCount_0 : decode cX11_changeCount 0 = .ok (.aload_n 0, 1) := by decide +kernel
theorem dX11_changeCount_1 : decode cX11_changeCount 1 = .ok (.getfield 39, 3) := by decide +kernel
theorem dX11_changeCount_4 : decode cX11_changeCount 4 = .ok (.getfield 86, 3) := by decide +kernel
theorem dX11_changeCount_7 : decode cX11_changeCount 7 = .ok (.ireturn, 1) := by decide +kernel
theorem dX11_recordChange_0 : decode cX11_recordChange 0 = .ok (.aload_n 0, 1) := by decide +kernel
end
section
theorem dX11_recordChange_1 : decode cX11_recordChange 1 = .ok (.getfield 39, 3) := by decide +kernel
theorem dX11_recordChange_4 : decode cX11_recordChange 4 = .ok (.aload_n 0, 1) := by decide +kernel
theorem dX11_recordChange_5 : decode cX11_recordChange 5 = .ok (.getfield 14, 3) := by decide +kernel
theorem dX11_recordChange_8 : decode cX11_recordChange 8 = .ok (.getfield 93, 3) := by decide +kernel
theorem dX11_recordChange_11 : decode cX11_recordChange 11 = .ok (.invokevirtual 121, 3) := by decide +kernel
theorem dX11_recordChange_14 : decode cX11_recordChange 14 = .ok (.aload_n 0, 1) := by decide +kernel
theorem dX11_recordChange_15 : decode cX11_recordChange 15 = .ok (.aload_n 0, 1) := by decide +kernel
theorem dX11_recordChange_16 : decode cX11_recordChange 16 = .ok (.getfield 14, 3) := by decide +kernel
theorem dX11_recordChange_19 : decode cX11_recordChange 19 = .ok (.getfield 78, 3) := by decide +kernel
theorem dX11_recordChange_22 : decode cX11_recordChange 22 = .ok (.lload_n 1, 1) := by decide +kernel
theorem dX11_recordChange_23 : decode cX11_recordChange 23 = .ok (.invokevirtual 82, 3) := by decide +kernel
theorem dX11_recordChange_26 : decode cX11_recordChange 26 = .ok (.return_, 1) := by decide +kernel
theorem dX11_replaceGraph_0 : decode cX11_replaceGraph 0 = .ok (.aload_n 0, 1) := by decide +kernel
theorem dX11_replaceGraph_1 : decode cX11_replaceGraph 1 = .ok (.getfield 14, 3) := by decide +kernel
theorem dX11_replaceGraph_4 : decode cX11_replaceGraph 4 = .ok (.iload_n 1, 1) := by decide +kernel
theorem dX11_replaceGraph_5 : decode cX11_replaceGraph 5 = .ok (.putfield 78, 3) := by decide +kernel
theorem dX11_replaceGraph_8 : decode cX11_replaceGraph 8 = .ok (.aload_n 0, 1) := by decide +kernel
theorem dX11_replaceGraph_9 : decode cX11_replaceGraph 9 = .ok (.getfield 14, 3) := by decide +kernel
theorem dX11_replaceGraph_12 : decode cX11_replaceGraph 12 = .ok (.lload_n 2, 1) := by decide +kernel
theorem dX11_replaceGraph_13 : decode cX11_replaceGraph 13 = .ok (.putfield 93, 3) := by decide +kernel
theorem dX11_replaceGraph_16 : decode cX11_replaceGraph 16 = .ok (.aload_n 0, 1) := by decide +kernel
theorem dX11_replaceGraph_17 : decode cX11_replaceGraph 17 = .ok (.getfield 23, 3) := by decide +kernel
theorem dX11_replaceGraph_20 : decode cX11_replaceGraph 20 = .ok (.invokevirtual 124, 3) := by decide +kernel
theorem dX11_replaceGraph_23 : decode cX11_replaceGraph 23 = .ok (.aload_n 0, 1) := by decide +kernel
theorem dX11_replaceGraph_24 : decode cX11_replaceGraph 24 = .ok (.getfield 32, 3) := by decide +kernel
theorem dX11_replaceGraph_27 : decode cX11_replaceGraph 27 = .ok (.invokevirtual 127, 3) := by decide +kernel
theorem dX11_replaceGraph_30 : decode cX11_replaceGraph 30 = .ok (.return_, 1) := by decide +kernel
theorem dX11_vertexCount_0 : decode cX11_vertexCount 0 = .ok (.aload_n 0, 1) := by decide +kernel
theorem dX11_vertexCount_1 : decode cX11_vertexCount 1 = .ok (.getfield 14, 3) := by decide +kernel
theorem dX11_vertexCount_4 : decode cX11_vertexCount 4 = .ok (.getfield 78, 3) := by decide +kernel
theorem dX11_vertexCount_7 : decode cX11_vertexCount 7 = .ok (.ireturn, 1) := by decide +kernel
theorem dX11_edgeCount_0 : decode cX11_edgeCount 0 = .ok (.aload_n 0, 1) := by decide +kernel
theorem dX11_edgeCount_1 : decode cX11_edgeCount 1 = .ok (.getfield 14, 3) := by decide +kernel
theorem dX11_edgeCount_4 : decode cX11_edgeCount 4 = .ok (.invokevirtual 113, 3) := by decide +kernel
theorem dX11_edgeCount_7 : decode cX11_edgeCount 7 = .ok (.ireturn, 1) := by decide +kernel
theorem dX11_neighbors_0 : decode cX11_neighbors 0 = .ok (.aload_n 0, 1) := by decide +kernel
theorem dX11_neighbors_1 : decode cX11_neighbors 1 = .ok (.iload_n 1, 1) := by decide +kernel
theorem dX11_neighbors_2 : decode cX11_neighbors 2 = .ok (.invokevirtual 89, 3) := by decide +kernel
theorem dX11_neighbors_5 : decode cX11_neighbors 5 = .ok (.ifCond .eq 17, 3) := by decide +kernel
theorem dX11_neighbors_8 : decode cX11_neighbors 8 = .ok (.aload_n 0, 1) := by decide +kernel
theorem dX11_neighbors_9 : decode cX11_neighbors 9 = .ok (.getfield 14, 3) := by decide +kernel
theorem dX11_neighbors_12 : decode cX11_neighbors 12 = .ok (.getfield 93, 3) := by decide +kernel
theorem dX11_neighbors_15 : decode cX11_neighbors 15 = .ok (.iload_n 1, 1) := by decide +kernel
theorem dX11_neighbors_16 : decode cX11_neighbors 16 = .ok (.invokestatic 105, 3) := by decide +kernel
theorem dX11_neighbors_19 : decode cX11_neighbors 19 = .ok (.goto 4, 3) := by decide +kernel
theorem dX11_neighbors_22 : decode cX11_neighbors 22 = .ok (.iconst (-1), 1) := by decide +kernel
theorem dX11_neighbors_23 : decode cX11_neighbors 23 = .ok (.ireturn, 1) := by decide +kernel
theorem dX11_componentCount_0 : decode cX11_componentCount 0 = .ok (.aload_n 0, 1) := by decide +kernel
theorem dX11_componentCount_1 : decode cX11_componentCount 1 = .ok (.getfield 14, 3) := by decide +kernel
theorem dX11_componentCount_4 : decode cX11_componentCount 4 = .ok (.invokevirtual 128, 3) := by decide +kernel
theorem dX11_componentCount_7 : decode cX11_componentCount 7 = .ok (.ireturn, 1) := by decide +kernel
theorem dX11_hasOddCycle_0 : decode cX11_hasOddCycle 0 = .ok (.aload_n 0, 1) := by decide +kernel
theorem dX11_hasOddCycle_1 : decode cX11_hasOddCycle 1 = .ok (.getfield 14, 3) := by decide +kernel
theorem dX11_hasOddCycle_4 : decode cX11_hasOddCycle 4 = .ok (.invokevirtual 131, 3) := by decide +kernel
theorem dX11_hasOddCycle_7 : decode cX11_hasOddCycle 7 = .ok (.ifCond .eq 7, 3) := by decide +kernel
theorem dX11_hasOddCycle_10 : decode cX11_hasOddCycle 10 = .ok (.iconst 0, 1) := by decide +kernel
theorem dX11_hasOddCycle_11 : decode cX11_hasOddCycle 11 = .ok (.goto 4, 3) := by decide +kernel
theorem dX11_hasOddCycle_14 : decode cX11_hasOddCycle 14 = .ok (.iconst 1, 1) := by decide +kernel
theorem dX11_hasOddCycle_15 : decode cX11_hasOddCycle 15 = .ok (.ireturn, 1) := by decide +kernel
theorem dX11_matchingNumber_0 : decode cX11_matchingNumber 0 = .ok (.aload_n 0, 1) := by decide +kernel
theorem dX11_matchingNumber_1 : decode cX11_matchingNumber 1 = .ok (.getfield 23, 3) := by decide +kernel
theorem dX11_matchingNumber_4 : decode cX11_matchingNumber 4 = .ok (.sipush 5461, 3) := by decide +kernel
theorem dX11_matchingNumber_7 : decode cX11_matchingNumber 7 = .ok (.aload_n 0, 1) := by decide +kernel
theorem dX11_matchingNumber_8 : decode cX11_matchingNumber 8 = .ok (.getfield 14, 3) := by decide +kernel
theorem dX11_matchingNumber_11 : decode cX11_matchingNumber 11 = .ok (.invokevirtual 137, 3) := by decide +kernel
theorem dX11_matchingNumber_14 : decode cX11_matchingNumber 14 = .ok (.iand, 1) := by decide +kernel
theorem dX11_matchingNumber_15 : decode cX11_matchingNumber 15 = .ok (.invokevirtual 140, 3) := by decide +kernel
theorem dX11_matchingNumber_18 : decode cX11_matchingNumber 18 = .ok (.ireturn, 1) := by decide +kernel
theorem dX11_coverCount_0 : decode cX11_coverCount 0 = .ok (.aload_n 0, 1) := by decide +kernel
theorem dX11_coverCount_1 : decode cX11_coverCount 1 = .ok (.getfield 23, 3) := by decide +kernel
theorem dX11_coverCount_4 : decode cX11_coverCount 4 = .ok (.invokevirtual 144, 3) := by decide +kernel
theorem dX11_coverCount_7 : decode cX11_coverCount 7 = .ok (.getfield 148, 3) := by decide +kernel
theorem dX11_coverCount_10 : decode cX11_coverCount 10 = .ok (.ireturn, 1) := by decide +kernel
theorem dX11_cover_0 : decode cX11_cover 0 = .ok (.aload_n 0, 1) := by decide +kernel
theorem dX11_cover_1 : decode cX11_cover 1 = .ok (.getfield 23, 3) := by decide +kernel
theorem dX11_cover_4 : decode cX11_cover 4 = .ok (.invokevirtual 144, 3) := by decide +kernel
theorem dX11_cover_7 : decode cX11_cover 7 = .ok (.iload_n 1, 1) := by decide +kernel
theorem dX11_cover_8 : decode cX11_cover 8 = .ok (.invokestatic 151, 3) := by decide +kernel
theorem dX11_cover_11 : decode cX11_cover 11 = .ok (.ireturn, 1) := by decide +kernel
theorem dX11_height_0 : decode cX11_height 0 = .ok (.aload_n 0, 1) := by decide +kernel
theorem dX11_height_1 : decode cX11_height 1 = .ok (.getfield 23, 3) := by decide +kernel
theorem dX11_height_4 : decode cX11_height 4 = .ok (.invokevirtual 155, 3) := by decide +kernel
theorem dX11_height_7 : decode cX11_height 7 = .ok (.ireturn, 1) := by decide +kernel
theorem dX11_bigHeight_0 : decode cX11_bigHeight 0 = .ok (.aload_n 0, 1) := by decide +kernel
theorem dX11_bigHeight_1 : decode cX11_bigHeight 1 = .ok (.getfield 23, 3) := by decide +kernel
theorem dX11_bigHeight_4 : decode cX11_bigHeight 4 = .ok (.invokevirtual 158, 3) := by decide +kernel
theorem dX11_bigHeight_7 : decode cX11_bigHeight 7 = .ok (.ireturn, 1) := by decide +kernel
theorem dX11_eliminationLength_0 : decode cX11_eliminationLength 0 = .ok (.iload_n 1, 1) := by decide +kernel
theorem dX11_eliminationLength_1 : decode cX11_eliminationLength 1 = .ok (.invokestatic 161, 3) := by decide +kernel
theorem dX11_eliminationLength_4 : decode cX11_eliminationLength 4 = .ok (.ifCond .eq 17, 3) := by decide +kernel
theorem dX11_eliminationLength_7 : decode cX11_eliminationLength 7 = .ok (.aload_n 0, 1) := by decide +kernel
theorem dX11_eliminationLength_8 : decode cX11_eliminationLength 8 = .ok (.getfield 14, 3) := by decide +kernel
theorem dX11_eliminationLength_11 : decode cX11_eliminationLength 11 = .ok (.iload_n 1, 1) := by decide +kernel
theorem dX11_eliminationLength_12 : decode cX11_eliminationLength 12 = .ok (.invokevirtual 164, 3) := by decide +kernel
theorem dX11_eliminationLength_15 : decode cX11_eliminationLength 15 = .ok (.getfield 148, 3) := by decide +kernel
theorem dX11_eliminationLength_18 : decode cX11_eliminationLength 18 = .ok (.goto 4, 3) := by decide +kernel
theorem dX11_eliminationLength_21 : decode cX11_eliminationLength 21 = .ok (.iconst (-1), 1) := by decide +kernel
theorem dX11_eliminationLength_22 : decode cX11_eliminationLength 22 = .ok (.ireturn, 1) := by decide +kernel
theorem dX11_eliminated_0 : decode cX11_eliminated 0 = .ok (.iload_n 1, 1) := by decide +kernel
theorem dX11_eliminated_1 : decode cX11_eliminated 1 = .ok (.invokestatic 161, 3) := by decide +kernel
theorem dX11_eliminated_4 : decode cX11_eliminated 4 = .ok (.ifCond .eq 18, 3) := by decide +kernel
theorem dX11_eliminated_7 : decode cX11_eliminated 7 = .ok (.aload_n 0, 1) := by decide +kernel
theorem dX11_eliminated_8 : decode cX11_eliminated 8 = .ok (.getfield 14, 3) := by decide +kernel
theorem dX11_eliminated_11 : decode cX11_eliminated 11 = .ok (.iload_n 1, 1) := by decide +kernel
theorem dX11_eliminated_12 : decode cX11_eliminated 12 = .ok (.invokevirtual 164, 3) := by decide +kernel
theorem dX11_eliminated_15 : decode cX11_eliminated 15 = .ok (.iload_n 2, 1) := by decide +kernel
theorem dX11_eliminated_16 : decode cX11_eliminated 16 = .ok (.invokestatic 151, 3) := by decide +kernel
theorem dX11_eliminated_19 : decode cX11_eliminated 19 = .ok (.goto 4, 3) := by decide +kernel
theorem dX11_eliminated_22 : decode cX11_eliminated 22 = .ok (.iconst (-1), 1) := by decide +kernel
theorem dX11_eliminated_23 : decode cX11_eliminated 23 = .ok (.ireturn, 1) := by decide +kernel
theorem dX11_isChordal_0 : decode cX11_isChordal 0 = .ok (.iload_n 1, 1) := by decide +kernel
theorem dX11_isChordal_1 : decode cX11_isChordal 1 = .ok (.invokestatic 161, 3) := by decide +kernel
theorem dX11_isChordal_4 : decode cX11_isChordal 4 = .ok (.ifCond .ne 5, 3) := by decide +kernel
theorem dX11_isChordal_7 : decode cX11_isChordal 7 = .ok (.iconst (-1), 1) := by decide +kernel
theorem dX11_isChordal_8 : decode cX11_isChordal 8 = .ok (.ireturn, 1) := by decide +kernel
theorem dX11_isChordal_9 : decode cX11_isChordal 9 = .ok (.aload_n 0, 1) := by decide +kernel
theorem dX11_isChordal_10 : decode cX11_isChordal 10 = .ok (.getfield 14, 3) := by decide +kernel
theorem dX11_isChordal_13 : decode cX11_isChordal 13 = .ok (.iload_n 1, 1) := by decide +kernel
theorem dX11_isChordal_14 : decode cX11_isChordal 14 = .ok (.invokevirtual 164, 3) := by decide +kernel
theorem dX11_isChordal_17 : decode cX11_isChordal 17 = .ok (.getfield 148, 3) := by decide +kernel
theorem dX11_isChordal_20 : decode cX11_isChordal 20 = .ok (.aload_n 0, 1) := by decide +kernel
theorem dX11_isChordal_21 : decode cX11_isChordal 21 = .ok (.getfield 14, 3) := by decide +kernel
theorem dX11_isChordal_24 : decode cX11_isChordal 24 = .ok (.getfield 78, 3) := by decide +kernel
theorem dX11_isChordal_27 : decode cX11_isChordal 27 = .ok (.if_icmp .ne 7, 3) := by decide +kernel
theorem dX11_isChordal_30 : decode cX11_isChordal 30 = .ok (.iconst 1, 1) := by decide +kernel
theorem dX11_isChordal_31 : decode cX11_isChordal 31 = .ok (.goto 4, 3) := by decide +kernel
theorem dX11_isChordal_34 : decode cX11_isChordal 34 = .ok (.iconst 0, 1) := by decide +kernel
theorem dX11_isChordal_35 : decode cX11_isChordal 35 = .ok (.ireturn, 1) := by decide +kernel
theorem dX11_degree_0 : decode cX11_degree 0 = .ok (.aload_n 0, 1) := by decide +kernel
theorem dX11_degree_1 : decode cX11_degree 1 = .ok (.iload_n 1, 1) := by decide +kernel
theorem dX11_degree_2 : decode cX11_degree 2 = .ok (.invokevirtual 168, 3) := by decide +kernel
theorem dX11_degree_5 : decode cX11_degree 5 = .ok (.ifCond .eq 10, 3) := by decide +kernel
theorem dX11_degree_8 : decode cX11_degree 8 = .ok (.iload_n 1, 1) := by decide +kernel
theorem dX11_degree_9 : decode cX11_degree 9 = .ok (.invokestatic 171, 3) := by decide +kernel
theorem dX11_degree_12 : decode cX11_degree 12 = .ok (.goto 4, 3) := by decide +kernel
theorem dX11_degree_15 : decode cX11_degree 15 = .ok (.iconst (-1), 1) := by decide +kernel
theorem dX11_degree_16 : decode cX11_degree 16 = .ok (.ireturn, 1) := by decide +kernel
theorem dX11_exponent_0 : decode cX11_exponent 0 = .ok (.aload_n 0, 1) := by decide +kernel
theorem dX11_exponent_1 : decode cX11_exponent 1 = .ok (.iload_n 1, 1) := by decide +kernel
theorem dX11_exponent_2 : decode cX11_exponent 2 = .ok (.invokevirtual 168, 3) := by decide +kernel
theorem dX11_exponent_5 : decode cX11_exponent 5 = .ok (.ifCond .eq 19, 3) := by decide +kernel
theorem dX11_exponent_8 : decode cX11_exponent 8 = .ok (.aload_n 0, 1) := by decide +kernel
theorem dX11_exponent_9 : decode cX11_exponent 9 = .ok (.iload_n 2, 1) := by decide +kernel
theorem dX11_exponent_10 : decode cX11_exponent 10 = .ok (.invokevirtual 89, 3) := by decide +kernel
theorem dX11_exponent_13 : decode cX11_exponent 13 = .ok (.ifCond .eq 11, 3) := by decide +kernel
theorem dX11_exponent_16 : decode cX11_exponent 16 = .ok (.iload_n 1, 1) := by decide +kernel
theorem dX11_exponent_17 : decode cX11_exponent 17 = .ok (.iload_n 2, 1) := by decide +kernel
theorem dX11_exponent_18 : decode cX11_exponent 18 = .ok (.invokestatic 174, 3) := by decide +kernel
theorem dX11_exponent_21 : decode cX11_exponent 21 = .ok (.goto 4, 3) := by decide +kernel
theorem dX11_exponent_24 : decode cX11_exponent 24 = .ok (.iconst (-1), 1) := by decide +kernel
theorem dX11_exponent_25 : decode cX11_exponent 25 = .ok (.ireturn, 1) := by decide +kernel
theorem dX11_powerOrder_0 : decode cX11_powerOrder 0 = .ok (.aload_n 0, 1) := by decide +kernel
theorem dX11_powerOrder_1 : decode cX11_powerOrder 1 = .ok (.iload_n 1, 1) := by decide +kernel
theorem dX11_powerOrder_2 : decode cX11_powerOrder 2 = .ok (.invokevirtual 168, 3) := by decide +kernel
theorem dX11_powerOrder_5 : decode cX11_powerOrder 5 = .ok (.ifCond .eq 14, 3) := by decide +kernel
theorem dX11_powerOrder_8 : decode cX11_powerOrder 8 = .ok (.aload_n 0, 1) := by decide +kernel
theorem dX11_powerOrder_9 : decode cX11_powerOrder 9 = .ok (.getfield 23, 3) := by decide +kernel
theorem dX11_powerOrder_12 : decode cX11_powerOrder 12 = .ok (.iload_n 1, 1) := by decide +kernel
theorem dX11_powerOrder_13 : decode cX11_powerOrder 13 = .ok (.invokevirtual 140, 3) := by decide +kernel
theorem dX11_powerOrder_16 : decode cX11_powerOrder 16 = .ok (.goto 4, 3) := by decide +kernel
theorem dX11_powerOrder_19 : decode cX11_powerOrder 19 = .ok (.iconst (-1), 1) := by decide +kernel
theorem dX11_powerOrder_20 : decode cX11_powerOrder 20 = .ok (.ireturn, 1) := by decide +kernel
theorem dX11_symbolicOrder_0 : decode cX11_symbolicOrder 0 = .ok (.aload_n 0, 1) := by decide +kernel
theorem dX11_symbolicOrder_1 : decode cX11_symbolicOrder 1 = .ok (.iload_n 1, 1) := by decide +kernel
theorem dX11_symbolicOrder_2 : decode cX11_symbolicOrder 2 = .ok (.invokevirtual 168, 3) := by decide +kernel
theorem dX11_symbolicOrder_5 : decode cX11_symbolicOrder 5 = .ok (.ifCond .eq 14, 3) := by decide +kernel
theorem dX11_symbolicOrder_8 : decode cX11_symbolicOrder 8 = .ok (.aload_n 0, 1) := by decide +kernel
theorem dX11_symbolicOrder_9 : decode cX11_symbolicOrder 9 = .ok (.getfield 23, 3) := by decide +kernel
theorem dX11_symbolicOrder_12 : decode cX11_symbolicOrder 12 = .ok (.iload_n 1, 1) := by decide +kernel
theorem dX11_symbolicOrder_13 : decode cX11_symbolicOrder 13 = .ok (.invokevirtual 178, 3) := by decide +kernel
theorem dX11_symbolicOrder_16 : decode cX11_symbolicOrder 16 = .ok (.goto 4, 3) := by decide +kernel
theorem dX11_symbolicOrder_19 : decode cX11_symbolicOrder 19 = .ok (.iconst (-1), 1) := by decide +kernel
theorem dX11_symbolicOrder_20 : decode cX11_symbolicOrder 20 = .ok (.ireturn, 1) := by decide +kernel
theorem dX11_multiply_0 : decode cX11_multiply 0 = .ok (.aload_n 0, 1) := by decide +kernel
theorem dX11_multiply_1 : decode cX11_multiply 1 = .ok (.iload_n 1, 1) := by decide +kernel
theorem dX11_multiply_2 : decode cX11_multiply 2 = .ok (.invokevirtual 168, 3) := by decide +kernel
theorem dX11_multiply_5 : decode cX11_multiply 5 = .ok (.ifCond .eq 11, 3) := by decide +kernel
theorem dX11_multiply_8 : decode cX11_multiply 8 = .ok (.aload_n 0, 1) := by decide +kernel
theorem dX11_multiply_9 : decode cX11_multiply 9 = .ok (.iload_n 2, 1) := by decide +kernel
theorem dX11_multiply_10 : decode cX11_multiply 10 = .ok (.invokevirtual 168, 3) := by decide +kernel
theorem dX11_multiply_13 : decode cX11_multiply 13 = .ok (.ifCond .ne 5, 3) := by decide +kernel
theorem dX11_multiply_16 : decode cX11_multiply 16 = .ok (.iconst (-1), 1) := by decide +kernel
theorem dX11_multiply_17 : decode cX11_multiply 17 = .ok (.ireturn, 1) := by decide +kernel
theorem dX11_multiply_18 : decode cX11_multiply 18 = .ok (.iload_n 1, 1) := by decide +kernel
theorem dX11_multiply_19 : decode cX11_multiply 19 = .ok (.sipush 16383, 3) := by decide +kernel
theorem dX11_multiply_22 : decode cX11_multiply 22 = .ok (.iload_n 2, 1) := by decide +kernel
theorem dX11_multiply_23 : decode cX11_multiply 23 = .ok (.isub, 1) := by decide +kernel
theorem dX11_multiply_24 : decode cX11_multiply 24 = .ok (.invokestatic 181, 3) := by decide +kernel
theorem dX11_multiply_27 : decode cX11_multiply 27 = .ok (.ifCond .eq 9, 3) := by decide +kernel
theorem dX11_multiply_30 : decode cX11_multiply 30 = .ok (.iload_n 1, 1) := by decide +kernel
theorem dX11_multiply_31 : decode cX11_multiply 31 = .ok (.iload_n 2, 1) := by decide +kernel
theorem dX11_multiply_32 : decode cX11_multiply 32 = .ok (.iadd, 1) := by decide +kernel
theorem dX11_multiply_33 : decode cX11_multiply 33 = .ok (.goto 5, 3) := by decide +kernel
theorem dX11_multiply_36 : decode cX11_multiply 36 = .ok (.bipush (-3), 2) := by decide +kernel
theorem dX11_multiply_38 : decode cX11_multiply 38 = .ok (.ireturn, 1) := by decide +kernel
theorem dX11_divide_0 : decode cX11_divide 0 = .ok (.aload_n 0, 1) := by decide +kernel
theorem dX11_divide_1 : decode cX11_divide 1 = .ok (.iload_n 1, 1) := by decide +kernel
theorem dX11_divide_2 : decode cX11_divide 2 = .ok (.invokevirtual 168, 3) := by decide +kernel
theorem dX11_divide_5 : decode cX11_divide 5 = .ok (.ifCond .eq 11, 3) := by decide +kernel
theorem dX11_divide_8 : decode cX11_divide 8 = .ok (.aload_n 0, 1) := by decide +kernel
theorem dX11_divide_9 : decode cX11_divide 9 = .ok (.iload_n 2, 1) := by decide +kernel
theorem dX11_divide_10 : decode cX11_divide 10 = .ok (.invokevirtual 168, 3) := by decide +kernel
theorem dX11_divide_13 : decode cX11_divide 13 = .ok (.ifCond .ne 5, 3) := by decide +kernel
theorem dX11_divide_16 : decode cX11_divide 16 = .ok (.iconst (-1), 1) := by decide +kernel
theorem dX11_divide_17 : decode cX11_divide 17 = .ok (.ireturn, 1) := by decide +kernel
theorem dX11_divide_18 : decode cX11_divide 18 = .ok (.iload_n 2, 1) := by decide +kernel
theorem dX11_divide_19 : decode cX11_divide 19 = .ok (.iload_n 1, 1) := by decide +kernel
theorem dX11_divide_20 : decode cX11_divide 20 = .ok (.invokestatic 181, 3) := by decide +kernel
theorem dX11_divide_23 : decode cX11_divide 23 = .ok (.ifCond .eq 9, 3) := by decide +kernel
theorem dX11_divide_26 : decode cX11_divide 26 = .ok (.iload_n 1, 1) := by decide +kernel
theorem dX11_divide_27 : decode cX11_divide 27 = .ok (.iload_n 2, 1) := by decide +kernel
theorem dX11_divide_28 : decode cX11_divide 28 = .ok (.isub, 1) := by decide +kernel
theorem dX11_divide_29 : decode cX11_divide 29 = .ok (.goto 5, 3) := by decide +kernel
theorem dX11_divide_32 : decode cX11_divide 32 = .ok (.bipush (-5), 2) := by decide +kernel
theorem dX11_divide_34 : decode cX11_divide 34 = .ok (.ireturn, 1) := by decide +kernel
theorem dX11_lcm_0 : decode cX11_lcm 0 = .ok (.aload_n 0, 1) := by decide +kernel
theorem dX11_lcm_1 : decode cX11_lcm 1 = .ok (.iload_n 1, 1) := by decide +kernel
theorem dX11_lcm_2 : decode cX11_lcm 2 = .ok (.invokevirtual 168, 3) := by decide +kernel
theorem dX11_lcm_5 : decode cX11_lcm 5 = .ok (.ifCond .eq 23, 3) := by decide +kernel
theorem dX11_lcm_8 : decode cX11_lcm 8 = .ok (.aload_n 0, 1) := by decide +kernel
theorem dX11_lcm_9 : decode cX11_lcm 9 = .ok (.iload_n 2, 1) := by decide +kernel
theorem dX11_lcm_10 : decode cX11_lcm 10 = .ok (.invokevirtual 168, 3) := by decide +kernel
theorem dX11_lcm_13 : decode cX11_lcm 13 = .ok (.ifCond .eq 15, 3) := by decide +kernel
theorem dX11_lcm_16 : decode cX11_lcm 16 = .ok (.iload_n 1, 1) := by decide +kernel
theorem dX11_lcm_17 : decode cX11_lcm 17 = .ok (.iload_n 2, 1) := by decide +kernel
theorem dX11_lcm_18 : decode cX11_lcm 18 = .ok (.iadd, 1) := by decide +kernel
theorem dX11_lcm_19 : decode cX11_lcm 19 = .ok (.iload_n 1, 1) := by decide +kernel
theorem dX11_lcm_20 : decode cX11_lcm 20 = .ok (.iload_n 2, 1) := by decide +kernel
theorem dX11_lcm_21 : decode cX11_lcm 21 = .ok (.invokestatic 185, 3) := by decide +kernel
theorem dX11_lcm_24 : decode cX11_lcm 24 = .ok (.isub, 1) := by decide +kernel
theorem dX11_lcm_25 : decode cX11_lcm 25 = .ok (.goto 4, 3) := by decide +kernel
theorem dX11_lcm_28 : decode cX11_lcm 28 = .ok (.iconst (-1), 1) := by decide +kernel
theorem dX11_lcm_29 : decode cX11_lcm 29 = .ok (.ireturn, 1) := by decide +kernel
theorem dX11_gcd_0 : decode cX11_gcd 0 = .ok (.aload_n 0, 1) := by decide +kernel
theorem dX11_gcd_1 : decode cX11_gcd 1 = .ok (.iload_n 1, 1) := by decide +kernel
theorem dX11_gcd_2 : decode cX11_gcd 2 = .ok (.invokevirtual 168, 3) := by decide +kernel
theorem dX11_gcd_5 : decode cX11_gcd 5 = .ok (.ifCond .eq 19, 3) := by decide +kernel
theorem dX11_gcd_8 : decode cX11_gcd 8 = .ok (.aload_n 0, 1) := by decide +kernel
theorem dX11_gcd_9 : decode cX11_gcd 9 = .ok (.iload_n 2, 1) := by decide +kernel
theorem dX11_gcd_10 : decode cX11_gcd 10 = .ok (.invokevirtual 168, 3) := by decide +kernel
theorem dX11_gcd_13 : decode cX11_gcd 13 = .ok (.ifCond .eq 11, 3) := by decide +kernel
theorem dX11_gcd_16 : decode cX11_gcd 16 = .ok (.iload_n 1, 1) := by decide +kernel
theorem dX11_gcd_17 : decode cX11_gcd 17 = .ok (.iload_n 2, 1) := by decide +kernel
theorem dX11_gcd_18 : decode cX11_gcd 18 = .ok (.invokestatic 185, 3) := by decide +kernel
theorem dX11_gcd_21 : decode cX11_gcd 21 = .ok (.goto 4, 3) := by decide +kernel
theorem dX11_gcd_24 : decode cX11_gcd 24 = .ok (.iconst (-1), 1) := by decide +kernel
theorem dX11_gcd_25 : decode cX11_gcd 25 = .ok (.ireturn, 1) := by decide +kernel
theorem dX11_generatorCount_0 : decode cX11_generatorCount 0 = .ok (.iload_n 1, 1) := by decide +kernel
theorem dX11_generatorCount_1 : decode cX11_generatorCount 1 = .ok (.invokestatic 188, 3) := by decide +kernel
theorem dX11_generatorCount_4 : decode cX11_generatorCount 4 = .ok (.ifCond .eq 17, 3) := by decide +kernel
theorem dX11_generatorCount_7 : decode cX11_generatorCount 7 = .ok (.aload_n 0, 1) := by decide +kernel
theorem dX11_generatorCount_8 : decode cX11_generatorCount 8 = .ok (.getfield 23, 3) := by decide +kernel
theorem dX11_generatorCount_11 : decode cX11_generatorCount 11 = .ok (.iload_n 1, 1) := by decide +kernel
theorem dX11_generatorCount_12 : decode cX11_generatorCount 12 = .ok (.invokevirtual 191, 3) := by decide +kernel
theorem dX11_generatorCount_15 : decode cX11_generatorCount 15 = .ok (.getfield 148, 3) := by decide +kernel
theorem dX11_generatorCount_18 : decode cX11_generatorCount 18 = .ok (.goto 4, 3) := by decide +kernel
theorem dX11_generatorCount_21 : decode cX11_generatorCount 21 = .ok (.iconst (-1), 1) := by decide +kernel
theorem dX11_generatorCount_22 : decode cX11_generatorCount 22 = .ok (.ireturn, 1) := by decide +kernel
theorem dX11_generator_0 : decode cX11_generator 0 = .ok (.iload_n 1, 1) := by decide +kernel
theorem dX11_generator_1 : decode cX11_generator 1 = .ok (.invokestatic 188, 3) := by decide +kernel
theorem dX11_generator_4 : decode cX11_generator 4 = .ok (.ifCond .eq 18, 3) := by decide +kernel
theorem dX11_generator_7 : decode cX11_generator 7 = .ok (.aload_n 0, 1) := by decide +kernel
theorem dX11_generator_8 : decode cX11_generator 8 = .ok (.getfield 23, 3) := by decide +kernel
theorem dX11_generator_11 : decode cX11_generator 11 = .ok (.iload_n 1, 1) := by decide +kernel
theorem dX11_generator_12 : decode cX11_generator 12 = .ok (.invokevirtual 191, 3) := by decide +kernel
theorem dX11_generator_15 : decode cX11_generator 15 = .ok (.iload_n 2, 1) := by decide +kernel
theorem dX11_generator_16 : decode cX11_generator 16 = .ok (.invokestatic 151, 3) := by decide +kernel
theorem dX11_generator_19 : decode cX11_generator 19 = .ok (.goto 4, 3) := by decide +kernel
theorem dX11_generator_22 : decode cX11_generator 22 = .ok (.iconst (-1), 1) := by decide +kernel
theorem dX11_generator_23 : decode cX11_generator 23 = .ok (.ireturn, 1) := by decide +kernel
theorem dX11_symbolicGeneratorCount_0 : decode cX11_symbolicGeneratorCount 0 = .ok (.iload_n 1, 1) := by decide +kernel
theorem dX11_symbolicGeneratorCount_1 : decode cX11_symbolicGeneratorCount 1 = .ok (.invokestatic 188, 3) := by decide +kernel
theorem dX11_symbolicGeneratorCount_4 : decode cX11_symbolicGeneratorCount 4 = .ok (.ifCond .eq 17, 3) := by decide +kernel
theorem dX11_symbolicGeneratorCount_7 : decode cX11_symbolicGeneratorCount 7 = .ok (.aload_n 0, 1) := by decide +kernel
theorem dX11_symbolicGeneratorCount_8 : decode cX11_symbolicGeneratorCount 8 = .ok (.getfield 23, 3) := by decide +kernel
theorem dX11_symbolicGeneratorCount_11 : decode cX11_symbolicGeneratorCount 11 = .ok (.iload_n 1, 1) := by decide +kernel
theorem dX11_symbolicGeneratorCount_12 : decode cX11_symbolicGeneratorCount 12 = .ok (.invokevirtual 194, 3) := by decide +kernel
theorem dX11_symbolicGeneratorCount_15 : decode cX11_symbolicGeneratorCount 15 = .ok (.getfield 148, 3) := by decide +kernel
theorem dX11_symbolicGeneratorCount_18 : decode cX11_symbolicGeneratorCount 18 = .ok (.goto 4, 3) := by decide +kernel
theorem dX11_symbolicGeneratorCount_21 : decode cX11_symbolicGeneratorCount 21 = .ok (.iconst (-1), 1) := by decide +kernel
theorem dX11_symbolicGeneratorCount_22 : decode cX11_symbolicGeneratorCount 22 = .ok (.ireturn, 1) := by decide +kernel
theorem dX11_symbolicGenerator_0 : decode cX11_symbolicGenerator 0 = .ok (.iload_n 1, 1) := by decide +kernel
theorem dX11_symbolicGenerator_1 : decode cX11_symbolicGenerator 1 = .ok (.invokestatic 188, 3) := by decide +kernel
theorem dX11_symbolicGenerator_4 : decode cX11_symbolicGenerator 4 = .ok (.ifCond .eq 18, 3) := by decide +kernel
theorem dX11_symbolicGenerator_7 : decode cX11_symbolicGenerator 7 = .ok (.aload_n 0, 1) := by decide +kernel
theorem dX11_symbolicGenerator_8 : decode cX11_symbolicGenerator 8 = .ok (.getfield 23, 3) := by decide +kernel
theorem dX11_symbolicGenerator_11 : decode cX11_symbolicGenerator 11 = .ok (.iload_n 1, 1) := by decide +kernel
theorem dX11_symbolicGenerator_12 : decode cX11_symbolicGenerator 12 = .ok (.invokevirtual 194, 3) := by decide +kernel
theorem dX11_symbolicGenerator_15 : decode cX11_symbolicGenerator 15 = .ok (.iload_n 2, 1) := by decide +kernel
theorem dX11_symbolicGenerator_16 : decode cX11_symbolicGenerator 16 = .ok (.invokestatic 151, 3) := by decide +kernel
theorem dX11_symbolicGenerator_19 : decode cX11_symbolicGenerator 19 = .ok (.goto 4, 3) := by decide +kernel
theorem dX11_symbolicGenerator_22 : decode cX11_symbolicGenerator 22 = .ok (.iconst (-1), 1) := by decide +kernel
theorem dX11_symbolicGenerator_23 : decode cX11_symbolicGenerator 23 = .ok (.ireturn, 1) := by decide +kernel
theorem dX11_powersAgree_0 : decode cX11_powersAgree 0 = .ok (.iload_n 1, 1) := by decide +kernel
theorem dX11_powersAgree_1 : decode cX11_powersAgree 1 = .ok (.invokestatic 188, 3) := by decide +kernel
theorem dX11_powersAgree_4 : decode cX11_powersAgree 4 = .ok (.ifCond .ne 5, 3) := by decide +kernel
theorem dX11_powersAgree_7 : decode cX11_powersAgree 7 = .ok (.iconst (-1), 1) := by decide +kernel
theorem dX11_powersAgree_8 : decode cX11_powersAgree 8 = .ok (.ireturn, 1) := by decide +kernel
theorem dX11_powersAgree_9 : decode cX11_powersAgree 9 = .ok (.aload_n 0, 1) := by decide +kernel
theorem dX11_powersAgree_10 : decode cX11_powersAgree 10 = .ok (.getfield 23, 3) := by decide +kernel
theorem dX11_powersAgree_13 : decode cX11_powersAgree 13 = .ok (.iload_n 1, 1) := by decide +kernel
theorem dX11_powersAgree_14 : decode cX11_powersAgree 14 = .ok (.invokevirtual 191, 3) := by decide +kernel
theorem dX11_powersAgree_17 : decode cX11_powersAgree 17 = .ok (.aload_n 0, 1) := by decide +kernel
theorem dX11_powersAgree_18 : decode cX11_powersAgree 18 = .ok (.getfield 23, 3) := by decide +kernel
theorem dX11_powersAgree_21 : decode cX11_powersAgree 21 = .ok (.iload_n 1, 1) := by decide +kernel
theorem dX11_powersAgree_22 : decode cX11_powersAgree 22 = .ok (.invokevirtual 194, 3) := by decide +kernel
theorem dX11_powersAgree_25 : decode cX11_powersAgree 25 = .ok (.invokevirtual 197, 3) := by decide +kernel
theorem dX11_powersAgree_28 : decode cX11_powersAgree 28 = .ok (.bipush (-2), 2) := by decide +kernel
theorem dX11_powersAgree_30 : decode cX11_powersAgree 30 = .ok (.if_icmp .ne 7, 3) := by decide +kernel
theorem dX11_powersAgree_33 : decode cX11_powersAgree 33 = .ok (.iconst 1, 1) := by decide +kernel
theorem dX11_powersAgree_34 : decode cX11_powersAgree 34 = .ok (.goto 4, 3) := by decide +kernel
theorem dX11_powersAgree_37 : decode cX11_powersAgree 37 = .ok (.iconst 0, 1) := by decide +kernel
theorem dX11_powersAgree_38 : decode cX11_powersAgree 38 = .ok (.ireturn, 1) := by decide +kernel
theorem dX11_firstDifference_0 : decode cX11_firstDifference 0 = .ok (.iload_n 1, 1) := by decide +kernel
theorem dX11_firstDifference_1 : decode cX11_firstDifference 1 = .ok (.invokestatic 188, 3) := by decide +kernel
theorem dX11_firstDifference_4 : decode cX11_firstDifference 4 = .ok (.ifCond .eq 14, 3) := by decide +kernel
theorem dX11_firstDifference_7 : decode cX11_firstDifference 7 = .ok (.aload_n 0, 1) := by decide +kernel
theorem dX11_firstDifference_8 : decode cX11_firstDifference 8 = .ok (.getfield 23, 3) := by decide +kernel
theorem dX11_firstDifference_11 : decode cX11_firstDifference 11 = .ok (.iload_n 1, 1) := by decide +kernel
theorem dX11_firstDifference_12 : decode cX11_firstDifference 12 = .ok (.invokevirtual 201, 3) := by decide +kernel
theorem dX11_firstDifference_15 : decode cX11_firstDifference 15 = .ok (.goto 4, 3) := by decide +kernel
theorem dX11_firstDifference_18 : decode cX11_firstDifference 18 = .ok (.iconst (-1), 1) := by decide +kernel
theorem dX11_firstDifference_19 : decode cX11_firstDifference 19 = .ok (.ireturn, 1) := by decide +kernel
theorem dX11_countInPower_0 : decode cX11_countInPower 0 = .ok (.iload_n 1, 1) := by decide +kernel
theorem dX11_countInPower_1 : decode cX11_countInPower 1 = .ok (.invokestatic 188, 3) := by decide +kernel
theorem dX11_countInPower_4 : decode cX11_countInPower 4 = .ok (.ifCond .eq 10, 3) := by decide +kernel
theorem dX11_countInPower_7 : decode cX11_countInPower 7 = .ok (.iload_n 2, 1) := by decide +kernel
theorem dX11_countInPower_8 : decode cX11_countInPower 8 = .ok (.invokestatic 204, 3) := by decide +kernel
theorem dX11_countInPower_11 : decode cX11_countInPower 11 = .ok (.ifCond .ne 5, 3) := by decide +kernel
theorem dX11_countInPower_14 : decode cX11_countInPower 14 = .ok (.iconst (-1), 1) := by decide +kernel
theorem dX11_countInPower_15 : decode cX11_countInPower 15 = .ok (.ireturn, 1) := by decide +kernel
theorem dX11_countInPower_16 : decode cX11_countInPower 16 = .ok (.iconst 0, 1) := by decide +kernel
theorem dX11_countInPower_17 : decode cX11_countInPower 17 = .ok (.istore_n 3, 1) := by decide +kernel
theorem dX11_countInPower_18 : decode cX11_countInPower 18 = .ok (.aload_n 0, 1) := by decide +kernel
theorem dX11_countInPower_19 : decode cX11_countInPower 19 = .ok (.getfield 14, 3) := by decide +kernel
theorem dX11_countInPower_22 : decode cX11_countInPower 22 = .ok (.invokevirtual 137, 3) := by decide +kernel
theorem dX11_countInPower_25 : decode cX11_countInPower 25 = .ok (.istore 4, 2) := by decide +kernel
theorem dX11_countInPower_27 : decode cX11_countInPower 27 = .ok (.iconst 0, 1) := by decide +kernel
theorem dX11_countInPower_28 : decode cX11_countInPower 28 = .ok (.istore 5, 2) := by decide +kernel
theorem dX11_countInPower_30 : decode cX11_countInPower 30 = .ok (.iload 5, 2) := by decide +kernel
theorem dX11_countInPower_32 : decode cX11_countInPower 32 = .ok (.iload 4, 2) := by decide +kernel
theorem dX11_countInPower_34 : decode cX11_countInPower 34 = .ok (.if_icmp .gt 34, 3) := by decide +kernel
theorem dX11_countInPower_37 : decode cX11_countInPower 37 = .ok (.iload 5, 2) := by decide +kernel
theorem dX11_countInPower_39 : decode cX11_countInPower 39 = .ok (.invokestatic 171, 3) := by decide +kernel
theorem dX11_countInPower_42 : decode cX11_countInPower 42 = .ok (.iload_n 2, 1) := by decide +kernel
theorem dX11_countInPower_43 : decode cX11_countInPower 43 = .ok (.if_icmp .ne 19, 3) := by decide +kernel
theorem dX11_countInPower_46 : decode cX11_countInPower 46 = .ok (.aload_n 0, 1) := by decide +kernel
theorem dX11_countInPower_47 : decode cX11_countInPower 47 = .ok (.getfield 23, 3) := by decide +kernel
theorem dX11_countInPower_50 : decode cX11_countInPower 50 = .ok (.iload 5, 2) := by decide +kernel
theorem dX11_countInPower_52 : decode cX11_countInPower 52 = .ok (.invokevirtual 140, 3) := by decide +kernel
theorem dX11_countInPower_55 : decode cX11_countInPower 55 = .ok (.iload_n 1, 1) := by decide +kernel
theorem dX11_countInPower_56 : decode cX11_countInPower 56 = .ok (.if_icmp .lt 6, 3) := by decide +kernel
theorem dX11_countInPower_59 : decode cX11_countInPower 59 = .ok (.iinc 3 1, 3) := by decide +kernel
theorem dX11_countInPower_62 : decode cX11_countInPower 62 = .ok (.iinc 5 1, 3) := by decide +kernel
theorem dX11_countInPower_65 : decode cX11_countInPower 65 = .ok (.goto (-35), 3) := by decide +kernel
theorem dX11_countInPower_68 : decode cX11_countInPower 68 = .ok (.iload_n 3, 1) := by decide +kernel
theorem dX11_countInPower_69 : decode cX11_countInPower 69 = .ok (.ireturn, 1) := by decide +kernel
theorem dX11_countInSymbolicPower_0 : decode cX11_countInSymbolicPower 0 = .ok (.iload_n 1, 1) := by decide +kernel
theorem dX11_countInSymbolicPower_1 : decode cX11_countInSymbolicPower 1 = .ok (.invokestatic 188, 3) := by decide +kernel
theorem dX11_countInSymbolicPower_4 : decode cX11_countInSymbolicPower 4 = .ok (.ifCond .eq 10, 3) := by decide +kernel
theorem dX11_countInSymbolicPower_7 : decode cX11_countInSymbolicPower 7 = .ok (.iload_n 2, 1) := by decide +kernel
theorem dX11_countInSymbolicPower_8 : decode cX11_countInSymbolicPower 8 = .ok (.invokestatic 204, 3) := by decide +kernel
theorem dX11_countInSymbolicPower_11 : decode cX11_countInSymbolicPower 11 = .ok (.ifCond .ne 5, 3) := by decide +kernel
theorem dX11_countInSymbolicPower_14 : decode cX11_countInSymbolicPower 14 = .ok (.iconst (-1), 1) := by decide +kernel
theorem dX11_countInSymbolicPower_15 : decode cX11_countInSymbolicPower 15 = .ok (.ireturn, 1) := by decide +kernel
theorem dX11_countInSymbolicPower_16 : decode cX11_countInSymbolicPower 16 = .ok (.iconst 0, 1) := by decide +kernel
theorem dX11_countInSymbolicPower_17 : decode cX11_countInSymbolicPower 17 = .ok (.istore_n 3, 1) := by decide +kernel
theorem dX11_countInSymbolicPower_18 : decode cX11_countInSymbolicPower 18 = .ok (.aload_n 0, 1) := by decide +kernel
theorem dX11_countInSymbolicPower_19 : decode cX11_countInSymbolicPower 19 = .ok (.getfield 14, 3) := by decide +kernel
theorem dX11_countInSymbolicPower_22 : decode cX11_countInSymbolicPower 22 = .ok (.invokevirtual 137, 3) := by decide +kernel
theorem dX11_countInSymbolicPower_25 : decode cX11_countInSymbolicPower 25 = .ok (.istore 4, 2) := by decide +kernel
theorem dX11_countInSymbolicPower_27 : decode cX11_countInSymbolicPower 27 = .ok (.iconst 0, 1) := by decide +kernel
theorem dX11_countInSymbolicPower_28 : decode cX11_countInSymbolicPower 28 = .ok (.istore 5, 2) := by decide +kernel
theorem dX11_countInSymbolicPower_30 : decode cX11_countInSymbolicPower 30 = .ok (.iload 5, 2) := by decide +kernel
theorem dX11_countInSymbolicPower_32 : decode cX11_countInSymbolicPower 32 = .ok (.iload 4, 2) := by decide +kernel
theorem dX11_countInSymbolicPower_34 : decode cX11_countInSymbolicPower 34 = .ok (.if_icmp .gt 34, 3) := by decide +kernel
theorem dX11_countInSymbolicPower_37 : decode cX11_countInSymbolicPower 37 = .ok (.iload 5, 2) := by decide +kernel
theorem dX11_countInSymbolicPower_39 : decode cX11_countInSymbolicPower 39 = .ok (.invokestatic 171, 3) := by decide +kernel
theorem dX11_countInSymbolicPower_42 : decode cX11_countInSymbolicPower 42 = .ok (.iload_n 2, 1) := by decide +kernel
theorem dX11_countInSymbolicPower_43 : decode cX11_countInSymbolicPower 43 = .ok (.if_icmp .ne 19, 3) := by decide +kernel
theorem dX11_countInSymbolicPower_46 : decode cX11_countInSymbolicPower 46 = .ok (.aload_n 0, 1) := by decide +kernel
theorem dX11_countInSymbolicPower_47 : decode cX11_countInSymbolicPower 47 = .ok (.getfield 23, 3) := by decide +kernel
theorem dX11_countInSymbolicPower_50 : decode cX11_countInSymbolicPower 50 = .ok (.iload 5, 2) := by decide +kernel
theorem dX11_countInSymbolicPower_52 : decode cX11_countInSymbolicPower 52 = .ok (.invokevirtual 178, 3) := by decide +kernel
theorem dX11_countInSymbolicPower_55 : decode cX11_countInSymbolicPower 55 = .ok (.iload_n 1, 1) := by decide +kernel
theorem dX11_countInSymbolicPower_56 : decode cX11_countInSymbolicPower 56 = .ok (.if_icmp .lt 6, 3) := by decide +kernel
theorem dX11_countInSymbolicPower_59 : decode cX11_countInSymbolicPower 59 = .ok (.iinc 3 1, 3) := by decide +kernel
theorem dX11_countInSymbolicPower_62 : decode cX11_countInSymbolicPower 62 = .ok (.iinc 5 1, 3) := by decide +kernel
theorem dX11_countInSymbolicPower_65 : decode cX11_countInSymbolicPower 65 = .ok (.goto (-35), 3) := by decide +kernel
theorem dX11_countInSymbolicPower_68 : decode cX11_countInSymbolicPower 68 = .ok (.iload_n 3, 1) := by decide +kernel
theorem dX11_countInSymbolicPower_69 : decode cX11_countInSymbolicPower 69 = .ok (.ireturn, 1) := by decide +kernel
theorem dX11_orderedGenerator_0 : decode cX11_orderedGenerator 0 = .ok (.aload_n 0, 1) := by decide +kernel
theorem dX11_orderedGenerator_1 : decode cX11_orderedGenerator 1 = .ok (.iload_n 1, 1) := by decide +kernel
theorem dX11_orderedGenerator_2 : decode cX11_orderedGenerator 2 = .ok (.iload_n 2, 1) := by decide +kernel
theorem dX11_orderedGenerator_3 : decode cX11_orderedGenerator 3 = .ok (.iload_n 3, 1) := by decide +kernel
theorem dX11_orderedGenerator_4 : decode cX11_orderedGenerator 4 = .ok (.invokevirtual 207, 3) := by decide +kernel
theorem dX11_orderedGenerator_7 : decode cX11_orderedGenerator 7 = .ok (.istore 4, 2) := by decide +kernel
theorem dX11_orderedGenerator_9 : decode cX11_orderedGenerator 9 = .ok (.iload 4, 2) := by decide +kernel
theorem dX11_orderedGenerator_11 : decode cX11_orderedGenerator 11 = .ok (.ifCond .eq 8, 3) := by decide +kernel
theorem dX11_orderedGenerator_14 : decode cX11_orderedGenerator 14 = .ok (.iload 4, 2) := by decide +kernel
theorem dX11_orderedGenerator_16 : decode cX11_orderedGenerator 16 = .ok (.goto 15, 3) := by decide +kernel
theorem dX11_orderedGenerator_19 : decode cX11_orderedGenerator 19 = .ok (.aload_n 0, 1) := by decide +kernel
theorem dX11_orderedGenerator_20 : decode cX11_orderedGenerator 20 = .ok (.getfield 32, 3) := by decide +kernel
theorem dX11_orderedGenerator_23 : decode cX11_orderedGenerator 23 = .ok (.getfield 211, 3) := by decide +kernel
theorem dX11_orderedGenerator_26 : decode cX11_orderedGenerator 26 = .ok (.getfield 215, 3) := by decide +kernel
theorem dX11_orderedGenerator_29 : decode cX11_orderedGenerator 29 = .ok (.iload_n 3, 1) := by decide +kernel
theorem dX11_orderedGenerator_30 : decode cX11_orderedGenerator 30 = .ok (.iaload, 1) := by decide +kernel
theorem dX11_orderedGenerator_31 : decode cX11_orderedGenerator 31 = .ok (.ireturn, 1) := by decide +kernel
theorem dX11_colonVariables_0 : decode cX11_colonVariables 0 = .ok (.aload_n 0, 1) := by decide +kernel
theorem dX11_colonVariables_1 : decode cX11_colonVariables 1 = .ok (.iload_n 1, 1) := by decide +kernel
theorem dX11_colonVariables_2 : decode cX11_colonVariables 2 = .ok (.iload_n 2, 1) := by decide +kernel
theorem dX11_colonVariables_3 : decode cX11_colonVariables 3 = .ok (.iload_n 3, 1) := by decide +kernel
theorem dX11_colonVariables_4 : decode cX11_colonVariables 4 = .ok (.invokevirtual 207, 3) := by decide +kernel
theorem dX11_colonVariables_7 : decode cX11_colonVariables 7 = .ok (.istore 4, 2) := by decide +kernel
theorem dX11_colonVariables_9 : decode cX11_colonVariables 9 = .ok (.iload 4, 2) := by decide +kernel
theorem dX11_colonVariables_11 : decode cX11_colonVariables 11 = .ok (.ifCond .eq 8, 3) := by decide +kernel
theorem dX11_colonVariables_14 : decode cX11_colonVariables 14 = .ok (.iload 4, 2) := by decide +kernel
theorem dX11_colonVariables_16 : decode cX11_colonVariables 16 = .ok (.goto 14, 3) := by decide +kernel
theorem dX11_colonVariables_19 : decode cX11_colonVariables 19 = .ok (.aload_n 0, 1) := by decide +kernel
theorem dX11_colonVariables_20 : decode cX11_colonVariables 20 = .ok (.getfield 32, 3) := by decide +kernel
theorem dX11_colonVariables_23 : decode cX11_colonVariables 23 = .ok (.iload_n 3, 1) := by decide +kernel
theorem dX11_colonVariables_24 : decode cX11_colonVariables 24 = .ok (.invokevirtual 219, 3) := by decide +kernel
theorem dX11_colonVariables_27 : decode cX11_colonVariables 27 = .ok (.invokestatic 222, 3) := by decide +kernel
theorem dX11_colonVariables_30 : decode cX11_colonVariables 30 = .ok (.ireturn, 1) := by decide +kernel
theorem dX11_isLinearStep_0 : decode cX11_isLinearStep 0 = .ok (.aload_n 0, 1) := by decide +kernel
theorem dX11_isLinearStep_1 : decode cX11_isLinearStep 1 = .ok (.iload_n 1, 1) := by decide +kernel
theorem dX11_isLinearStep_2 : decode cX11_isLinearStep 2 = .ok (.iload_n 2, 1) := by decide +kernel
theorem dX11_isLinearStep_3 : decode cX11_isLinearStep 3 = .ok (.iload_n 3, 1) := by decide +kernel
theorem dX11_isLinearStep_4 : decode cX11_isLinearStep 4 = .ok (.invokevirtual 207, 3) := by decide +kernel
theorem dX11_isLinearStep_7 : decode cX11_isLinearStep 7 = .ok (.istore 4, 2) := by decide +kernel
theorem dX11_isLinearStep_9 : decode cX11_isLinearStep 9 = .ok (.iload 4, 2) := by decide +kernel
theorem dX11_isLinearStep_11 : decode cX11_isLinearStep 11 = .ok (.ifCond .eq 6, 3) := by decide +kernel
theorem dX11_isLinearStep_14 : decode cX11_isLinearStep 14 = .ok (.iload 4, 2) := by decide +kernel
theorem dX11_isLinearStep_16 : decode cX11_isLinearStep 16 = .ok (.ireturn, 1) := by decide +kernel
theorem dX11_isLinearStep_17 : decode cX11_isLinearStep 17 = .ok (.aload_n 0, 1) := by decide +kernel
theorem dX11_isLinearStep_18 : decode cX11_isLinearStep 18 = .ok (.getfield 32, 3) := by decide +kernel
theorem dX11_isLinearStep_21 : decode cX11_isLinearStep 21 = .ok (.iload_n 3, 1) := by decide +kernel
theorem dX11_isLinearStep_22 : decode cX11_isLinearStep 22 = .ok (.invokevirtual 225, 3) := by decide +kernel
theorem dX11_isLinearStep_25 : decode cX11_isLinearStep 25 = .ok (.ifCond .eq 7, 3) := by decide +kernel
theorem dX11_isLinearStep_28 : decode cX11_isLinearStep 28 = .ok (.iconst 1, 1) := by decide +kernel
theorem dX11_isLinearStep_29 : decode cX11_isLinearStep 29 = .ok (.goto 4, 3) := by decide +kernel
theorem dX11_isLinearStep_32 : decode cX11_isLinearStep 32 = .ok (.iconst 0, 1) := by decide +kernel
theorem dX11_isLinearStep_33 : decode cX11_isLinearStep 33 = .ok (.ireturn, 1) := by decide +kernel
theorem dX11_firstNonLinearStep_0 : decode cX11_firstNonLinearStep 0 = .ok (.iload_n 1, 1) := by decide +kernel
theorem dX11_firstNonLinearStep_1 : decode cX11_firstNonLinearStep 1 = .ok (.invokestatic 188, 3) := by decide +kernel
theorem dX11_firstNonLinearStep_4 : decode cX11_firstNonLinearStep 4 = .ok (.ifCond .eq 15, 3) := by decide +kernel
theorem dX11_firstNonLinearStep_7 : decode cX11_firstNonLinearStep 7 = .ok (.aload_n 0, 1) := by decide +kernel
theorem dX11_firstNonLinearStep_8 : decode cX11_firstNonLinearStep 8 = .ok (.getfield 32, 3) := by decide +kernel
theorem dX11_firstNonLinearStep_11 : decode cX11_firstNonLinearStep 11 = .ok (.iload_n 1, 1) := by decide +kernel
theorem dX11_firstNonLinearStep_12 : decode cX11_firstNonLinearStep 12 = .ok (.iload_n 2, 1) := by decide +kernel
theorem dX11_firstNonLinearStep_13 : decode cX11_firstNonLinearStep 13 = .ok (.invokevirtual 228, 3) := by decide +kernel
theorem dX11_firstNonLinearStep_16 : decode cX11_firstNonLinearStep 16 = .ok (.ifCond .ne 5, 3) := by decide +kernel
theorem dX11_firstNonLinearStep_19 : decode cX11_firstNonLinearStep 19 = .ok (.iconst (-1), 1) := by decide +kernel
theorem dX11_firstNonLinearStep_20 : decode cX11_firstNonLinearStep 20 = .ok (.ireturn, 1) := by decide +kernel
theorem dX11_firstNonLinearStep_21 : decode cX11_firstNonLinearStep 21 = .ok (.aload_n 0, 1) := by decide +kernel
theorem dX11_firstNonLinearStep_22 : decode cX11_firstNonLinearStep 22 = .ok (.getfield 32, 3) := by decide +kernel
theorem dX11_firstNonLinearStep_25 : decode cX11_firstNonLinearStep 25 = .ok (.invokevirtual 231, 3) := by decide +kernel
theorem dX11_firstNonLinearStep_28 : decode cX11_firstNonLinearStep 28 = .ok (.ireturn, 1) := by decide +kernel
theorem dX11_bettiNumber_0 : decode cX11_bettiNumber 0 = .ok (.iload_n 1, 1) := by decide +kernel
theorem dX11_bettiNumber_1 : decode cX11_bettiNumber 1 = .ok (.invokestatic 188, 3) := by decide +kernel
theorem dX11_bettiNumber_4 : decode cX11_bettiNumber 4 = .ok (.ifCond .eq 25, 3) := by decide +kernel
theorem dX11_bettiNumber_7 : decode cX11_bettiNumber 7 = .ok (.iload_n 3, 1) := by decide +kernel
theorem dX11_bettiNumber_8 : decode cX11_bettiNumber 8 = .ok (.ifCond .lt 21, 3) := by decide +kernel
theorem dX11_bettiNumber_11 : decode cX11_bettiNumber 11 = .ok (.iload_n 3, 1) := by decide +kernel
theorem dX11_bettiNumber_12 : decode cX11_bettiNumber 12 = .ok (.bipush 7, 2) := by decide +kernel
theorem dX11_bettiNumber_14 : decode cX11_bettiNumber 14 = .ok (.if_icmp .gt 15, 3) := by decide +kernel
theorem dX11_bettiNumber_17 : decode cX11_bettiNumber 17 = .ok (.aload_n 0, 1) := by decide +kernel
theorem dX11_bettiNumber_18 : decode cX11_bettiNumber 18 = .ok (.getfield 32, 3) := by decide +kernel
theorem dX11_bettiNumber_21 : decode cX11_bettiNumber 21 = .ok (.iload_n 1, 1) := by decide +kernel
theorem dX11_bettiNumber_22 : decode cX11_bettiNumber 22 = .ok (.iload_n 2, 1) := by decide +kernel
theorem dX11_bettiNumber_23 : decode cX11_bettiNumber 23 = .ok (.invokevirtual 228, 3) := by decide +kernel
theorem dX11_bettiNumber_26 : decode cX11_bettiNumber 26 = .ok (.ifCond .ne 7, 3) := by decide +kernel
theorem dX11_bettiNumber_29 : decode cX11_bettiNumber 29 = .ok (.ldc2_w 234, 3) := by decide +kernel
theorem dX11_bettiNumber_32 : decode cX11_bettiNumber 32 = .ok (.lreturn, 1) := by decide +kernel
theorem dX11_bettiNumber_33 : decode cX11_bettiNumber 33 = .ok (.aload_n 0, 1) := by decide +kernel
theorem dX11_bettiNumber_34 : decode cX11_bettiNumber 34 = .ok (.getfield 32, 3) := by decide +kernel
theorem dX11_bettiNumber_37 : decode cX11_bettiNumber 37 = .ok (.invokevirtual 231, 3) := by decide +kernel
theorem dX11_bettiNumber_40 : decode cX11_bettiNumber 40 = .ok (.bipush (-2), 2) := by decide +kernel
theorem dX11_bettiNumber_42 : decode cX11_bettiNumber 42 = .ok (.if_icmp .ne 14, 3) := by decide +kernel
theorem dX11_bettiNumber_45 : decode cX11_bettiNumber 45 = .ok (.aload_n 0, 1) := by decide +kernel
theorem dX11_bettiNumber_46 : decode cX11_bettiNumber 46 = .ok (.getfield 32, 3) := by decide +kernel
theorem dX11_bettiNumber_49 : decode cX11_bettiNumber 49 = .ok (.iload_n 3, 1) := by decide +kernel
theorem dX11_bettiNumber_50 : decode cX11_bettiNumber 50 = .ok (.invokevirtual 236, 3) := by decide +kernel
theorem dX11_bettiNumber_53 : decode cX11_bettiNumber 53 = .ok (.goto 6, 3) := by decide +kernel
theorem dX11_bettiNumber_56 : decode cX11_bettiNumber 56 = .ok (.ldc2_w 234, 3) := by decide +kernel
theorem dX11_bettiNumber_59 : decode cX11_bettiNumber 59 = .ok (.lreturn, 1) := by decide +kernel
theorem dX11_stepError_0 : decode cX11_stepError 0 = .ok (.iload_n 1, 1) := by decide +kernel
theorem dX11_stepError_1 : decode cX11_stepError 1 = .ok (.invokestatic 188, 3) := by decide +kernel
theorem dX11_stepError_4 : decode cX11_stepError 4 = .ok (.ifCond .eq 19, 3) := by decide +kernel
theorem dX11_stepError_7 : decode cX11_stepError 7 = .ok (.iload_n 3, 1) := by decide +kernel
theorem dX11_stepError_8 : decode cX11_stepError 8 = .ok (.ifCond .lt 15, 3) := by decide +kernel
theorem dX11_stepError_11 : decode cX11_stepError 11 = .ok (.aload_n 0, 1) := by decide +kernel
theorem dX11_stepError_12 : decode cX11_stepError 12 = .ok (.getfield 32, 3) := by decide +kernel
theorem dX11_stepError_15 : decode cX11_stepError 15 = .ok (.iload_n 1, 1) := by decide +kernel
theorem dX11_stepError_16 : decode cX11_stepError 16 = .ok (.iload_n 2, 1) := by decide +kernel
theorem dX11_stepError_17 : decode cX11_stepError 17 = .ok (.invokevirtual 228, 3) := by decide +kernel
theorem dX11_stepError_20 : decode cX11_stepError 20 = .ok (.ifCond .ne 5, 3) := by decide +kernel
theorem dX11_stepError_23 : decode cX11_stepError 23 = .ok (.iconst (-1), 1) := by decide +kernel
theorem dX11_stepError_24 : decode cX11_stepError 24 = .ok (.ireturn, 1) := by decide +kernel
theorem dX11_stepError_25 : decode cX11_stepError 25 = .ok (.iload_n 3, 1) := by decide +kernel
theorem dX11_stepError_26 : decode cX11_stepError 26 = .ok (.aload_n 0, 1) := by decide +kernel
theorem dX11_stepError_27 : decode cX11_stepError 27 = .ok (.getfield 32, 3) := by decide +kernel
theorem dX11_stepError_30 : decode cX11_stepError 30 = .ok (.getfield 211, 3) := by decide +kernel
theorem dX11_stepError_33 : decode cX11_stepError 33 = .ok (.getfield 148, 3) := by decide +kernel
theorem dX11_stepError_36 : decode cX11_stepError 36 = .ok (.if_icmp .ge 7, 3) := by decide +kernel
theorem dX11_stepError_39 : decode cX11_stepError 39 = .ok (.iconst 0, 1) := by decide +kernel
theorem dX11_stepError_40 : decode cX11_stepError 40 = .ok (.goto 5, 3) := by decide +kernel
theorem dX11_stepError_43 : decode cX11_stepError 43 = .ok (.bipush (-2), 2) := by decide +kernel
theorem dX11_stepError_45 : decode cX11_stepError 45 = .ok (.ireturn, 1) := by decide +kernel
theorem dX11_addDegreeTest_0 : decode cX11_addDegreeTest 0 = .ok (.iload_n 1, 1) := by decide +kernel
theorem dX11_addDegreeTest_1 : decode cX11_addDegreeTest 1 = .ok (.invokestatic 204, 3) := by decide +kernel
theorem dX11_addDegreeTest_4 : decode cX11_addDegreeTest 4 = .ok (.ifCond .eq 16, 3) := by decide +kernel
theorem dX11_addDegreeTest_7 : decode cX11_addDegreeTest 7 = .ok (.aload_n 0, 1) := by decide +kernel
theorem dX11_addDegreeTest_8 : decode cX11_addDegreeTest 8 = .ok (.getfield 46, 3) := by decide +kernel
theorem dX11_addDegreeTest_11 : decode cX11_addDegreeTest 11 = .ok (.iconst 0, 1) := by decide +kernel
theorem dX11_addDegreeTest_12 : decode cX11_addDegreeTest 12 = .ok (.iload_n 1, 1) := by decide +kernel
theorem dX11_addDegreeTest_13 : decode cX11_addDegreeTest 13 = .ok (.iconst 0, 1) := by decide +kernel
theorem dX11_addDegreeTest_14 : decode cX11_addDegreeTest 14 = .ok (.invokevirtual 239, 3) := by decide +kernel
theorem dX11_addDegreeTest_17 : decode cX11_addDegreeTest 17 = .ok (.goto 4, 3) := by decide +kernel
theorem dX11_addDegreeTest_20 : decode cX11_addDegreeTest 20 = .ok (.iconst (-1), 1) := by decide +kernel
theorem dX11_addDegreeTest_21 : decode cX11_addDegreeTest 21 = .ok (.ireturn, 1) := by decide +kernel
theorem dX11_addExponentTest_0 : decode cX11_addExponentTest 0 = .ok (.iload_n 1, 1) := by decide +kernel
theorem dX11_addExponentTest_1 : decode cX11_addExponentTest 1 = .ok (.invokestatic 242, 3) := by decide +kernel
theorem dX11_addExponentTest_4 : decode cX11_addExponentTest 4 = .ok (.ifCond .eq 12, 3) := by decide +kernel
theorem dX11_addExponentTest_7 : decode cX11_addExponentTest 7 = .ok (.iload_n 2, 1) := by decide +kernel
theorem dX11_addExponentTest_8 : decode cX11_addExponentTest 8 = .ok (.ifCond .lt 8, 3) := by decide +kernel
theorem dX11_addExponentTest_11 : decode cX11_addExponentTest 11 = .ok (.iload_n 2, 1) := by decide +kernel
theorem dX11_addExponentTest_12 : decode cX11_addExponentTest 12 = .ok (.iconst 3, 1) := by decide +kernel
theorem dX11_addExponentTest_13 : decode cX11_addExponentTest 13 = .ok (.if_icmp .le 5, 3) := by decide +kernel
theorem dX11_addExponentTest_16 : decode cX11_addExponentTest 16 = .ok (.iconst (-1), 1) := by decide +kernel
theorem dX11_addExponentTest_17 : decode cX11_addExponentTest 17 = .ok (.ireturn, 1) := by decide +kernel
theorem dX11_addExponentTest_18 : decode cX11_addExponentTest 18 = .ok (.aload_n 0, 1) := by decide +kernel
theorem dX11_addExponentTest_19 : decode cX11_addExponentTest 19 = .ok (.getfield 46, 3) := by decide +kernel
theorem dX11_addExponentTest_22 : decode cX11_addExponentTest 22 = .ok (.iconst 1, 1) := by decide +kernel
theorem dX11_addExponentTest_23 : decode cX11_addExponentTest 23 = .ok (.iload_n 1, 1) := by decide +kernel
theorem dX11_addExponentTest_24 : decode cX11_addExponentTest 24 = .ok (.iload_n 2, 1) := by decide +kernel
theorem dX11_addExponentTest_25 : decode cX11_addExponentTest 25 = .ok (.invokevirtual 239, 3) := by decide +kernel
theorem dX11_addExponentTest_28 : decode cX11_addExponentTest 28 = .ok (.ireturn, 1) := by decide +kernel
theorem dX11_addSquareFreeTest_0 : decode cX11_addSquareFreeTest 0 = .ok (.aload_n 0, 1) := by decide +kernel
theorem dX11_addSquareFreeTest_1 : decode cX11_addSquareFreeTest 1 = .ok (.getfield 46, 3) := by decide +kernel
theorem dX11_addSquareFreeTest_4 : decode cX11_addSquareFreeTest 4 = .ok (.iconst 2, 1) := by decide +kernel
theorem dX11_addSquareFreeTest_5 : decode cX11_addSquareFreeTest 5 = .ok (.iconst 0, 1) := by decide +kernel
theorem dX11_addSquareFreeTest_6 : decode cX11_addSquareFreeTest 6 = .ok (.iconst 0, 1) := by decide +kernel
theorem dX11_addSquareFreeTest_7 : decode cX11_addSquareFreeTest 7 = .ok (.invokevirtual 239, 3) := by decide +kernel
theorem dX11_addSquareFreeTest_10 : decode cX11_addSquareFreeTest 10 = .ok (.ireturn, 1) := by decide +kernel
theorem dX11_addPowerTest_0 : decode cX11_addPowerTest 0 = .ok (.iload_n 1, 1) := by decide +kernel
theorem dX11_addPowerTest_1 : decode cX11_addPowerTest 1 = .ok (.invokestatic 188, 3) := by decide +kernel
theorem dX11_addPowerTest_4 : decode cX11_addPowerTest 4 = .ok (.ifCond .eq 16, 3) := by decide +kernel
theorem dX11_addPowerTest_7 : decode cX11_addPowerTest 7 = .ok (.aload_n 0, 1) := by decide +kernel
theorem dX11_addPowerTest_8 : decode cX11_addPowerTest 8 = .ok (.getfield 46, 3) := by decide +kernel
theorem dX11_addPowerTest_11 : decode cX11_addPowerTest 11 = .ok (.iconst 3, 1) := by decide +kernel
theorem dX11_addPowerTest_12 : decode cX11_addPowerTest 12 = .ok (.iload_n 1, 1) := by decide +kernel
theorem dX11_addPowerTest_13 : decode cX11_addPowerTest 13 = .ok (.iconst 0, 1) := by decide +kernel
theorem dX11_addPowerTest_14 : decode cX11_addPowerTest 14 = .ok (.invokevirtual 239, 3) := by decide +kernel
theorem dX11_addPowerTest_17 : decode cX11_addPowerTest 17 = .ok (.goto 4, 3) := by decide +kernel
theorem dX11_addPowerTest_20 : decode cX11_addPowerTest 20 = .ok (.iconst (-1), 1) := by decide +kernel
theorem dX11_addPowerTest_21 : decode cX11_addPowerTest 21 = .ok (.ireturn, 1) := by decide +kernel
theorem dX11_addSymbolicTest_0 : decode cX11_addSymbolicTest 0 = .ok (.iload_n 1, 1) := by decide +kernel
theorem dX11_addSymbolicTest_1 : decode cX11_addSymbolicTest 1 = .ok (.invokestatic 188, 3) := by decide +kernel
theorem dX11_addSymbolicTest_4 : decode cX11_addSymbolicTest 4 = .ok (.ifCond .eq 16, 3) := by decide +kernel
theorem dX11_addSymbolicTest_7 : decode cX11_addSymbolicTest 7 = .ok (.aload_n 0, 1) := by decide +kernel
theorem dX11_addSymbolicTest_8 : decode cX11_addSymbolicTest 8 = .ok (.getfield 46, 3) := by decide +kernel
theorem dX11_addSymbolicTest_11 : decode cX11_addSymbolicTest 11 = .ok (.iconst 4, 1) := by decide +kernel
theorem dX11_addSymbolicTest_12 : decode cX11_addSymbolicTest 12 = .ok (.iload_n 1, 1) := by decide +kernel
theorem dX11_addSymbolicTest_13 : decode cX11_addSymbolicTest 13 = .ok (.iconst 0, 1) := by decide +kernel
theorem dX11_addSymbolicTest_14 : decode cX11_addSymbolicTest 14 = .ok (.invokevirtual 239, 3) := by decide +kernel
theorem dX11_addSymbolicTest_17 : decode cX11_addSymbolicTest 17 = .ok (.goto 4, 3) := by decide +kernel
theorem dX11_addSymbolicTest_20 : decode cX11_addSymbolicTest 20 = .ok (.iconst (-1), 1) := by decide +kernel
theorem dX11_addSymbolicTest_21 : decode cX11_addSymbolicTest 21 = .ok (.ireturn, 1) := by decide +kernel
theorem dX11_addAndTest_0 : decode cX11_addAndTest 0 = .ok (.aload_n 0, 1) := by decide +kernel
theorem dX11_addAndTest_1 : decode cX11_addAndTest 1 = .ok (.iload_n 1, 1) := by decide +kernel
theorem dX11_addAndTest_2 : decode cX11_addAndTest 2 = .ok (.invokevirtual 245, 3) := by decide +kernel
theorem dX11_addAndTest_5 : decode cX11_addAndTest 5 = .ok (.ifCond .eq 24, 3) := by decide +kernel
theorem dX11_addAndTest_8 : decode cX11_addAndTest 8 = .ok (.aload_n 0, 1) := by decide +kernel
theorem dX11_addAndTest_9 : decode cX11_addAndTest 9 = .ok (.iload_n 2, 1) := by decide +kernel
theorem dX11_addAndTest_10 : decode cX11_addAndTest 10 = .ok (.invokevirtual 245, 3) := by decide +kernel
theorem dX11_addAndTest_13 : decode cX11_addAndTest 13 = .ok (.ifCond .eq 16, 3) := by decide +kernel
theorem dX11_addAndTest_16 : decode cX11_addAndTest 16 = .ok (.aload_n 0, 1) := by decide +kernel
theorem dX11_addAndTest_17 : decode cX11_addAndTest 17 = .ok (.getfield 46, 3) := by decide +kernel
theorem dX11_addAndTest_20 : decode cX11_addAndTest 20 = .ok (.iconst 5, 1) := by decide +kernel
theorem dX11_addAndTest_21 : decode cX11_addAndTest 21 = .ok (.iload_n 1, 1) := by decide +kernel
theorem dX11_addAndTest_22 : decode cX11_addAndTest 22 = .ok (.iload_n 2, 1) := by decide +kernel
theorem dX11_addAndTest_23 : decode cX11_addAndTest 23 = .ok (.invokevirtual 239, 3) := by decide +kernel
theorem dX11_addAndTest_26 : decode cX11_addAndTest 26 = .ok (.goto 4, 3) := by decide +kernel
theorem dX11_addAndTest_29 : decode cX11_addAndTest 29 = .ok (.iconst (-1), 1) := by decide +kernel
theorem dX11_addAndTest_30 : decode cX11_addAndTest 30 = .ok (.ireturn, 1) := by decide +kernel
theorem dX11_addOrTest_0 : decode cX11_addOrTest 0 = .ok (.aload_n 0, 1) := by decide +kernel
theorem dX11_addOrTest_1 : decode cX11_addOrTest 1 = .ok (.iload_n 1, 1) := by decide +kernel
theorem dX11_addOrTest_2 : decode cX11_addOrTest 2 = .ok (.invokevirtual 245, 3) := by decide +kernel
theorem dX11_addOrTest_5 : decode cX11_addOrTest 5 = .ok (.ifCond .eq 25, 3) := by decide +kernel
theorem dX11_addOrTest_8 : decode cX11_addOrTest 8 = .ok (.aload_n 0, 1) := by decide +kernel
theorem dX11_addOrTest_9 : decode cX11_addOrTest 9 = .ok (.iload_n 2, 1) := by decide +kernel
theorem dX11_addOrTest_10 : decode cX11_addOrTest 10 = .ok (.invokevirtual 245, 3) := by decide +kernel
theorem dX11_addOrTest_13 : decode cX11_addOrTest 13 = .ok (.ifCond .eq 17, 3) := by decide +kernel
theorem dX11_addOrTest_16 : decode cX11_addOrTest 16 = .ok (.aload_n 0, 1) := by decide +kernel
theorem dX11_addOrTest_17 : decode cX11_addOrTest 17 = .ok (.getfield 46, 3) := by decide +kernel
theorem dX11_addOrTest_20 : decode cX11_addOrTest 20 = .ok (.bipush 6, 2) := by decide +kernel
theorem dX11_addOrTest_22 : decode cX11_addOrTest 22 = .ok (.iload_n 1, 1) := by decide +kernel
theorem dX11_addOrTest_23 : decode cX11_addOrTest 23 = .ok (.iload_n 2, 1) := by decide +kernel
theorem dX11_addOrTest_24 : decode cX11_addOrTest 24 = .ok (.invokevirtual 239, 3) := by decide +kernel
theorem dX11_addOrTest_27 : decode cX11_addOrTest 27 = .ok (.goto 4, 3) := by decide +kernel
theorem dX11_addOrTest_30 : decode cX11_addOrTest 30 = .ok (.iconst (-1), 1) := by decide +kernel
theorem dX11_addOrTest_31 : decode cX11_addOrTest 31 = .ok (.ireturn, 1) := by decide +kernel
theorem dX11_addNotTest_0 : decode cX11_addNotTest 0 = .ok (.aload_n 0, 1) := by decide +kernel
theorem dX11_addNotTest_1 : decode cX11_addNotTest 1 = .ok (.iload_n 1, 1) := by decide +kernel
theorem dX11_addNotTest_2 : decode cX11_addNotTest 2 = .ok (.invokevirtual 245, 3) := by decide +kernel
theorem dX11_addNotTest_5 : decode cX11_addNotTest 5 = .ok (.ifCond .eq 17, 3) := by decide +kernel
theorem dX11_addNotTest_8 : decode cX11_addNotTest 8 = .ok (.aload_n 0, 1) := by decide +kernel
theorem dX11_addNotTest_9 : decode cX11_addNotTest 9 = .ok (.getfield 46, 3) := by decide +kernel
theorem dX11_addNotTest_12 : decode cX11_addNotTest 12 = .ok (.bipush 7, 2) := by decide +kernel
theorem dX11_addNotTest_14 : decode cX11_addNotTest 14 = .ok (.iload_n 1, 1) := by decide +kernel
theorem dX11_addNotTest_15 : decode cX11_addNotTest 15 = .ok (.iload_n 1, 1) := by decide +kernel
theorem dX11_addNotTest_16 : decode cX11_addNotTest 16 = .ok (.invokevirtual 239, 3) := by decide +kernel
theorem dX11_addNotTest_19 : decode cX11_addNotTest 19 = .ok (.goto 4, 3) := by decide +kernel
theorem dX11_addNotTest_22 : decode cX11_addNotTest 22 = .ok (.iconst (-1), 1) := by decide +kernel
theorem dX11_addNotTest_23 : decode cX11_addNotTest 23 = .ok (.ireturn, 1) := by decide +kernel
theorem dX11_testCount_0 : decode cX11_testCount 0 = .ok (.aload_n 0, 1) := by decide +kernel
theorem dX11_testCount_1 : decode cX11_testCount 1 = .ok (.getfield 46, 3) := by decide +kernel
theorem dX11_testCount_4 : decode cX11_testCount 4 = .ok (.getfield 248, 3) := by decide +kernel
theorem dX11_testCount_7 : decode cX11_testCount 7 = .ok (.ireturn, 1) := by decide +kernel
theorem dX11_passes_0 : decode cX11_passes 0 = .ok (.aload_n 0, 1) := by decide +kernel
theorem dX11_passes_1 : decode cX11_passes 1 = .ok (.iload_n 1, 1) := by decide +kernel
theorem dX11_passes_2 : decode cX11_passes 2 = .ok (.invokevirtual 245, 3) := by decide +kernel
theorem dX11_passes_5 : decode cX11_passes 5 = .ok (.ifCond .eq 11, 3) := by decide +kernel
theorem dX11_passes_8 : decode cX11_passes 8 = .ok (.aload_n 0, 1) := by decide +kernel
theorem dX11_passes_9 : decode cX11_passes 9 = .ok (.iload_n 2, 1) := by decide +kernel
theorem dX11_passes_10 : decode cX11_passes 10 = .ok (.invokevirtual 168, 3) := by decide +kernel
theorem dX11_passes_13 : decode cX11_passes 13 = .ok (.ifCond .ne 5, 3) := by decide +kernel
theorem dX11_passes_16 : decode cX11_passes 16 = .ok (.iconst (-1), 1) := by decide +kernel
theorem dX11_passes_17 : decode cX11_passes 17 = .ok (.ireturn, 1) := by decide +kernel
theorem dX11_passes_18 : decode cX11_passes 18 = .ok (.aload_n 0, 1) := by decide +kernel
theorem dX11_passes_19 : decode cX11_passes 19 = .ok (.getfield 46, 3) := by decide +kernel
theorem dX11_passes_22 : decode cX11_passes 22 = .ok (.iload_n 1, 1) := by decide +kernel
theorem dX11_passes_23 : decode cX11_passes 23 = .ok (.iload_n 2, 1) := by decide +kernel
theorem dX11_passes_24 : decode cX11_passes 24 = .ok (.aload_n 0, 1) := by decide +kernel
theorem dX11_passes_25 : decode cX11_passes 25 = .ok (.getfield 23, 3) := by decide +kernel
theorem dX11_passes_28 : decode cX11_passes 28 = .ok (.invokevirtual 249, 3) := by decide +kernel
theorem dX11_passes_31 : decode cX11_passes 31 = .ok (.ifCond .eq 7, 3) := by decide +kernel
theorem dX11_passes_34 : decode cX11_passes 34 = .ok (.iconst 1, 1) := by decide +kernel
theorem dX11_passes_35 : decode cX11_passes 35 = .ok (.goto 4, 3) := by decide +kernel
theorem dX11_passes_38 : decode cX11_passes 38 = .ok (.iconst 0, 1) := by decide +kernel
theorem dX11_passes_39 : decode cX11_passes 39 = .ok (.ireturn, 1) := by decide +kernel
theorem dX11_passCount_0 : decode cX11_passCount 0 = .ok (.aload_n 0, 1) := by decide +kernel
theorem dX11_passCount_1 : decode cX11_passCount 1 = .ok (.iload_n 1, 1) := by decide +kernel
theorem dX11_passCount_2 : decode cX11_passCount 2 = .ok (.invokevirtual 245, 3) := by decide +kernel
theorem dX11_passCount_5 : decode cX11_passCount 5 = .ok (.ifCond .ne 5, 3) := by decide +kernel
theorem dX11_passCount_8 : decode cX11_passCount 8 = .ok (.iconst (-1), 1) := by decide +kernel
theorem dX11_passCount_9 : decode cX11_passCount 9 = .ok (.ireturn, 1) := by decide +kernel
theorem dX11_passCount_10 : decode cX11_passCount 10 = .ok (.iconst 0, 1) := by decide +kernel
theorem dX11_passCount_11 : decode cX11_passCount 11 = .ok (.istore_n 2, 1) := by decide +kernel
theorem dX11_passCount_12 : decode cX11_passCount 12 = .ok (.aload_n 0, 1) := by decide +kernel
theorem dX11_passCount_13 : decode cX11_passCount 13 = .ok (.getfield 14, 3) := by decide +kernel
theorem dX11_passCount_16 : decode cX11_passCount 16 = .ok (.invokevirtual 137, 3) := by decide +kernel
theorem dX11_passCount_19 : decode cX11_passCount 19 = .ok (.istore_n 3, 1) := by decide +kernel
theorem dX11_passCount_20 : decode cX11_passCount 20 = .ok (.iconst 0, 1) := by decide +kernel
theorem dX11_passCount_21 : decode cX11_passCount 21 = .ok (.istore 4, 2) := by decide +kernel
theorem dX11_passCount_23 : decode cX11_passCount 23 = .ok (.iload 4, 2) := by decide +kernel
theorem dX11_passCount_25 : decode cX11_passCount 25 = .ok (.iload_n 3, 1) := by decide +kernel
theorem dX11_passCount_26 : decode cX11_passCount 26 = .ok (.if_icmp .gt 29, 3) := by decide +kernel
theorem dX11_passCount_29 : decode cX11_passCount 29 = .ok (.aload_n 0, 1) := by decide +kernel
theorem dX11_passCount_30 : decode cX11_passCount 30 = .ok (.getfield 46, 3) := by decide +kernel
theorem dX11_passCount_33 : decode cX11_passCount 33 = .ok (.iload_n 1, 1) := by decide +kernel
theorem dX11_passCount_34 : decode cX11_passCount 34 = .ok (.iload 4, 2) := by decide +kernel
theorem dX11_passCount_36 : decode cX11_passCount 36 = .ok (.aload_n 0, 1) := by decide +kernel
theorem dX11_passCount_37 : decode cX11_passCount 37 = .ok (.getfield 23, 3) := by decide +kernel
theorem dX11_passCount_40 : decode cX11_passCount 40 = .ok (.invokevirtual 249, 3) := by decide +kernel
theorem dX11_passCount_43 : decode cX11_passCount 43 = .ok (.ifCond .eq 6, 3) := by decide +kernel
theorem dX11_passCount_46 : decode cX11_passCount 46 = .ok (.iinc 2 1, 3) := by decide +kernel
theorem dX11_passCount_49 : decode cX11_passCount 49 = .ok (.iinc 4 1, 3) := by decide +kernel
theorem dX11_passCount_52 : decode cX11_passCount 52 = .ok (.goto (-29), 3) := by decide +kernel
theorem dX11_passCount_55 : decode cX11_passCount 55 = .ok (.iload_n 2, 1) := by decide +kernel
theorem dX11_passCount_56 : decode cX11_passCount 56 = .ok (.ireturn, 1) := by decide +kernel
theorem dX11_passing_0 : decode cX11_passing 0 = .ok (.aload_n 0, 1) := by decide +kernel
theorem dX11_passing_1 : decode cX11_passing 1 = .ok (.iload_n 1, 1) := by decide +kernel
theorem dX11_passing_2 : decode cX11_passing 2 = .ok (.invokevirtual 245, 3) := by decide +kernel
theorem dX11_passing_5 : decode cX11_passing 5 = .ok (.ifCond .eq 7, 3) := by decide +kernel
theorem dX11_passing_8 : decode cX11_passing 8 = .ok (.iload_n 2, 1) := by decide +kernel
theorem dX11_passing_9 : decode cX11_passing 9 = .ok (.ifCond .ge 5, 3) := by decide +kernel
theorem dX11_passing_12 : decode cX11_passing 12 = .ok (.iconst (-1), 1) := by decide +kernel
theorem dX11_passing_13 : decode cX11_passing 13 = .ok (.ireturn, 1) := by decide +kernel
theorem dX11_passing_14 : decode cX11_passing 14 = .ok (.iconst 0, 1) := by decide +kernel
theorem dX11_passing_15 : decode cX11_passing 15 = .ok (.istore_n 3, 1) := by decide +kernel
theorem dX11_passing_16 : decode cX11_passing 16 = .ok (.aload_n 0, 1) := by decide +kernel
theorem dX11_passing_17 : decode cX11_passing 17 = .ok (.getfield 14, 3) := by decide +kernel
theorem dX11_passing_20 : decode cX11_passing 20 = .ok (.invokevirtual 137, 3) := by decide +kernel
theorem dX11_passing_23 : decode cX11_passing 23 = .ok (.istore 4, 2) := by decide +kernel
theorem dX11_passing_25 : decode cX11_passing 25 = .ok (.iconst 0, 1) := by decide +kernel
theorem dX11_passing_26 : decode cX11_passing 26 = .ok (.istore 5, 2) := by decide +kernel
theorem dX11_passing_28 : decode cX11_passing 28 = .ok (.iload 5, 2) := by decide +kernel
theorem dX11_passing_30 : decode cX11_passing 30 = .ok (.iload 4, 2) := by decide +kernel
theorem dX11_passing_32 : decode cX11_passing 32 = .ok (.if_icmp .gt 37, 3) := by decide +kernel
theorem dX11_passing_35 : decode cX11_passing 35 = .ok (.aload_n 0, 1) := by decide +kernel
theorem dX11_passing_36 : decode cX11_passing 36 = .ok (.getfield 46, 3) := by decide +kernel
theorem dX11_passing_39 : decode cX11_passing 39 = .ok (.iload_n 1, 1) := by decide +kernel
theorem dX11_passing_40 : decode cX11_passing 40 = .ok (.iload 5, 2) := by decide +kernel
theorem dX11_passing_42 : decode cX11_passing 42 = .ok (.aload_n 0, 1) := by decide +kernel
theorem dX11_passing_43 : decode cX11_passing 43 = .ok (.getfield 23, 3) := by decide +kernel
theorem dX11_passing_46 : decode cX11_passing 46 = .ok (.invokevirtual 249, 3) := by decide +kernel
theorem dX11_passing_49 : decode cX11_passing 49 = .ok (.ifCond .eq 14, 3) := by decide +kernel
theorem dX11_passing_52 : decode cX11_passing 52 = .ok (.iload_n 3, 1) := by decide +kernel
theorem dX11_passing_53 : decode cX11_passing 53 = .ok (.iload_n 2, 1) := by decide +kernel
theorem dX11_passing_54 : decode cX11_passing 54 = .ok (.if_icmp .ne 6, 3) := by decide +kernel
theorem dX11_passing_57 : decode cX11_passing 57 = .ok (.iload 5, 2) := by decide +kernel
theorem dX11_passing_59 : decode cX11_passing 59 = .ok (.ireturn, 1) := by decide +kernel
theorem dX11_passing_60 : decode cX11_passing 60 = .ok (.iinc 3 1, 3) := by decide +kernel
theorem dX11_passing_63 : decode cX11_passing 63 = .ok (.iinc 5 1, 3) := by decide +kernel
theorem dX11_passing_66 : decode cX11_passing 66 = .ok (.goto (-38), 3) := by decide +kernel
theorem dX11_passing_69 : decode cX11_passing 69 = .ok (.bipush (-2), 2) := by decide +kernel
theorem dX11_passing_71 : decode cX11_passing 71 = .ok (.ireturn, 1) := by decide +kernel
theorem dX11_append_0 : decode cX11_append 0 = .ok (.aload_n 0, 1) := by decide +kernel
theorem dX11_append_1 : decode cX11_append 1 = .ok (.iload_n 1, 1) := by decide +kernel
theorem dX11_append_2 : decode cX11_append 2 = .ok (.invokevirtual 168, 3) := by decide +kernel
theorem dX11_append_5 : decode cX11_append 5 = .ok (.ifCond .ne 5, 3) := by decide +kernel
theorem dX11_append_8 : decode cX11_append 8 = .ok (.iconst (-1), 1) := by decide +kernel
theorem dX11_append_9 : decode cX11_append 9 = .ok (.ireturn, 1) := by decide +kernel
theorem dX11_append_10 : decode cX11_append 10 = .ok (.aload_n 0, 1) := by decide +kernel
theorem dX11_append_11 : decode cX11_append 11 = .ok (.getfield 53, 3) := by decide +kernel
theorem dX11_append_14 : decode cX11_append 14 = .ok (.getfield 253, 3) := by decide +kernel
theorem dX11_append_17 : decode cX11_append 17 = .ok (.iload_n 1, 1) := by decide +kernel
theorem dX11_append_18 : decode cX11_append 18 = .ok (.invokevirtual 256, 3) := by decide +kernel
theorem dX11_append_21 : decode cX11_append 21 = .ok (.ifCond .eq 16, 3) := by decide +kernel
theorem dX11_append_24 : decode cX11_append 24 = .ok (.aload_n 0, 1) := by decide +kernel
theorem dX11_append_25 : decode cX11_append 25 = .ok (.getfield 53, 3) := by decide +kernel
theorem dX11_append_28 : decode cX11_append 28 = .ok (.getfield 253, 3) := by decide +kernel
theorem dX11_append_31 : decode cX11_append 31 = .ok (.getfield 148, 3) := by decide +kernel
theorem dX11_append_34 : decode cX11_append 34 = .ok (.goto 5, 3) := by decide +kernel
theorem dX11_append_37 : decode cX11_append 37 = .ok (.bipush (-3), 2) := by decide +kernel
theorem dX11_append_39 : decode cX11_append 39 = .ok (.ireturn, 1) := by decide +kernel
theorem dX11_fillWithGenerators_0 : decode cX11_fillWithGenerators 0 = .ok (.iload_n 1, 1) := by decide +kernel
theorem dX11_fillWithGenerators_1 : decode cX11_fillWithGenerators 1 = .ok (.invokestatic 188, 3) := by decide +kernel
theorem dX11_fillWithGenerators_4 : decode cX11_fillWithGenerators 4 = .ok (.ifCond .eq 18, 3) := by decide +kernel
theorem dX11_fillWithGenerators_7 : decode cX11_fillWithGenerators 7 = .ok (.aload_n 0, 1) := by decide +kernel
theorem dX11_fillWithGenerators_8 : decode cX11_fillWithGenerators 8 = .ok (.aload_n 0, 1) := by decide +kernel
theorem dX11_fillWithGenerators_9 : decode cX11_fillWithGenerators 9 = .ok (.getfield 23, 3) := by decide +kernel
theorem dX11_fillWithGenerators_12 : decode cX11_fillWithGenerators 12 = .ok (.iload_n 1, 1) := by decide +kernel
theorem dX11_fillWithGenerators_13 : decode cX11_fillWithGenerators 13 = .ok (.invokevirtual 191, 3) := by decide +kernel
theorem dX11_fillWithGenerators_16 : decode cX11_fillWithGenerators 16 = .ok (.invokevirtual 258, 3) := by decide +kernel
theorem dX11_fillWithGenerators_19 : decode cX11_fillWithGenerators 19 = .ok (.goto 4, 3) := by decide +kernel
theorem dX11_fillWithGenerators_22 : decode cX11_fillWithGenerators 22 = .ok (.iconst (-1), 1) := by decide +kernel
theorem dX11_fillWithGenerators_23 : decode cX11_fillWithGenerators 23 = .ok (.ireturn, 1) := by decide +kernel
theorem dX11_fillWithSymbolicGenerators_0 : decode cX11_fillWithSymbolicGenerators 0 = .ok (.iload_n 1, 1) := by decide +kernel
theorem dX11_fillWithSymbolicGenerators_1 : decode cX11_fillWithSymbolicGenerators 1 = .ok (.invokestatic 188, 3) := by decide +kernel
theorem dX11_fillWithSymbolicGenerators_4 : decode cX11_fillWithSymbolicGenerators 4 = .ok (.ifCond .eq 18, 3) := by decide +kernel
theorem dX11_fillWithSymbolicGenerators_7 : decode cX11_fillWithSymbolicGenerators 7 = .ok (.aload_n 0, 1) := by decide +kernel
theorem dX11_fillWithSymbolicGenerators_8 : decode cX11_fillWithSymbolicGenerators 8 = .ok (.aload_n 0, 1) := by decide +kernel
theorem dX11_fillWithSymbolicGenerators_9 : decode cX11_fillWithSymbolicGenerators 9 = .ok (.getfield 23, 3) := by decide +kernel
theorem dX11_fillWithSymbolicGenerators_12 : decode cX11_fillWithSymbolicGenerators 12 = .ok (.iload_n 1, 1) := by decide +kernel
theorem dX11_fillWithSymbolicGenerators_13 : decode cX11_fillWithSymbolicGenerators 13 = .ok (.invokevirtual 194, 3) := by decide +kernel
theorem dX11_fillWithSymbolicGenerators_16 : decode cX11_fillWithSymbolicGenerators 16 = .ok (.invokevirtual 258, 3) := by decide +kernel
theorem dX11_fillWithSymbolicGenerators_19 : decode cX11_fillWithSymbolicGenerators 19 = .ok (.goto 4, 3) := by decide +kernel
theorem dX11_fillWithSymbolicGenerators_22 : decode cX11_fillWithSymbolicGenerators 22 = .ok (.iconst (-1), 1) := by decide +kernel
theorem dX11_fillWithSymbolicGenerators_23 : decode cX11_fillWithSymbolicGenerators 23 = .ok (.ireturn, 1) := by decide +kernel
theorem dX11_listSize_0 : decode cX11_listSize 0 = .ok (.aload_n 0, 1) := by decide +kernel
theorem dX11_listSize_1 : decode cX11_listSize 1 = .ok (.getfield 53, 3) := by decide +kernel
theorem dX11_listSize_4 : decode cX11_listSize 4 = .ok (.getfield 253, 3) := by decide +kernel
theorem dX11_listSize_7 : decode cX11_listSize 7 = .ok (.getfield 148, 3) := by decide +kernel
theorem dX11_listSize_10 : decode cX11_listSize 10 = .ok (.ireturn, 1) := by decide +kernel
theorem dX11_element_0 : decode cX11_element 0 = .ok (.aload_n 0, 1) := by decide +kernel
theorem dX11_element_1 : decode cX11_element 1 = .ok (.getfield 53, 3) := by decide +kernel
theorem dX11_element_4 : decode cX11_element 4 = .ok (.getfield 253, 3) := by decide +kernel
theorem dX11_element_7 : decode cX11_element 7 = .ok (.iload_n 1, 1) := by decide +kernel
theorem dX11_element_8 : decode cX11_element 8 = .ok (.invokestatic 151, 3) := by decide +kernel
theorem dX11_element_11 : decode cX11_element 11 = .ok (.ireturn, 1) := by decide +kernel
theorem dX11_clearList_0 : decode cX11_clearList 0 = .ok (.aload_n 0, 1) := by decide +kernel
theorem dX11_clearList_1 : decode cX11_clearList 1 = .ok (.getfield 53, 3) := by decide +kernel
theorem dX11_clearList_4 : decode cX11_clearList 4 = .ok (.getfield 253, 3) := by decide +kernel
theorem dX11_clearList_7 : decode cX11_clearList 7 = .ok (.getfield 148, 3) := by decide +kernel
theorem dX11_clearList_10 : decode cX11_clearList 10 = .ok (.istore_n 1, 1) := by decide +kernel
theorem dX11_clearList_11 : decode cX11_clearList 11 = .ok (.aload_n 0, 1) := by decide +kernel
theorem dX11_clearList_12 : decode cX11_clearList 12 = .ok (.getfield 53, 3) := by decide +kernel
theorem dX11_clearList_15 : decode cX11_clearList 15 = .ok (.getfield 253, 3) := by decide +kernel
theorem dX11_clearList_18 : decode cX11_clearList 18 = .ok (.iconst 0, 1) := by decide +kernel
theorem dX11_clearList_19 : decode cX11_clearList 19 = .ok (.putfield 148, 3) := by decide +kernel
theorem dX11_clearList_22 : decode cX11_clearList 22 = .ok (.iload_n 1, 1) := by decide +kernel
theorem dX11_clearList_23 : decode cX11_clearList 23 = .ok (.ireturn, 1) := by decide +kernel
theorem dX11_minimizeList_0 : decode cX11_minimizeList 0 = .ok (.aload_n 0, 1) := by decide +kernel
theorem dX11_minimizeList_1 : decode cX11_minimizeList 1 = .ok (.getfield 53, 3) := by decide +kernel
theorem dX11_minimizeList_4 : decode cX11_minimizeList 4 = .ok (.invokevirtual 261, 3) := by decide +kernel
theorem dX11_minimizeList_7 : decode cX11_minimizeList 7 = .ok (.aload_n 0, 1) := by decide +kernel
theorem dX11_minimizeList_8 : decode cX11_minimizeList 8 = .ok (.getfield 53, 3) := by decide +kernel
theorem dX11_minimizeList_11 : decode cX11_minimizeList 11 = .ok (.getfield 253, 3) := by decide +kernel
theorem dX11_minimizeList_14 : decode cX11_minimizeList 14 = .ok (.getfield 148, 3) := by decide +kernel
theorem dX11_minimizeList_17 : decode cX11_minimizeList 17 = .ok (.ireturn, 1) := by decide +kernel
theorem dX11_divideListBy_0 : decode cX11_divideListBy 0 = .ok (.iload_n 1, 1) := by decide +kernel
theorem dX11_divideListBy_1 : decode cX11_divideListBy 1 = .ok (.invokestatic 242, 3) := by decide +kernel
theorem dX11_divideListBy_4 : decode cX11_divideListBy 4 = .ok (.ifCond .ne 5, 3) := by decide +kernel
theorem dX11_divideListBy_7 : decode cX11_divideListBy 7 = .ok (.iconst (-1), 1) := by decide +kernel
theorem dX11_divideListBy_8 : decode cX11_divideListBy 8 = .ok (.ireturn, 1) := by decide +kernel
theorem dX11_divideListBy_9 : decode cX11_divideListBy 9 = .ok (.aload_n 0, 1) := by decide +kernel
theorem dX11_divideListBy_10 : decode cX11_divideListBy 10 = .ok (.getfield 53, 3) := by decide +kernel
theorem dX11_divideListBy_13 : decode cX11_divideListBy 13 = .ok (.iload_n 1, 1) := by decide +kernel
theorem dX11_divideListBy_14 : decode cX11_divideListBy 14 = .ok (.invokevirtual 264, 3) := by decide +kernel
theorem dX11_divideListBy_17 : decode cX11_divideListBy 17 = .ok (.aload_n 0, 1) := by decide +kernel
theorem dX11_divideListBy_18 : decode cX11_divideListBy 18 = .ok (.getfield 53, 3) := by decide +kernel
theorem dX11_divideListBy_21 : decode cX11_divideListBy 21 = .ok (.invokevirtual 261, 3) := by decide +kernel
theorem dX11_divideListBy_24 : decode cX11_divideListBy 24 = .ok (.aload_n 0, 1) := by decide +kernel
theorem dX11_divideListBy_25 : decode cX11_divideListBy 25 = .ok (.getfield 53, 3) := by decide +kernel
theorem dX11_divideListBy_28 : decode cX11_divideListBy 28 = .ok (.getfield 253, 3) := by decide +kernel
theorem dX11_divideListBy_31 : decode cX11_divideListBy 31 = .ok (.getfield 148, 3) := by decide +kernel
theorem dX11_divideListBy_34 : decode cX11_divideListBy 34 = .ok (.ireturn, 1) := by decide +kernel
theorem dX11_reverseList_0 : decode cX11_reverseList 0 = .ok (.aload_n 0, 1) := by decide +kernel
theorem dX11_reverseList_1 : decode cX11_reverseList 1 = .ok (.getfield 53, 3) := by decide +kernel
theorem dX11_reverseList_4 : decode cX11_reverseList 4 = .ok (.invokevirtual 268, 3) := by decide +kernel
theorem dX11_reverseList_7 : decode cX11_reverseList 7 = .ok (.aload_n 0, 1) := by decide +kernel
theorem dX11_reverseList_8 : decode cX11_reverseList 8 = .ok (.getfield 53, 3) := by decide +kernel
theorem dX11_reverseList_11 : decode cX11_reverseList 11 = .ok (.getfield 253, 3) := by decide +kernel
theorem dX11_reverseList_14 : decode cX11_reverseList 14 = .ok (.getfield 148, 3) := by decide +kernel
theorem dX11_reverseList_17 : decode cX11_reverseList 17 = .ok (.ireturn, 1) := by decide +kernel
theorem dX11_rotateList_0 : decode cX11_rotateList 0 = .ok (.iload_n 1, 1) := by decide +kernel
theorem dX11_rotateList_1 : decode cX11_rotateList 1 = .ok (.ifCond .lt 9, 3) := by decide +kernel
theorem dX11_rotateList_4 : decode cX11_rotateList 4 = .ok (.iload_n 1, 1) := by decide +kernel
theorem dX11_rotateList_5 : decode cX11_rotateList 5 = .ok (.bipush 24, 2) := by decide +kernel
theorem dX11_rotateList_7 : decode cX11_rotateList 7 = .ok (.if_icmp .le 5, 3) := by decide +kernel
theorem dX11_rotateList_10 : decode cX11_rotateList 10 = .ok (.iconst (-1), 1) := by decide +kernel
theorem dX11_rotateList_11 : decode cX11_rotateList 11 = .ok (.ireturn, 1) := by decide +kernel
theorem dX11_rotateList_12 : decode cX11_rotateList 12 = .ok (.aload_n 0, 1) := by decide +kernel
theorem dX11_rotateList_13 : decode cX11_rotateList 13 = .ok (.getfield 53, 3) := by decide +kernel
theorem dX11_rotateList_16 : decode cX11_rotateList 16 = .ok (.iload_n 1, 1) := by decide +kernel
theorem dX11_rotateList_17 : decode cX11_rotateList 17 = .ok (.invokevirtual 271, 3) := by decide +kernel
theorem dX11_rotateList_20 : decode cX11_rotateList 20 = .ok (.aload_n 0, 1) := by decide +kernel
theorem dX11_rotateList_21 : decode cX11_rotateList 21 = .ok (.getfield 53, 3) := by decide +kernel
theorem dX11_rotateList_24 : decode cX11_rotateList 24 = .ok (.getfield 253, 3) := by decide +kernel
theorem dX11_rotateList_27 : decode cX11_rotateList 27 = .ok (.getfield 148, 3) := by decide +kernel
theorem dX11_rotateList_30 : decode cX11_rotateList 30 = .ok (.ireturn, 1) := by decide +kernel
theorem dX11_swapElements_0 : decode cX11_swapElements 0 = .ok (.aload_n 0, 1) := by decide +kernel
theorem dX11_swapElements_1 : decode cX11_swapElements 1 = .ok (.getfield 53, 3) := by decide +kernel
theorem dX11_swapElements_4 : decode cX11_swapElements 4 = .ok (.getfield 253, 3) := by decide +kernel
theorem dX11_swapElements_7 : decode cX11_swapElements 7 = .ok (.iload_n 1, 1) := by decide +kernel
theorem dX11_swapElements_8 : decode cX11_swapElements 8 = .ok (.invokevirtual 274, 3) := by decide +kernel
theorem dX11_swapElements_11 : decode cX11_swapElements 11 = .ok (.ifCond .eq 17, 3) := by decide +kernel
theorem dX11_swapElements_14 : decode cX11_swapElements 14 = .ok (.aload_n 0, 1) := by decide +kernel
theorem dX11_swapElements_15 : decode cX11_swapElements 15 = .ok (.getfield 53, 3) := by decide +kernel
theorem dX11_swapElements_18 : decode cX11_swapElements 18 = .ok (.getfield 253, 3) := by decide +kernel
theorem dX11_swapElements_21 : decode cX11_swapElements 21 = .ok (.iload_n 2, 1) := by decide +kernel
theorem dX11_swapElements_22 : decode cX11_swapElements 22 = .ok (.invokevirtual 274, 3) := by decide +kernel
theorem dX11_swapElements_25 : decode cX11_swapElements 25 = .ok (.ifCond .ne 6, 3) := by decide +kernel
theorem dX11_swapElements_28 : decode cX11_swapElements 28 = .ok (.bipush (-2), 2) := by decide +kernel
theorem dX11_swapElements_30 : decode cX11_swapElements 30 = .ok (.ireturn, 1) := by decide +kernel
theorem dX11_swapElements_31 : decode cX11_swapElements 31 = .ok (.aload_n 0, 1) := by decide +kernel
theorem dX11_swapElements_32 : decode cX11_swapElements 32 = .ok (.getfield 53, 3) := by decide +kernel
theorem dX11_swapElements_35 : decode cX11_swapElements 35 = .ok (.iload_n 1, 1) := by decide +kernel
theorem dX11_swapElements_36 : decode cX11_swapElements 36 = .ok (.iload_n 2, 1) := by decide +kernel
theorem dX11_swapElements_37 : decode cX11_swapElements 37 = .ok (.invokevirtual 277, 3) := by decide +kernel
theorem dX11_swapElements_40 : decode cX11_swapElements 40 = .ok (.aload_n 0, 1) := by decide +kernel
theorem dX11_swapElements_41 : decode cX11_swapElements 41 = .ok (.getfield 53, 3) := by decide +kernel
theorem dX11_swapElements_44 : decode cX11_swapElements 44 = .ok (.getfield 253, 3) := by decide +kernel
theorem dX11_swapElements_47 : decode cX11_swapElements 47 = .ok (.getfield 148, 3) := by decide +kernel
theorem dX11_swapElements_50 : decode cX11_swapElements 50 = .ok (.ireturn, 1) := by decide +kernel
theorem dX11_indexOfDivisor_0 : decode cX11_indexOfDivisor 0 = .ok (.aload_n 0, 1) := by decide +kernel
theorem dX11_indexOfDivisor_1 : decode cX11_indexOfDivisor 1 = .ok (.iload_n 1, 1) := by decide +kernel
theorem dX11_indexOfDivisor_2 : decode cX11_indexOfDivisor 2 = .ok (.invokevirtual 168, 3) := by decide +kernel
theorem dX11_indexOfDivisor_5 : decode cX11_indexOfDivisor 5 = .ok (.ifCond .eq 14, 3) := by decide +kernel
theorem dX11_indexOfDivisor_8 : decode cX11_indexOfDivisor 8 = .ok (.aload_n 0, 1) := by decide +kernel
theorem dX11_indexOfDivisor_9 : decode cX11_indexOfDivisor 9 = .ok (.getfield 53, 3) := by decide +kernel
theorem dX11_indexOfDivisor_12 : decode cX11_indexOfDivisor 12 = .ok (.iload_n 1, 1) := by decide +kernel
theorem dX11_indexOfDivisor_13 : decode cX11_indexOfDivisor 13 = .ok (.invokevirtual 281, 3) := by decide +kernel
theorem dX11_indexOfDivisor_16 : decode cX11_indexOfDivisor 16 = .ok (.goto 4, 3) := by decide +kernel
theorem dX11_indexOfDivisor_19 : decode cX11_indexOfDivisor 19 = .ok (.iconst (-1), 1) := by decide +kernel
theorem dX11_indexOfDivisor_20 : decode cX11_indexOfDivisor 20 = .ok (.ireturn, 1) := by decide +kernel
theorem dX11_polarizedVariableCount_0 : decode cX11_polarizedVariableCount 0 = .ok (.aload_n 0, 1) := by decide +kernel
theorem dX11_polarizedVariableCount_1 : decode cX11_polarizedVariableCount 1 = .ok (.getfield 53, 3) := by decide +kernel
theorem dX11_polarizedVariableCount_4 : decode cX11_polarizedVariableCount 4 = .ok (.invokevirtual 284, 3) := by decide +kernel
theorem dX11_polarizedVariableCount_7 : decode cX11_polarizedVariableCount 7 = .ok (.ireturn, 1) := by decide +kernel
theorem dX11_polarized_0 : decode cX11_polarized 0 = .ok (.iload_n 1, 1) := by decide +kernel
theorem dX11_polarized_1 : decode cX11_polarized 1 = .ok (.ifCond .ge 5, 3) := by decide +kernel
theorem dX11_polarized_4 : decode cX11_polarized 4 = .ok (.iconst (-1), 1) := by decide +kernel
theorem dX11_polarized_5 : decode cX11_polarized 5 = .ok (.ireturn, 1) := by decide +kernel
theorem dX11_polarized_6 : decode cX11_polarized 6 = .ok (.aload_n 0, 1) := by decide +kernel
theorem dX11_polarized_7 : decode cX11_polarized 7 = .ok (.getfield 53, 3) := by decide +kernel
theorem dX11_polarized_10 : decode cX11_polarized 10 = .ok (.getfield 253, 3) := by decide +kernel
theorem dX11_polarized_13 : decode cX11_polarized 13 = .ok (.iload_n 1, 1) := by decide +kernel
theorem dX11_polarized_14 : decode cX11_polarized 14 = .ok (.invokevirtual 274, 3) := by decide +kernel
theorem dX11_polarized_17 : decode cX11_polarized 17 = .ok (.ifCond .eq 14, 3) := by decide +kernel
theorem dX11_polarized_20 : decode cX11_polarized 20 = .ok (.aload_n 0, 1) := by decide +kernel
theorem dX11_polarized_21 : decode cX11_polarized 21 = .ok (.getfield 53, 3) := by decide +kernel
theorem dX11_polarized_24 : decode cX11_polarized 24 = .ok (.iload_n 1, 1) := by decide +kernel
theorem dX11_polarized_25 : decode cX11_polarized 25 = .ok (.invokevirtual 287, 3) := by decide +kernel
theorem dX11_polarized_28 : decode cX11_polarized 28 = .ok (.goto 5, 3) := by decide +kernel
theorem dX11_polarized_31 : decode cX11_polarized 31 = .ok (.bipush (-2), 2) := by decide +kernel
theorem dX11_polarized_33 : decode cX11_polarized 33 = .ok (.ireturn, 1) := by decide +kernel
theorem dX11_hittingNumber_0 : decode cX11_hittingNumber 0 = .ok (.aload_n 0, 1) := by decide +kernel
theorem dX11_hittingNumber_1 : decode cX11_hittingNumber 1 = .ok (.getfield 53, 3) := by decide +kernel
theorem dX11_hittingNumber_4 : decode cX11_hittingNumber 4 = .ok (.invokevirtual 290, 3) := by decide +kernel
theorem dX11_hittingNumber_7 : decode cX11_hittingNumber 7 = .ok (.ireturn, 1) := by decide +kernel
theorem dX11_fillList_0 : decode cX11_fillList 0 = .ok (.aload_n 1, 1) := by decide +kernel
theorem dX11_fillList_1 : decode cX11_fillList 1 = .ok (.getfield 148, 3) := by decide +kernel
theorem dX11_fillList_4 : decode cX11_fillList 4 = .ok (.bipush 24, 2) := by decide +kernel
theorem dX11_fillList_6 : decode cX11_fillList 6 = .ok (.if_icmp .le 6, 3) := by decide +kernel
theorem dX11_fillList_9 : decode cX11_fillList 9 = .ok (.bipush (-3), 2) := by decide +kernel
theorem dX11_fillList_11 : decode cX11_fillList 11 = .ok (.ireturn, 1) := by decide +kernel
theorem dX11_fillList_12 : decode cX11_fillList 12 = .ok (.aload_n 0, 1) := by decide +kernel
theorem dX11_fillList_13 : decode cX11_fillList 13 = .ok (.getfield 53, 3) := by decide +kernel
theorem dX11_fillList_16 : decode cX11_fillList 16 = .ok (.getfield 253, 3) := by decide +kernel
theorem dX11_fillList_19 : decode cX11_fillList 19 = .ok (.aload_n 1, 1) := by decide +kernel
theorem dX11_fillList_20 : decode cX11_fillList 20 = .ok (.invokevirtual 293, 3) := by decide +kernel
theorem dX11_fillList_23 : decode cX11_fillList 23 = .ok (.aload_n 0, 1) := by decide +kernel
theorem dX11_fillList_24 : decode cX11_fillList 24 = .ok (.getfield 53, 3) := by decide +kernel
theorem dX11_fillList_27 : decode cX11_fillList 27 = .ok (.getfield 253, 3) := by decide +kernel
theorem dX11_fillList_30 : decode cX11_fillList 30 = .ok (.getfield 148, 3) := by decide +kernel
theorem dX11_fillList_33 : decode cX11_fillList 33 = .ok (.ireturn, 1) := by decide +kernel
theorem dX11_feed_0 : decode cX11_feed 0 = .ok (.iload_n 1, 1) := by decide +kernel
theorem dX11_feed_1 : decode cX11_feed 1 = .ok (.ifCond .lt 10, 3) := by decide +kernel
theorem dX11_feed_4 : decode cX11_feed 4 = .ok (.iload_n 1, 1) := by decide +kernel
theorem dX11_feed_5 : decode cX11_feed 5 = .ok (.sipush 255, 3) := by decide +kernel
theorem dX11_feed_8 : decode cX11_feed 8 = .ok (.if_icmp .le 5, 3) := by decide +kernel
theorem dX11_feed_11 : decode cX11_feed 11 = .ok (.iconst (-1), 1) := by decide +kernel
theorem dX11_feed_12 : decode cX11_feed 12 = .ok (.ireturn, 1) := by decide +kernel
theorem dX11_feed_13 : decode cX11_feed 13 = .ok (.aload_n 0, 1) := by decide +kernel
theorem dX11_feed_14 : decode cX11_feed 14 = .ok (.getfield 60, 3) := by decide +kernel
theorem dX11_feed_17 : decode cX11_feed 17 = .ok (.getfield 297, 3) := by decide +kernel
theorem dX11_feed_20 : decode cX11_feed 20 = .ok (.iload_n 1, 1) := by decide +kernel
theorem dX11_feed_21 : decode cX11_feed 21 = .ok (.invokevirtual 256, 3) := by decide +kernel
theorem dX11_feed_24 : decode cX11_feed 24 = .ok (.ifCond .eq 16, 3) := by decide +kernel
theorem dX11_feed_27 : decode cX11_feed 27 = .ok (.aload_n 0, 1) := by decide +kernel
theorem dX11_feed_28 : decode cX11_feed 28 = .ok (.getfield 60, 3) := by decide +kernel
theorem dX11_feed_31 : decode cX11_feed 31 = .ok (.getfield 297, 3) := by decide +kernel
theorem dX11_feed_34 : decode cX11_feed 34 = .ok (.getfield 148, 3) := by decide +kernel
theorem dX11_feed_37 : decode cX11_feed 37 = .ok (.goto 5, 3) := by decide +kernel
theorem dX11_feed_40 : decode cX11_feed 40 = .ok (.bipush (-3), 2) := by decide +kernel
theorem dX11_feed_42 : decode cX11_feed 42 = .ok (.ireturn, 1) := by decide +kernel
theorem dX11_discardInput_0 : decode cX11_discardInput 0 = .ok (.aload_n 0, 1) := by decide +kernel
theorem dX11_discardInput_1 : decode cX11_discardInput 1 = .ok (.getfield 60, 3) := by decide +kernel
theorem dX11_discardInput_4 : decode cX11_discardInput 4 = .ok (.getfield 297, 3) := by decide +kernel
theorem dX11_discardInput_7 : decode cX11_discardInput 7 = .ok (.getfield 148, 3) := by decide +kernel
theorem dX11_discardInput_10 : decode cX11_discardInput 10 = .ok (.istore_n 1, 1) := by decide +kernel
theorem dX11_discardInput_11 : decode cX11_discardInput 11 = .ok (.aload_n 0, 1) := by decide +kernel
theorem dX11_discardInput_12 : decode cX11_discardInput 12 = .ok (.getfield 60, 3) := by decide +kernel
theorem dX11_discardInput_15 : decode cX11_discardInput 15 = .ok (.getfield 297, 3) := by decide +kernel
theorem dX11_discardInput_18 : decode cX11_discardInput 18 = .ok (.iconst 0, 1) := by decide +kernel
theorem dX11_discardInput_19 : decode cX11_discardInput 19 = .ok (.putfield 148, 3) := by decide +kernel
theorem dX11_discardInput_22 : decode cX11_discardInput 22 = .ok (.iload_n 1, 1) := by decide +kernel
theorem dX11_discardInput_23 : decode cX11_discardInput 23 = .ok (.ireturn, 1) := by decide +kernel
theorem dX11_inputLength_0 : decode cX11_inputLength 0 = .ok (.aload_n 0, 1) := by decide +kernel
theorem dX11_inputLength_1 : decode cX11_inputLength 1 = .ok (.getfield 60, 3) := by decide +kernel
theorem dX11_inputLength_4 : decode cX11_inputLength 4 = .ok (.getfield 297, 3) := by decide +kernel
theorem dX11_inputLength_7 : decode cX11_inputLength 7 = .ok (.getfield 148, 3) := by decide +kernel
theorem dX11_inputLength_10 : decode cX11_inputLength 10 = .ok (.ireturn, 1) := by decide +kernel
theorem dX11_parse_0 : decode cX11_parse 0 = .ok (.aload_n 0, 1) := by decide +kernel
theorem dX11_parse_1 : decode cX11_parse 1 = .ok (.getfield 60, 3) := by decide +kernel
theorem dX11_parse_4 : decode cX11_parse 4 = .ok (.invokevirtual 300, 3) := by decide +kernel
theorem dX11_parse_7 : decode cX11_parse 7 = .ok (.istore_n 1, 1) := by decide +kernel
theorem dX11_parse_8 : decode cX11_parse 8 = .ok (.aload_n 0, 1) := by decide +kernel
theorem dX11_parse_9 : decode cX11_parse 9 = .ok (.getfield 60, 3) := by decide +kernel
theorem dX11_parse_12 : decode cX11_parse 12 = .ok (.getfield 297, 3) := by decide +kernel
theorem dX11_parse_15 : decode cX11_parse 15 = .ok (.iconst 0, 1) := by decide +kernel
theorem dX11_parse_16 : decode cX11_parse 16 = .ok (.putfield 148, 3) := by decide +kernel
theorem dX11_parse_19 : decode cX11_parse 19 = .ok (.iload_n 1, 1) := by decide +kernel
theorem dX11_parse_20 : decode cX11_parse 20 = .ok (.bipush (-2), 2) := by decide +kernel
theorem dX11_parse_22 : decode cX11_parse 22 = .ok (.if_icmp .eq 9, 3) := by decide +kernel
theorem dX11_parse_25 : decode cX11_parse 25 = .ok (.sipush (-1000), 3) := by decide +kernel
theorem dX11_parse_28 : decode cX11_parse 28 = .ok (.iload_n 1, 1) := by decide +kernel
theorem dX11_parse_29 : decode cX11_parse 29 = .ok (.isub, 1) := by decide +kernel
theorem dX11_parse_30 : decode cX11_parse 30 = .ok (.ireturn, 1) := by decide +kernel
theorem dX11_parse_31 : decode cX11_parse 31 = .ok (.aload_n 0, 1) := by decide +kernel
theorem dX11_parse_32 : decode cX11_parse 32 = .ok (.getfield 53, 3) := by decide +kernel
theorem dX11_parse_35 : decode cX11_parse 35 = .ok (.getfield 253, 3) := by decide +kernel
theorem dX11_parse_38 : decode cX11_parse 38 = .ok (.aload_n 0, 1) := by decide +kernel
theorem dX11_parse_39 : decode cX11_parse 39 = .ok (.getfield 60, 3) := by decide +kernel
theorem dX11_parse_42 : decode cX11_parse 42 = .ok (.getfield 303, 3) := by decide +kernel
theorem dX11_parse_45 : decode cX11_parse 45 = .ok (.invokevirtual 293, 3) := by decide +kernel
theorem dX11_parse_48 : decode cX11_parse 48 = .ok (.aload_n 0, 1) := by decide +kernel
theorem dX11_parse_49 : decode cX11_parse 49 = .ok (.getfield 53, 3) := by decide +kernel
theorem dX11_parse_52 : decode cX11_parse 52 = .ok (.getfield 253, 3) := by decide +kernel
theorem dX11_parse_55 : decode cX11_parse 55 = .ok (.getfield 148, 3) := by decide +kernel
theorem dX11_parse_58 : decode cX11_parse 58 = .ok (.ireturn, 1) := by decide +kernel
theorem dX11_formattedLength_0 : decode cX11_formattedLength 0 = .ok (.aload_n 0, 1) := by decide +kernel
theorem dX11_formattedLength_1 : decode cX11_formattedLength 1 = .ok (.getfield 53, 3) := by decide +kernel
theorem dX11_formattedLength_4 : decode cX11_formattedLength 4 = .ok (.invokevirtual 306, 3) := by decide +kernel
theorem dX11_formattedLength_7 : decode cX11_formattedLength 7 = .ok (.getfield 148, 3) := by decide +kernel
theorem dX11_formattedLength_10 : decode cX11_formattedLength 10 = .ok (.ireturn, 1) := by decide +kernel
theorem dX11_formattedByte_0 : decode cX11_formattedByte 0 = .ok (.aload_n 0, 1) := by decide +kernel
theorem dX11_formattedByte_1 : decode cX11_formattedByte 1 = .ok (.getfield 53, 3) := by decide +kernel
theorem dX11_formattedByte_4 : decode cX11_formattedByte 4 = .ok (.invokevirtual 306, 3) := by decide +kernel
theorem dX11_formattedByte_7 : decode cX11_formattedByte 7 = .ok (.iload_n 1, 1) := by decide +kernel
theorem dX11_formattedByte_8 : decode cX11_formattedByte 8 = .ok (.invokestatic 151, 3) := by decide +kernel
theorem dX11_formattedByte_11 : decode cX11_formattedByte 11 = .ok (.ireturn, 1) := by decide +kernel
theorem dX11_saveList_0 : decode cX11_saveList 0 = .ok (.iload_n 1, 1) := by decide +kernel
theorem dX11_saveList_1 : decode cX11_saveList 1 = .ok (.invokestatic 309, 3) := by decide +kernel
theorem dX11_saveList_4 : decode cX11_saveList 4 = .ok (.ifCond .ne 5, 3) := by decide +kernel
theorem dX11_saveList_7 : decode cX11_saveList 7 = .ok (.iconst (-1), 1) := by decide +kernel
theorem dX11_saveList_8 : decode cX11_saveList 8 = .ok (.ireturn, 1) := by decide +kernel
theorem dX11_saveList_9 : decode cX11_saveList 9 = .ok (.aload_n 0, 1) := by decide +kernel
theorem dX11_saveList_10 : decode cX11_saveList 10 = .ok (.getfield 66, 3) := by decide +kernel
theorem dX11_saveList_13 : decode cX11_saveList 13 = .ok (.iload_n 1, 1) := by decide +kernel
theorem dX11_saveList_14 : decode cX11_saveList 14 = .ok (.aaload, 1) := by decide +kernel
theorem dX11_saveList_15 : decode cX11_saveList 15 = .ok (.iconst 1, 1) := by decide +kernel
theorem dX11_saveList_16 : decode cX11_saveList 16 = .ok (.putfield 312, 3) := by decide +kernel
theorem dX11_saveList_19 : decode cX11_saveList 19 = .ok (.aload_n 0, 1) := by decide +kernel
theorem dX11_saveList_20 : decode cX11_saveList 20 = .ok (.getfield 66, 3) := by decide +kernel
theorem dX11_saveList_23 : decode cX11_saveList 23 = .ok (.iload_n 1, 1) := by decide +kernel
theorem dX11_saveList_24 : decode cX11_saveList 24 = .ok (.aaload, 1) := by decide +kernel
theorem dX11_saveList_25 : decode cX11_saveList 25 = .ok (.getfield 315, 3) := by decide +kernel
theorem dX11_saveList_28 : decode cX11_saveList 28 = .ok (.aload_n 0, 1) := by decide +kernel
theorem dX11_saveList_29 : decode cX11_saveList 29 = .ok (.getfield 53, 3) := by decide +kernel
theorem dX11_saveList_32 : decode cX11_saveList 32 = .ok (.getfield 253, 3) := by decide +kernel
theorem dX11_saveList_35 : decode cX11_saveList 35 = .ok (.invokevirtual 293, 3) := by decide +kernel
theorem dX11_saveList_38 : decode cX11_saveList 38 = .ok (.aload_n 0, 1) := by decide +kernel
theorem dX11_saveList_39 : decode cX11_saveList 39 = .ok (.getfield 53, 3) := by decide +kernel
theorem dX11_saveList_42 : decode cX11_saveList 42 = .ok (.getfield 253, 3) := by decide +kernel
theorem dX11_saveList_45 : decode cX11_saveList 45 = .ok (.getfield 148, 3) := by decide +kernel
theorem dX11_saveList_48 : decode cX11_saveList 48 = .ok (.ireturn, 1) := by decide +kernel
theorem dX11_loadList_0 : decode cX11_loadList 0 = .ok (.aload_n 0, 1) := by decide +kernel
theorem dX11_loadList_1 : decode cX11_loadList 1 = .ok (.iload_n 1, 1) := by decide +kernel
theorem dX11_loadList_2 : decode cX11_loadList 2 = .ok (.iconst 1, 1) := by decide +kernel
theorem dX11_loadList_3 : decode cX11_loadList 3 = .ok (.invokevirtual 316, 3) := by decide +kernel
theorem dX11_loadList_6 : decode cX11_loadList 6 = .ok (.istore_n 2, 1) := by decide +kernel
theorem dX11_loadList_7 : decode cX11_loadList 7 = .ok (.iload_n 2, 1) := by decide +kernel
theorem dX11_loadList_8 : decode cX11_loadList 8 = .ok (.ifCond .eq 5, 3) := by decide +kernel
theorem dX11_loadList_11 : decode cX11_loadList 11 = .ok (.iload_n 2, 1) := by decide +kernel
theorem dX11_loadList_12 : decode cX11_loadList 12 = .ok (.ireturn, 1) := by decide +kernel
theorem dX11_loadList_13 : decode cX11_loadList 13 = .ok (.aload_n 0, 1) := by decide +kernel
theorem dX11_loadList_14 : decode cX11_loadList 14 = .ok (.getfield 53, 3) := by decide +kernel
theorem dX11_loadList_17 : decode cX11_loadList 17 = .ok (.getfield 253, 3) := by decide +kernel
theorem dX11_loadList_20 : decode cX11_loadList 20 = .ok (.aload_n 0, 1) := by decide +kernel
theorem dX11_loadList_21 : decode cX11_loadList 21 = .ok (.getfield 66, 3) := by decide +kernel
theorem dX11_loadList_24 : decode cX11_loadList 24 = .ok (.iload_n 1, 1) := by decide +kernel
theorem dX11_loadList_25 : decode cX11_loadList 25 = .ok (.aaload, 1) := by decide +kernel
theorem dX11_loadList_26 : decode cX11_loadList 26 = .ok (.getfield 315, 3) := by decide +kernel
theorem dX11_loadList_29 : decode cX11_loadList 29 = .ok (.invokevirtual 293, 3) := by decide +kernel
theorem dX11_loadList_32 : decode cX11_loadList 32 = .ok (.aload_n 0, 1) := by decide +kernel
theorem dX11_loadList_33 : decode cX11_loadList 33 = .ok (.getfield 53, 3) := by decide +kernel
theorem dX11_loadList_36 : decode cX11_loadList 36 = .ok (.getfield 253, 3) := by decide +kernel
theorem dX11_loadList_39 : decode cX11_loadList 39 = .ok (.getfield 148, 3) := by decide +kernel
theorem dX11_loadList_42 : decode cX11_loadList 42 = .ok (.ireturn, 1) := by decide +kernel
theorem dX11_clearSlot_0 : decode cX11_clearSlot 0 = .ok (.iload_n 1, 1) := by decide +kernel
theorem dX11_clearSlot_1 : decode cX11_clearSlot 1 = .ok (.invokestatic 309, 3) := by decide +kernel
theorem dX11_clearSlot_4 : decode cX11_clearSlot 4 = .ok (.ifCond .ne 5, 3) := by decide +kernel
theorem dX11_clearSlot_7 : decode cX11_clearSlot 7 = .ok (.iconst (-1), 1) := by decide +kernel
theorem dX11_clearSlot_8 : decode cX11_clearSlot 8 = .ok (.ireturn, 1) := by decide +kernel
theorem dX11_clearSlot_9 : decode cX11_clearSlot 9 = .ok (.aload_n 0, 1) := by decide +kernel
theorem dX11_clearSlot_10 : decode cX11_clearSlot 10 = .ok (.getfield 66, 3) := by decide +kernel
theorem dX11_clearSlot_13 : decode cX11_clearSlot 13 = .ok (.iload_n 1, 1) := by decide +kernel
theorem dX11_clearSlot_14 : decode cX11_clearSlot 14 = .ok (.aaload, 1) := by decide +kernel
theorem dX11_clearSlot_15 : decode cX11_clearSlot 15 = .ok (.getfield 312, 3) := by decide +kernel
theorem dX11_clearSlot_18 : decode cX11_clearSlot 18 = .ok (.istore_n 2, 1) := by decide +kernel
theorem dX11_clearSlot_19 : decode cX11_clearSlot 19 = .ok (.aload_n 0, 1) := by decide +kernel
theorem dX11_clearSlot_20 : decode cX11_clearSlot 20 = .ok (.getfield 66, 3) := by decide +kernel
theorem dX11_clearSlot_23 : decode cX11_clearSlot 23 = .ok (.iload_n 1, 1) := by decide +kernel
theorem dX11_clearSlot_24 : decode cX11_clearSlot 24 = .ok (.aaload, 1) := by decide +kernel
theorem dX11_clearSlot_25 : decode cX11_clearSlot 25 = .ok (.iconst 0, 1) := by decide +kernel
theorem dX11_clearSlot_26 : decode cX11_clearSlot 26 = .ok (.putfield 312, 3) := by decide +kernel
theorem dX11_clearSlot_29 : decode cX11_clearSlot 29 = .ok (.iload_n 2, 1) := by decide +kernel
theorem dX11_clearSlot_30 : decode cX11_clearSlot 30 = .ok (.ireturn, 1) := by decide +kernel
theorem dX11_newArray_0 : decode cX11_newArray 0 = .ok (.iload_n 1, 1) := by decide +kernel
theorem dX11_newArray_1 : decode cX11_newArray 1 = .ok (.invokestatic 309, 3) := by decide +kernel
theorem dX11_newArray_4 : decode cX11_newArray 4 = .ok (.ifCond .eq 9, 3) := by decide +kernel
theorem dX11_newArray_7 : decode cX11_newArray 7 = .ok (.iload_n 2, 1) := by decide +kernel
theorem dX11_newArray_8 : decode cX11_newArray 8 = .ok (.bipush 30, 2) := by decide +kernel
theorem dX11_newArray_10 : decode cX11_newArray 10 = .ok (.if_icmp .le 5, 3) := by decide +kernel
theorem dX11_newArray_13 : decode cX11_newArray 13 = .ok (.iconst (-1), 1) := by decide +kernel
theorem dX11_newArray_14 : decode cX11_newArray 14 = .ok (.ireturn, 1) := by decide +kernel
theorem dX11_newArray_15 : decode cX11_newArray 15 = .ok (.iload_n 2, 1) := by decide +kernel
theorem dX11_newArray_16 : decode cX11_newArray 16 = .ok (.ifCond .ge 6, 3) := by decide +kernel
theorem dX11_newArray_19 : decode cX11_newArray 19 = .ok (.bipush (-14), 2) := by decide +kernel
theorem dX11_newArray_21 : decode cX11_newArray 21 = .ok (.ireturn, 1) := by decide +kernel
theorem dX11_newArray_22 : decode cX11_newArray 22 = .ok (.aload_n 0, 1) := by decide +kernel
theorem dX11_newArray_23 : decode cX11_newArray 23 = .ok (.getfield 66, 3) := by decide +kernel
theorem dX11_newArray_26 : decode cX11_newArray 26 = .ok (.iload_n 1, 1) := by decide +kernel
theorem dX11_newArray_27 : decode cX11_newArray 27 = .ok (.aaload, 1) := by decide +kernel
theorem dX11_newArray_28 : decode cX11_newArray 28 = .ok (.iconst 2, 1) := by decide +kernel
theorem dX11_newArray_29 : decode cX11_newArray 29 = .ok (.putfield 312, 3) := by decide +kernel
theorem dX11_newArray_32 : decode cX11_newArray 32 = .ok (.aload_n 0, 1) := by decide +kernel
theorem dX11_newArray_33 : decode cX11_newArray 33 = .ok (.getfield 66, 3) := by decide +kernel
theorem dX11_newArray_36 : decode cX11_newArray 36 = .ok (.iload_n 1, 1) := by decide +kernel
theorem dX11_newArray_37 : decode cX11_newArray 37 = .ok (.aaload, 1) := by decide +kernel
theorem dX11_newArray_38 : decode cX11_newArray 38 = .ok (.getfield 315, 3) := by decide +kernel
theorem dX11_newArray_41 : decode cX11_newArray 41 = .ok (.iload_n 2, 1) := by decide +kernel
theorem dX11_newArray_42 : decode cX11_newArray 42 = .ok (.invokevirtual 319, 3) := by decide +kernel
theorem dX11_newArray_45 : decode cX11_newArray 45 = .ok (.iload_n 2, 1) := by decide +kernel
theorem dX11_newArray_46 : decode cX11_newArray 46 = .ok (.ireturn, 1) := by decide +kernel
theorem dX11_setArrayElement_0 : decode cX11_setArrayElement 0 = .ok (.aload_n 0, 1) := by decide +kernel
theorem dX11_setArrayElement_1 : decode cX11_setArrayElement 1 = .ok (.iload_n 1, 1) := by decide +kernel
theorem dX11_setArrayElement_2 : decode cX11_setArrayElement 2 = .ok (.iconst 2, 1) := by decide +kernel
theorem dX11_setArrayElement_3 : decode cX11_setArrayElement 3 = .ok (.invokevirtual 316, 3) := by decide +kernel
theorem dX11_setArrayElement_6 : decode cX11_setArrayElement 6 = .ok (.istore 4, 2) := by decide +kernel
theorem dX11_setArrayElement_8 : decode cX11_setArrayElement 8 = .ok (.iload 4, 2) := by decide +kernel
theorem dX11_setArrayElement_10 : decode cX11_setArrayElement 10 = .ok (.ifCond .eq 6, 3) := by decide +kernel
theorem dX11_setArrayElement_13 : decode cX11_setArrayElement 13 = .ok (.iload 4, 2) := by decide +kernel
theorem dX11_setArrayElement_15 : decode cX11_setArrayElement 15 = .ok (.ireturn, 1) := by decide +kernel
theorem dX11_setArrayElement_16 : decode cX11_setArrayElement 16 = .ok (.aload_n 0, 1) := by decide +kernel
theorem dX11_setArrayElement_17 : decode cX11_setArrayElement 17 = .ok (.getfield 66, 3) := by decide +kernel
theorem dX11_setArrayElement_20 : decode cX11_setArrayElement 20 = .ok (.iload_n 1, 1) := by decide +kernel
theorem dX11_setArrayElement_21 : decode cX11_setArrayElement 21 = .ok (.aaload, 1) := by decide +kernel
theorem dX11_setArrayElement_22 : decode cX11_setArrayElement 22 = .ok (.getfield 315, 3) := by decide +kernel
theorem dX11_setArrayElement_25 : decode cX11_setArrayElement 25 = .ok (.iload_n 2, 1) := by decide +kernel
theorem dX11_setArrayElement_26 : decode cX11_setArrayElement 26 = .ok (.invokevirtual 274, 3) := by decide +kernel
theorem dX11_setArrayElement_29 : decode cX11_setArrayElement 29 = .ok (.ifCond .ne 6, 3) := by decide +kernel
theorem dX11_setArrayElement_32 : decode cX11_setArrayElement 32 = .ok (.bipush (-13), 2) := by decide +kernel
theorem dX11_setArrayElement_34 : decode cX11_setArrayElement 34 = .ok (.ireturn, 1) := by decide +kernel
theorem dX11_setArrayElement_35 : decode cX11_setArrayElement 35 = .ok (.aload_n 0, 1) := by decide +kernel
theorem dX11_setArrayElement_36 : decode cX11_setArrayElement 36 = .ok (.getfield 66, 3) := by decide +kernel
theorem dX11_setArrayElement_39 : decode cX11_setArrayElement 39 = .ok (.iload_n 1, 1) := by decide +kernel
theorem dX11_setArrayElement_40 : decode cX11_setArrayElement 40 = .ok (.aaload, 1) := by decide +kernel
theorem dX11_setArrayElement_41 : decode cX11_setArrayElement 41 = .ok (.getfield 315, 3) := by decide +kernel
theorem dX11_setArrayElement_44 : decode cX11_setArrayElement 44 = .ok (.getfield 215, 3) := by decide +kernel
theorem dX11_setArrayElement_47 : decode cX11_setArrayElement 47 = .ok (.iload_n 2, 1) := by decide +kernel
theorem dX11_setArrayElement_48 : decode cX11_setArrayElement 48 = .ok (.iload_n 3, 1) := by decide +kernel
theorem dX11_setArrayElement_49 : decode cX11_setArrayElement 49 = .ok (.iastore, 1) := by decide +kernel
theorem dX11_setArrayElement_50 : decode cX11_setArrayElement 50 = .ok (.iconst 1, 1) := by decide +kernel
theorem dX11_setArrayElement_51 : decode cX11_setArrayElement 51 = .ok (.ireturn, 1) := by decide +kernel
theorem dX11_arrayElement_0 : decode cX11_arrayElement 0 = .ok (.aload_n 0, 1) := by decide +kernel
theorem dX11_arrayElement_1 : decode cX11_arrayElement 1 = .ok (.iload_n 1, 1) := by decide +kernel
theorem dX11_arrayElement_2 : decode cX11_arrayElement 2 = .ok (.iconst 2, 1) := by decide +kernel
theorem dX11_arrayElement_3 : decode cX11_arrayElement 3 = .ok (.invokevirtual 316, 3) := by decide +kernel
theorem dX11_arrayElement_6 : decode cX11_arrayElement 6 = .ok (.ifCond .ne 19, 3) := by decide +kernel
theorem dX11_arrayElement_9 : decode cX11_arrayElement 9 = .ok (.aload_n 0, 1) := by decide +kernel
theorem dX11_arrayElement_10 : decode cX11_arrayElement 10 = .ok (.getfield 66, 3) := by decide +kernel
theorem dX11_arrayElement_13 : decode cX11_arrayElement 13 = .ok (.iload_n 1, 1) := by decide +kernel
theorem dX11_arrayElement_14 : decode cX11_arrayElement 14 = .ok (.aaload, 1) := by decide +kernel
theorem dX11_arrayElement_15 : decode cX11_arrayElement 15 = .ok (.getfield 315, 3) := by decide +kernel
theorem dX11_arrayElement_18 : decode cX11_arrayElement 18 = .ok (.iload_n 2, 1) := by decide +kernel
theorem dX11_arrayElement_19 : decode cX11_arrayElement 19 = .ok (.invokevirtual 274, 3) := by decide +kernel
theorem dX11_arrayElement_22 : decode cX11_arrayElement 22 = .ok (.ifCond .ne 7, 3) := by decide +kernel
theorem dX11_arrayElement_25 : decode cX11_arrayElement 25 = .ok (.ldc2_w 234, 3) := by decide +kernel
theorem dX11_arrayElement_28 : decode cX11_arrayElement 28 = .ok (.lreturn, 1) := by decide +kernel
theorem dX11_arrayElement_29 : decode cX11_arrayElement 29 = .ok (.aload_n 0, 1) := by decide +kernel
theorem dX11_arrayElement_30 : decode cX11_arrayElement 30 = .ok (.getfield 66, 3) := by decide +kernel
theorem dX11_arrayElement_33 : decode cX11_arrayElement 33 = .ok (.iload_n 1, 1) := by decide +kernel
theorem dX11_arrayElement_34 : decode cX11_arrayElement 34 = .ok (.aaload, 1) := by decide +kernel
theorem dX11_arrayElement_35 : decode cX11_arrayElement 35 = .ok (.getfield 315, 3) := by decide +kernel
theorem dX11_arrayElement_38 : decode cX11_arrayElement 38 = .ok (.getfield 215, 3) := by decide +kernel
theorem dX11_arrayElement_41 : decode cX11_arrayElement 41 = .ok (.iload_n 2, 1) := by decide +kernel
theorem dX11_arrayElement_42 : decode cX11_arrayElement 42 = .ok (.iaload, 1) := by decide +kernel
theorem dX11_arrayElement_43 : decode cX11_arrayElement 43 = .ok (.i2l, 1) := by decide +kernel
theorem dX11_arrayElement_44 : decode cX11_arrayElement 44 = .ok (.lreturn, 1) := by decide +kernel
theorem dX11_firstMismatch_0 : decode cX11_firstMismatch 0 = .ok (.iload_n 2, 1) := by decide +kernel
theorem dX11_firstMismatch_1 : decode cX11_firstMismatch 1 = .ok (.invokestatic 188, 3) := by decide +kernel
theorem dX11_firstMismatch_4 : decode cX11_firstMismatch 4 = .ok (.ifCond .ne 5, 3) := by decide +kernel
theorem dX11_firstMismatch_7 : decode cX11_firstMismatch 7 = .ok (.iconst (-1), 1) := by decide +kernel
theorem dX11_firstMismatch_8 : decode cX11_firstMismatch 8 = .ok (.ireturn, 1) := by decide +kernel
theorem dX11_firstMismatch_9 : decode cX11_firstMismatch 9 = .ok (.aload_n 0, 1) := by decide +kernel
theorem dX11_firstMismatch_10 : decode cX11_firstMismatch 10 = .ok (.iload_n 1, 1) := by decide +kernel
theorem dX11_firstMismatch_11 : decode cX11_firstMismatch 11 = .ok (.iconst 2, 1) := by decide +kernel
theorem dX11_firstMismatch_12 : decode cX11_firstMismatch 12 = .ok (.invokevirtual 316, 3) := by decide +kernel
theorem dX11_firstMismatch_15 : decode cX11_firstMismatch 15 = .ok (.istore_n 3, 1) := by decide +kernel
theorem dX11_firstMismatch_16 : decode cX11_firstMismatch 16 = .ok (.iload_n 3, 1) := by decide +kernel
theorem dX11_firstMismatch_17 : decode cX11_firstMismatch 17 = .ok (.ifCond .eq 7, 3) := by decide +kernel
theorem dX11_firstMismatch_20 : decode cX11_firstMismatch 20 = .ok (.iload_n 3, 1) := by decide +kernel
theorem dX11_firstMismatch_21 : decode cX11_firstMismatch 21 = .ok (.goto 23, 3) := by decide +kernel
theorem dX11_firstMismatch_24 : decode cX11_firstMismatch 24 = .ok (.aload_n 0, 1) := by decide +kernel
theorem dX11_firstMismatch_25 : decode cX11_firstMismatch 25 = .ok (.getfield 66, 3) := by decide +kernel
theorem dX11_firstMismatch_28 : decode cX11_firstMismatch 28 = .ok (.iload_n 1, 1) := by decide +kernel
theorem dX11_firstMismatch_29 : decode cX11_firstMismatch 29 = .ok (.aaload, 1) := by decide +kernel
theorem dX11_firstMismatch_30 : decode cX11_firstMismatch 30 = .ok (.getfield 315, 3) := by decide +kernel
theorem dX11_firstMismatch_33 : decode cX11_firstMismatch 33 = .ok (.aload_n 0, 1) := by decide +kernel
theorem dX11_firstMismatch_34 : decode cX11_firstMismatch 34 = .ok (.getfield 23, 3) := by decide +kernel
theorem dX11_firstMismatch_37 : decode cX11_firstMismatch 37 = .ok (.iload_n 2, 1) := by decide +kernel
theorem dX11_firstMismatch_38 : decode cX11_firstMismatch 38 = .ok (.invokevirtual 191, 3) := by decide +kernel
theorem dX11_firstMismatch_41 : decode cX11_firstMismatch 41 = .ok (.invokevirtual 197, 3) := by decide +kernel
theorem dX11_firstMismatch_44 : decode cX11_firstMismatch 44 = .ok (.ireturn, 1) := by decide +kernel
theorem dX11_usedSlotCount_0 : decode cX11_usedSlotCount 0 = .ok (.iconst 0, 1) := by decide +kernel
theorem dX11_usedSlotCount_1 : decode cX11_usedSlotCount 1 = .ok (.istore_n 1, 1) := by decide +kernel
theorem dX11_usedSlotCount_2 : decode cX11_usedSlotCount 2 = .ok (.iconst 0, 1) := by decide +kernel
theorem dX11_usedSlotCount_3 : decode cX11_usedSlotCount 3 = .ok (.istore_n 2, 1) := by decide +kernel
theorem dX11_usedSlotCount_4 : decode cX11_usedSlotCount 4 = .ok (.iload_n 2, 1) := by decide +kernel
theorem dX11_usedSlotCount_5 : decode cX11_usedSlotCount 5 = .ok (.iconst 4, 1) := by decide +kernel
theorem dX11_usedSlotCount_6 : decode cX11_usedSlotCount 6 = .ok (.if_icmp .ge 24, 3) := by decide +kernel
theorem dX11_usedSlotCount_9 : decode cX11_usedSlotCount 9 = .ok (.aload_n 0, 1) := by decide +kernel
theorem dX11_usedSlotCount_10 : decode cX11_usedSlotCount 10 = .ok (.getfield 66, 3) := by decide +kernel
theorem dX11_usedSlotCount_13 : decode cX11_usedSlotCount 13 = .ok (.iload_n 2, 1) := by decide +kernel
theorem dX11_usedSlotCount_14 : decode cX11_usedSlotCount 14 = .ok (.aaload, 1) := by decide +kernel
theorem dX11_usedSlotCount_15 : decode cX11_usedSlotCount 15 = .ok (.getfield 312, 3) := by decide +kernel
theorem dX11_usedSlotCount_18 : decode cX11_usedSlotCount 18 = .ok (.ifCond .eq 6, 3) := by decide +kernel
theorem dX11_usedSlotCount_21 : decode cX11_usedSlotCount 21 = .ok (.iinc 1 1, 3) := by decide +kernel
theorem dX11_usedSlotCount_24 : decode cX11_usedSlotCount 24 = .ok (.iinc 2 1, 3) := by decide +kernel
theorem dX11_usedSlotCount_27 : decode cX11_usedSlotCount 27 = .ok (.goto (-23), 3) := by decide +kernel
theorem dX11_usedSlotCount_30 : decode cX11_usedSlotCount 30 = .ok (.iload_n 1, 1) := by decide +kernel
theorem dX11_usedSlotCount_31 : decode cX11_usedSlotCount 31 = .ok (.ireturn, 1) := by decide +kernel
theorem dX11_slotError_0 : decode cX11_slotError 0 = .ok (.iload_n 1, 1) := by decide +kernel
theorem dX11_slotError_1 : decode cX11_slotError 1 = .ok (.invokestatic 309, 3) := by decide +kernel
theorem dX11_slotError_4 : decode cX11_slotError 4 = .ok (.ifCond .ne 5, 3) := by decide +kernel
theorem dX11_slotError_7 : decode cX11_slotError 7 = .ok (.iconst (-1), 1) := by decide +kernel
theorem dX11_slotError_8 : decode cX11_slotError 8 = .ok (.ireturn, 1) := by decide +kernel
theorem dX11_slotError_9 : decode cX11_slotError 9 = .ok (.aload_n 0, 1) := by decide +kernel
theorem dX11_slotError_10 : decode cX11_slotError 10 = .ok (.getfield 66, 3) := by decide +kernel
theorem dX11_slotError_13 : decode cX11_slotError 13 = .ok (.iload_n 1, 1) := by decide +kernel
theorem dX11_slotError_14 : decode cX11_slotError 14 = .ok (.aaload, 1) := by decide +kernel
theorem dX11_slotError_15 : decode cX11_slotError 15 = .ok (.getfield 312, 3) := by decide +kernel
theorem dX11_slotError_18 : decode cX11_slotError 18 = .ok (.ifCond .ne 6, 3) := by decide +kernel
theorem dX11_slotError_21 : decode cX11_slotError 21 = .ok (.bipush (-11), 2) := by decide +kernel
theorem dX11_slotError_23 : decode cX11_slotError 23 = .ok (.ireturn, 1) := by decide +kernel
theorem dX11_slotError_24 : decode cX11_slotError 24 = .ok (.aload_n 0, 1) := by decide +kernel
theorem dX11_slotError_25 : decode cX11_slotError 25 = .ok (.getfield 66, 3) := by decide +kernel
theorem dX11_slotError_28 : decode cX11_slotError 28 = .ok (.iload_n 1, 1) := by decide +kernel
theorem dX11_slotError_29 : decode cX11_slotError 29 = .ok (.aaload, 1) := by decide +kernel
theorem dX11_slotError_30 : decode cX11_slotError 30 = .ok (.getfield 312, 3) := by decide +kernel
theorem dX11_slotError_33 : decode cX11_slotError 33 = .ok (.iload_n 2, 1) := by decide +kernel
theorem dX11_slotError_34 : decode cX11_slotError 34 = .ok (.if_icmp .ne 7, 3) := by decide +kernel
theorem dX11_slotError_37 : decode cX11_slotError 37 = .ok (.iconst 0, 1) := by decide +kernel
theorem dX11_slotError_38 : decode cX11_slotError 38 = .ok (.goto 5, 3) := by decide +kernel
theorem dX11_slotError_41 : decode cX11_slotError 41 = .ok (.bipush (-12), 2) := by decide +kernel
theorem dX11_slotError_43 : decode cX11_slotError 43 = .ok (.ireturn, 1) := by decide +kernel
theorem dX11_takeSnapshot_0 : decode cX11_takeSnapshot 0 = .ok (.aload_n 0, 1) := by decide +kernel
theorem dX11_takeSnapshot_1 : decode cX11_takeSnapshot 1 = .ok (.getfield 74, 3) := by decide +kernel
theorem dX11_takeSnapshot_4 : decode cX11_takeSnapshot 4 = .ok (.iconst 1, 1) := by decide +kernel
theorem dX11_takeSnapshot_5 : decode cX11_takeSnapshot 5 = .ok (.putfield 322, 3) := by decide +kernel
theorem dX11_takeSnapshot_8 : decode cX11_takeSnapshot 8 = .ok (.aload_n 0, 1) := by decide +kernel
theorem dX11_takeSnapshot_9 : decode cX11_takeSnapshot 9 = .ok (.getfield 74, 3) := by decide +kernel
theorem dX11_takeSnapshot_12 : decode cX11_takeSnapshot 12 = .ok (.aload_n 0, 1) := by decide +kernel
theorem dX11_takeSnapshot_13 : decode cX11_takeSnapshot 13 = .ok (.getfield 14, 3) := by decide +kernel
theorem dX11_takeSnapshot_16 : decode cX11_takeSnapshot 16 = .ok (.getfield 78, 3) := by decide +kernel
theorem dX11_takeSnapshot_19 : decode cX11_takeSnapshot 19 = .ok (.putfield 326, 3) := by decide +kernel
theorem dX11_takeSnapshot_22 : decode cX11_takeSnapshot 22 = .ok (.aload_n 0, 1) := by decide +kernel
theorem dX11_takeSnapshot_23 : decode cX11_takeSnapshot 23 = .ok (.getfield 74, 3) := by decide +kernel
theorem dX11_takeSnapshot_26 : decode cX11_takeSnapshot 26 = .ok (.aload_n 0, 1) := by decide +kernel
theorem dX11_takeSnapshot_27 : decode cX11_takeSnapshot 27 = .ok (.getfield 14, 3) := by decide +kernel
theorem dX11_takeSnapshot_30 : decode cX11_takeSnapshot 30 = .ok (.getfield 93, 3) := by decide +kernel
theorem dX11_takeSnapshot_33 : decode cX11_takeSnapshot 33 = .ok (.putfield 327, 3) := by decide +kernel
theorem dX11_takeSnapshot_36 : decode cX11_takeSnapshot 36 = .ok (.aload_n 0, 1) := by decide +kernel
theorem dX11_takeSnapshot_37 : decode cX11_takeSnapshot 37 = .ok (.getfield 74, 3) := by decide +kernel
theorem dX11_takeSnapshot_40 : decode cX11_takeSnapshot 40 = .ok (.aload_n 0, 1) := by decide +kernel
theorem dX11_takeSnapshot_41 : decode cX11_takeSnapshot 41 = .ok (.getfield 46, 3) := by decide +kernel
theorem dX11_takeSnapshot_44 : decode cX11_takeSnapshot 44 = .ok (.getfield 248, 3) := by decide +kernel
theorem dX11_takeSnapshot_47 : decode cX11_takeSnapshot 47 = .ok (.putfield 328, 3) := by decide +kernel
theorem dX11_takeSnapshot_50 : decode cX11_takeSnapshot 50 = .ok (.aload_n 0, 1) := by decide +kernel
theorem dX11_takeSnapshot_51 : decode cX11_takeSnapshot 51 = .ok (.getfield 74, 3) := by decide +kernel
theorem dX11_takeSnapshot_54 : decode cX11_takeSnapshot 54 = .ok (.getfield 331, 3) := by decide +kernel
theorem dX11_takeSnapshot_57 : decode cX11_takeSnapshot 57 = .ok (.aload_n 0, 1) := by decide +kernel
theorem dX11_takeSnapshot_58 : decode cX11_takeSnapshot 58 = .ok (.getfield 53, 3) := by decide +kernel
theorem dX11_takeSnapshot_61 : decode cX11_takeSnapshot 61 = .ok (.getfield 253, 3) := by decide +kernel
theorem dX11_takeSnapshot_64 : decode cX11_takeSnapshot 64 = .ok (.invokevirtual 293, 3) := by decide +kernel
theorem dX11_takeSnapshot_67 : decode cX11_takeSnapshot 67 = .ok (.aload_n 0, 1) := by decide +kernel
theorem dX11_takeSnapshot_68 : decode cX11_takeSnapshot 68 = .ok (.getfield 14, 3) := by decide +kernel
theorem dX11_takeSnapshot_71 : decode cX11_takeSnapshot 71 = .ok (.getfield 78, 3) := by decide +kernel
theorem dX11_takeSnapshot_74 : decode cX11_takeSnapshot 74 = .ok (.ireturn, 1) := by decide +kernel
theorem dX11_restoreSnapshot_0 : decode cX11_restoreSnapshot 0 = .ok (.aload_n 0, 1) := by decide +kernel
theorem dX11_restoreSnapshot_1 : decode cX11_restoreSnapshot 1 = .ok (.getfield 74, 3) := by decide +kernel
theorem dX11_restoreSnapshot_4 : decode cX11_restoreSnapshot 4 = .ok (.getfield 322, 3) := by decide +kernel
theorem dX11_restoreSnapshot_7 : decode cX11_restoreSnapshot 7 = .ok (.ifCond .ne 6, 3) := by decide +kernel
theorem dX11_restoreSnapshot_10 : decode cX11_restoreSnapshot 10 = .ok (.bipush (-5), 2) := by decide +kernel
theorem dX11_restoreSnapshot_12 : decode cX11_restoreSnapshot 12 = .ok (.ireturn, 1) := by decide +kernel
theorem dX11_restoreSnapshot_13 : decode cX11_restoreSnapshot 13 = .ok (.aload_n 0, 1) := by decide +kernel
theorem dX11_restoreSnapshot_14 : decode cX11_restoreSnapshot 14 = .ok (.aload_n 0, 1) := by decide +kernel
theorem dX11_restoreSnapshot_15 : decode cX11_restoreSnapshot 15 = .ok (.getfield 74, 3) := by decide +kernel
theorem dX11_restoreSnapshot_18 : decode cX11_restoreSnapshot 18 = .ok (.getfield 326, 3) := by decide +kernel
theorem dX11_restoreSnapshot_21 : decode cX11_restoreSnapshot 21 = .ok (.aload_n 0, 1) := by decide +kernel
theorem dX11_restoreSnapshot_22 : decode cX11_restoreSnapshot 22 = .ok (.getfield 74, 3) := by decide +kernel
theorem dX11_restoreSnapshot_25 : decode cX11_restoreSnapshot 25 = .ok (.getfield 327, 3) := by decide +kernel
theorem dX11_restoreSnapshot_28 : decode cX11_restoreSnapshot 28 = .ok (.invokevirtual 82, 3) := by decide +kernel
theorem dX11_restoreSnapshot_31 : decode cX11_restoreSnapshot 31 = .ok (.aload_n 0, 1) := by decide +kernel
theorem dX11_restoreSnapshot_32 : decode cX11_restoreSnapshot 32 = .ok (.getfield 46, 3) := by decide +kernel
theorem dX11_restoreSnapshot_35 : decode cX11_restoreSnapshot 35 = .ok (.aload_n 0, 1) := by decide +kernel
theorem dX11_restoreSnapshot_36 : decode cX11_restoreSnapshot 36 = .ok (.getfield 74, 3) := by decide +kernel
theorem dX11_restoreSnapshot_39 : decode cX11_restoreSnapshot 39 = .ok (.getfield 328, 3) := by decide +kernel
theorem dX11_restoreSnapshot_42 : decode cX11_restoreSnapshot 42 = .ok (.putfield 248, 3) := by decide +kernel
theorem dX11_restoreSnapshot_45 : decode cX11_restoreSnapshot 45 = .ok (.aload_n 0, 1) := by decide +kernel
theorem dX11_restoreSnapshot_46 : decode cX11_restoreSnapshot 46 = .ok (.getfield 53, 3) := by decide +kernel
theorem dX11_restoreSnapshot_49 : decode cX11_restoreSnapshot 49 = .ok (.getfield 253, 3) := by decide +kernel
theorem dX11_restoreSnapshot_52 : decode cX11_restoreSnapshot 52 = .ok (.aload_n 0, 1) := by decide +kernel
theorem dX11_restoreSnapshot_53 : decode cX11_restoreSnapshot 53 = .ok (.getfield 74, 3) := by decide +kernel
theorem dX11_restoreSnapshot_56 : decode cX11_restoreSnapshot 56 = .ok (.getfield 331, 3) := by decide +kernel
theorem dX11_restoreSnapshot_59 : decode cX11_restoreSnapshot 59 = .ok (.invokevirtual 293, 3) := by decide +kernel
theorem dX11_restoreSnapshot_62 : decode cX11_restoreSnapshot 62 = .ok (.aload_n 0, 1) := by decide +kernel
theorem dX11_restoreSnapshot_63 : decode cX11_restoreSnapshot 63 = .ok (.getfield 39, 3) := by decide +kernel
theorem dX11_restoreSnapshot_66 : decode cX11_restoreSnapshot 66 = .ok (.iconst 0, 1) := by decide +kernel
theorem dX11_restoreSnapshot_67 : decode cX11_restoreSnapshot 67 = .ok (.putfield 86, 3) := by decide +kernel
theorem dX11_restoreSnapshot_70 : decode cX11_restoreSnapshot 70 = .ok (.aload_n 0, 1) := by decide +kernel
theorem dX11_restoreSnapshot_71 : decode cX11_restoreSnapshot 71 = .ok (.getfield 14, 3) := by decide +kernel
theorem dX11_restoreSnapshot_74 : decode cX11_restoreSnapshot 74 = .ok (.getfield 78, 3) := by decide +kernel
theorem dX11_restoreSnapshot_77 : decode cX11_restoreSnapshot 77 = .ok (.ireturn, 1) := by decide +kernel
theorem dX11_isVertex_0 : decode cX11_isVertex 0 = .ok (.iload_n 1, 1) := by decide +kernel
theorem dX11_isVertex_1 : decode cX11_isVertex 1 = .ok (.ifCond .lt 18, 3) := by decide +kernel
theorem dX11_isVertex_4 : decode cX11_isVertex 4 = .ok (.iload_n 1, 1) := by decide +kernel
theorem dX11_isVertex_5 : decode cX11_isVertex 5 = .ok (.aload_n 0, 1) := by decide +kernel
theorem dX11_isVertex_6 : decode cX11_isVertex 6 = .ok (.getfield 14, 3) := by decide +kernel
theorem dX11_isVertex_9 : decode cX11_isVertex 9 = .ok (.getfield 78, 3) := by decide +kernel
theorem dX11_isVertex_12 : decode cX11_isVertex 12 = .ok (.if_icmp .ge 7, 3) := by decide +kernel
theorem dX11_isVertex_15 : decode cX11_isVertex 15 = .ok (.iconst 1, 1) := by decide +kernel
theorem dX11_isVertex_16 : decode cX11_isVertex 16 = .ok (.goto 4, 3) := by decide +kernel
theorem dX11_isVertex_19 : decode cX11_isVertex 19 = .ok (.iconst 0, 1) := by decide +kernel
theorem dX11_isVertex_20 : decode cX11_isVertex 20 = .ok (.ireturn, 1) := by decide +kernel
theorem dX11_isCode_0 : decode cX11_isCode 0 = .ok (.iload_n 1, 1) := by decide +kernel
theorem dX11_isCode_1 : decode cX11_isCode 1 = .ok (.ifCond .lt 18, 3) := by decide +kernel
theorem dX11_isCode_4 : decode cX11_isCode 4 = .ok (.iload_n 1, 1) := by decide +kernel
theorem dX11_isCode_5 : decode cX11_isCode 5 = .ok (.aload_n 0, 1) := by decide +kernel
theorem dX11_isCode_6 : decode cX11_isCode 6 = .ok (.getfield 14, 3) := by decide +kernel
theorem dX11_isCode_9 : decode cX11_isCode 9 = .ok (.invokevirtual 137, 3) := by decide +kernel
theorem dX11_isCode_12 : decode cX11_isCode 12 = .ok (.if_icmp .gt 7, 3) := by decide +kernel
theorem dX11_isCode_15 : decode cX11_isCode 15 = .ok (.iconst 1, 1) := by decide +kernel
theorem dX11_isCode_16 : decode cX11_isCode 16 = .ok (.goto 4, 3) := by decide +kernel
theorem dX11_isCode_19 : decode cX11_isCode 19 = .ok (.iconst 0, 1) := by decide +kernel
theorem dX11_isCode_20 : decode cX11_isCode 20 = .ok (.ireturn, 1) := by decide +kernel
theorem dX11_isTest_0 : decode cX11_isTest 0 = .ok (.iload_n 1, 1) := by decide +kernel
theorem dX11_isTest_1 : decode cX11_isTest 1 = .ok (.ifCond .lt 18, 3) := by decide +kernel
theorem dX11_isTest_4 : decode cX11_isTest 4 = .ok (.iload_n 1, 1) := by decide +kernel
theorem dX11_isTest_5 : decode cX11_isTest 5 = .ok (.aload_n 0, 1) := by decide +kernel
theorem dX11_isTest_6 : decode cX11_isTest 6 = .ok (.getfield 46, 3) := by decide +kernel
theorem dX11_isTest_9 : decode cX11_isTest 9 = .ok (.getfield 248, 3) := by decide +kernel
theorem dX11_isTest_12 : decode cX11_isTest 12 = .ok (.if_icmp .ge 7, 3) := by decide +kernel
theorem dX11_isTest_15 : decode cX11_isTest 15 = .ok (.iconst 1, 1) := by decide +kernel
theorem dX11_isTest_16 : decode cX11_isTest 16 = .ok (.goto 4, 3) := by decide +kernel
theorem dX11_isTest_19 : decode cX11_isTest 19 = .ok (.iconst 0, 1) := by decide +kernel
theorem dX11_isTest_20 : decode cX11_isTest 20 = .ok (.ireturn, 1) := by decide +kernel
theorem dX11_isVariable_0 : decode cX11_isVariable 0 = .ok (.iload_n 0, 1) := by decide +kernel
theorem dX11_isVariable_1 : decode cX11_isVariable 1 = .ok (.ifCond .lt 13, 3) := by decide +kernel
theorem dX11_isVariable_4 : decode cX11_isVariable 4 = .ok (.iload_n 0, 1) := by decide +kernel
theorem dX11_isVariable_5 : decode cX11_isVariable 5 = .ok (.bipush 7, 2) := by decide +kernel
theorem dX11_isVariable_7 : decode cX11_isVariable 7 = .ok (.if_icmp .ge 7, 3) := by decide +kernel
theorem dX11_isVariable_10 : decode cX11_isVariable 10 = .ok (.iconst 1, 1) := by decide +kernel
theorem dX11_isVariable_11 : decode cX11_isVariable 11 = .ok (.goto 4, 3) := by decide +kernel
end
section
theorem dX11_isVariable_14 : decode cX11_isVariable 14 = .ok (.iconst 0, 1) := by decide +kernel
theorem dX11_isVariable_15 : decode cX11_isVariable 15 = .ok (.ireturn, 1) := by decide +kernel
theorem dX11_isPower_0 : decode cX11_isPower 0 = .ok (.iload_n 0, 1) := by decide +kernel
theorem dX11_isPower_1 : decode cX11_isPower 1 = .ok (.iconst 1, 1) := by decide +kernel
theorem dX11_isPower_2 : decode cX11_isPower 2 = .ok (.if_icmp .lt 12, 3) := by decide +kernel
theorem dX11_isPower_5 : decode cX11_isPower 5 = .ok (.iload_n 0, 1) := by decide +kernel
theorem dX11_isPower_6 : decode cX11_isPower 6 = .ok (.iconst 3, 1) := by decide +kernel
theorem dX11_isPower_7 : decode cX11_isPower 7 = .ok (.if_icmp .gt 7, 3) := by decide +kernel
theorem dX11_isPower_10 : decode cX11_isPower 10 = .ok (.iconst 1, 1) := by decide +kernel
theorem dX11_isPower_11 : decode cX11_isPower 11 = .ok (.goto 4, 3) := by decide +kernel
theorem dX11_isPower_14 : decode cX11_isPower 14 = .ok (.iconst 0, 1) := by decide +kernel
theorem dX11_isPower_15 : decode cX11_isPower 15 = .ok (.ireturn, 1) := by decide +kernel
theorem dX11_isDegree_0 : decode cX11_isDegree 0 = .ok (.iload_n 0, 1) := by decide +kernel
theorem dX11_isDegree_1 : decode cX11_isDegree 1 = .ok (.ifCond .lt 13, 3) := by decide +kernel
theorem dX11_isDegree_4 : decode cX11_isDegree 4 = .ok (.iload_n 0, 1) := by decide +kernel
theorem dX11_isDegree_5 : decode cX11_isDegree 5 = .ok (.bipush 21, 2) := by decide +kernel
theorem dX11_isDegree_7 : decode cX11_isDegree 7 = .ok (.if_icmp .gt 7, 3) := by decide +kernel
theorem dX11_isDegree_10 : decode cX11_isDegree 10 = .ok (.iconst 1, 1) := by decide +kernel
theorem dX11_isDegree_11 : decode cX11_isDegree 11 = .ok (.goto 4, 3) := by decide +kernel
theorem dX11_isDegree_14 : decode cX11_isDegree 14 = .ok (.iconst 0, 1) := by decide +kernel
theorem dX11_isDegree_15 : decode cX11_isDegree 15 = .ok (.ireturn, 1) := by decide +kernel
theorem dX11_isFlag_0 : decode cX11_isFlag 0 = .ok (.iload_n 0, 1) := by decide +kernel
theorem dX11_isFlag_1 : decode cX11_isFlag 1 = .ok (.ifCond .eq 8, 3) := by decide +kernel
theorem dX11_isFlag_4 : decode cX11_isFlag 4 = .ok (.iload_n 0, 1) := by decide +kernel
theorem dX11_isFlag_5 : decode cX11_isFlag 5 = .ok (.iconst 1, 1) := by decide +kernel
theorem dX11_isFlag_6 : decode cX11_isFlag 6 = .ok (.if_icmp .ne 7, 3) := by decide +kernel
theorem dX11_isFlag_9 : decode cX11_isFlag 9 = .ok (.iconst 1, 1) := by decide +kernel
theorem dX11_isFlag_10 : decode cX11_isFlag 10 = .ok (.goto 4, 3) := by decide +kernel
theorem dX11_isFlag_13 : decode cX11_isFlag 13 = .ok (.iconst 0, 1) := by decide +kernel
theorem dX11_isFlag_14 : decode cX11_isFlag 14 = .ok (.ireturn, 1) := by decide +kernel
theorem dX11_isSlot_0 : decode cX11_isSlot 0 = .ok (.iload_n 0, 1) := by decide +kernel
theorem dX11_isSlot_1 : decode cX11_isSlot 1 = .ok (.ifCond .lt 12, 3) := by decide +kernel
theorem dX11_isSlot_4 : decode cX11_isSlot 4 = .ok (.iload_n 0, 1) := by decide +kernel
theorem dX11_isSlot_5 : decode cX11_isSlot 5 = .ok (.iconst 4, 1) := by decide +kernel
theorem dX11_isSlot_6 : decode cX11_isSlot 6 = .ok (.if_icmp .ge 7, 3) := by decide +kernel
theorem dX11_isSlot_9 : decode cX11_isSlot 9 = .ok (.iconst 1, 1) := by decide +kernel
theorem dX11_isSlot_10 : decode cX11_isSlot 10 = .ok (.goto 4, 3) := by decide +kernel
theorem dX11_isSlot_13 : decode cX11_isSlot 13 = .ok (.iconst 0, 1) := by decide +kernel
theorem dX11_isSlot_14 : decode cX11_isSlot 14 = .ok (.ireturn, 1) := by decide +kernel
theorem dX11_itemOrError_0 : decode cX11_itemOrError 0 = .ok (.iload_n 1, 1) := by decide +kernel
theorem dX11_itemOrError_1 : decode cX11_itemOrError 1 = .ok (.ifCond .ge 5, 3) := by decide +kernel
theorem dX11_itemOrError_4 : decode cX11_itemOrError 4 = .ok (.iconst (-1), 1) := by decide +kernel
theorem dX11_itemOrError_5 : decode cX11_itemOrError 5 = .ok (.ireturn, 1) := by decide +kernel
theorem dX11_itemOrError_6 : decode cX11_itemOrError 6 = .ok (.iload_n 1, 1) := by decide +kernel
theorem dX11_itemOrError_7 : decode cX11_itemOrError 7 = .ok (.aload_n 0, 1) := by decide +kernel
theorem dX11_itemOrError_8 : decode cX11_itemOrError 8 = .ok (.getfield 148, 3) := by decide +kernel
theorem dX11_itemOrError_11 : decode cX11_itemOrError 11 = .ok (.if_icmp .ge 12, 3) := by decide +kernel
theorem dX11_itemOrError_14 : decode cX11_itemOrError 14 = .ok (.aload_n 0, 1) := by decide +kernel
theorem dX11_itemOrError_15 : decode cX11_itemOrError 15 = .ok (.getfield 215, 3) := by decide +kernel
theorem dX11_itemOrError_18 : decode cX11_itemOrError 18 = .ok (.iload_n 1, 1) := by decide +kernel
theorem dX11_itemOrError_19 : decode cX11_itemOrError 19 = .ok (.iaload, 1) := by decide +kernel
theorem dX11_itemOrError_20 : decode cX11_itemOrError 20 = .ok (.goto 5, 3) := by decide +kernel
theorem dX11_itemOrError_23 : decode cX11_itemOrError 23 = .ok (.bipush (-2), 2) := by decide +kernel
theorem dX11_itemOrError_25 : decode cX11_itemOrError 25 = .ok (.ireturn, 1) := by decide +kernel
theorem dX12_init_0 : decode cX12_init 0 = .ok (.aload_n 0, 1) := by decide +kernel
theorem dX12_init_1 : decode cX12_init 1 = .ok (.invokespecial 3, 3) := by decide +kernel
theorem dX12_init_4 : decode cX12_init 4 = .ok (.aload_n 0, 1) := by decide +kernel
theorem dX12_init_5 : decode cX12_init 5 = .ok (.iconst 4, 1) := by decide +kernel
theorem dX12_init_6 : decode cX12_init 6 = .ok (.putfield 9, 3) := by decide +kernel
theorem dX12_init_9 : decode cX12_init 9 = .ok (.aload_n 0, 1) := by decide +kernel
theorem dX12_init_10 : decode cX12_init 10 = .ok (.bipush 7, 2) := by decide +kernel
theorem dX12_init_12 : decode cX12_init 12 = .ok (.newarray .int, 2) := by decide +kernel
theorem dX12_init_14 : decode cX12_init 14 = .ok (.putfield 15, 3) := by decide +kernel
theorem dX12_init_17 : decode cX12_init 17 = .ok (.aload_n 0, 1) := by decide +kernel
theorem dX12_init_18 : decode cX12_init 18 = .ok (.bipush 84, 2) := by decide +kernel
theorem dX12_init_20 : decode cX12_init 20 = .ok (.newarray .int, 2) := by decide +kernel
theorem dX12_init_22 : decode cX12_init 22 = .ok (.putfield 19, 3) := by decide +kernel
theorem dX12_init_25 : decode cX12_init 25 = .ok (.aload_n 0, 1) := by decide +kernel
theorem dX12_init_26 : decode cX12_init 26 = .ok (.bipush 7, 2) := by decide +kernel
theorem dX12_init_28 : decode cX12_init 28 = .ok (.newarray .int, 2) := by decide +kernel
theorem dX12_init_30 : decode cX12_init 30 = .ok (.putfield 22, 3) := by decide +kernel
theorem dX12_init_33 : decode cX12_init 33 = .ok (.aload_n 0, 1) := by decide +kernel
theorem dX12_init_34 : decode cX12_init 34 = .ok (.iconst 1, 1) := by decide +kernel
theorem dX12_init_35 : decode cX12_init 35 = .ok (.putfield 25, 3) := by decide +kernel
theorem dX12_init_38 : decode cX12_init 38 = .ok (.aload_n 0, 1) := by decide +kernel
theorem dX12_init_39 : decode cX12_init 39 = .ok (.sipush 128, 3) := by decide +kernel
theorem dX12_init_42 : decode cX12_init 42 = .ok (.newarray .int, 2) := by decide +kernel
theorem dX12_init_44 : decode cX12_init 44 = .ok (.putfield 29, 3) := by decide +kernel
theorem dX12_init_47 : decode cX12_init 47 = .ok (.aload_n 0, 1) := by decide +kernel
theorem dX12_init_48 : decode cX12_init 48 = .ok (.sipush 16384, 3) := by decide +kernel
theorem dX12_init_51 : decode cX12_init 51 = .ok (.newarray .int, 2) := by decide +kernel
theorem dX12_init_53 : decode cX12_init 53 = .ok (.putfield 32, 3) := by decide +kernel
theorem dX12_init_56 : decode cX12_init 56 = .ok (.aload_n 0, 1) := by decide +kernel
theorem dX12_init_57 : decode cX12_init 57 = .ok (.sipush 16384, 3) := by decide +kernel
theorem dX12_init_60 : decode cX12_init 60 = .ok (.newarray .int, 2) := by decide +kernel
theorem dX12_init_62 : decode cX12_init 62 = .ok (.putfield 35, 3) := by decide +kernel
theorem dX12_init_65 : decode cX12_init 65 = .ok (.aload_n 0, 1) := by decide +kernel
theorem dX12_init_66 : decode cX12_init 66 = .ok (.bipush 7, 2) := by decide +kernel
theorem dX12_init_68 : decode cX12_init 68 = .ok (.newarray .int, 2) := by decide +kernel
theorem dX12_init_70 : decode cX12_init 70 = .ok (.putfield 38, 3) := by decide +kernel
theorem dX12_init_73 : decode cX12_init 73 = .ok (.aload_n 0, 1) := by decide +kernel
theorem dX12_init_74 : decode cX12_init 74 = .ok (.sipush 16384, 3) := by decide +kernel
theorem dX12_init_77 : decode cX12_init 77 = .ok (.newarray .int, 2) := by decide +kernel
theorem dX12_init_79 : decode cX12_init 79 = .ok (.putfield 41, 3) := by decide +kernel
theorem dX12_init_82 : decode cX12_init 82 = .ok (.aload_n 0, 1) := by decide +kernel
theorem dX12_init_83 : decode cX12_init 83 = .ok (.bipush 7, 2) := by decide +kernel
theorem dX12_init_85 : decode cX12_init 85 = .ok (.newarray .int, 2) := by decide +kernel
theorem dX12_init_87 : decode cX12_init 87 = .ok (.putfield 44, 3) := by decide +kernel
theorem dX12_init_90 : decode cX12_init 90 = .ok (.aload_n 0, 1) := by decide +kernel
theorem dX12_init_91 : decode cX12_init 91 = .ok (.bipush 24, 2) := by decide +kernel
theorem dX12_init_93 : decode cX12_init 93 = .ok (.newarray .int, 2) := by decide +kernel
theorem dX12_init_95 : decode cX12_init 95 = .ok (.putfield 47, 3) := by decide +kernel
theorem dX12_init_98 : decode cX12_init 98 = .ok (.aload_n 0, 1) := by decide +kernel
theorem dX12_init_99 : decode cX12_init 99 = .ok (.bipush 24, 2) := by decide +kernel
theorem dX12_init_101 : decode cX12_init 101 = .ok (.newarray .int, 2) := by decide +kernel
theorem dX12_init_103 : decode cX12_init 103 = .ok (.putfield 50, 3) := by decide +kernel
theorem dX12_init_106 : decode cX12_init 106 = .ok (.aload_n 0, 1) := by decide +kernel
theorem dX12_init_107 : decode cX12_init 107 = .ok (.bipush 24, 2) := by decide +kernel
theorem dX12_init_109 : decode cX12_init 109 = .ok (.newarray .int, 2) := by decide +kernel
theorem dX12_init_111 : decode cX12_init 111 = .ok (.putfield 53, 3) := by decide +kernel
theorem dX12_init_114 : decode cX12_init 114 = .ok (.aload_n 0, 1) := by decide +kernel
theorem dX12_init_115 : decode cX12_init 115 = .ok (.bipush 60, 2) := by decide +kernel
theorem dX12_init_117 : decode cX12_init 117 = .ok (.newarray .int, 2) := by decide +kernel
theorem dX12_init_119 : decode cX12_init 119 = .ok (.putfield 56, 3) := by decide +kernel
theorem dX12_init_122 : decode cX12_init 122 = .ok (.aload_n 0, 1) := by decide +kernel
theorem dX12_init_123 : decode cX12_init 123 = .ok (.bipush 24, 2) := by decide +kernel
theorem dX12_init_125 : decode cX12_init 125 = .ok (.newarray .int, 2) := by decide +kernel
theorem dX12_init_127 : decode cX12_init 127 = .ok (.putfield 59, 3) := by decide +kernel
theorem dX12_init_130 : decode cX12_init 130 = .ok (.aload_n 0, 1) := by decide +kernel
theorem dX12_init_131 : decode cX12_init 131 = .ok (.sipush 400, 3) := by decide +kernel
theorem dX12_init_134 : decode cX12_init 134 = .ok (.newarray .int, 2) := by decide +kernel
theorem dX12_init_136 : decode cX12_init 136 = .ok (.putfield 62, 3) := by decide +kernel
theorem dX12_init_139 : decode cX12_init 139 = .ok (.aload_n 0, 1) := by decide +kernel
theorem dX12_init_140 : decode cX12_init 140 = .ok (.iconst 4, 1) := by decide +kernel
theorem dX12_init_141 : decode cX12_init 141 = .ok (.newarray .int, 2) := by decide +kernel
theorem dX12_init_143 : decode cX12_init 143 = .ok (.putfield 65, 3) := by decide +kernel
theorem dX12_init_146 : decode cX12_init 146 = .ok (.aload_n 0, 1) := by decide +kernel
theorem dX12_init_147 : decode cX12_init 147 = .ok (.iconst 4, 1) := by decide +kernel
theorem dX12_init_148 : decode cX12_init 148 = .ok (.newarray .int, 2) := by decide +kernel
theorem dX12_init_150 : decode cX12_init 150 = .ok (.putfield 68, 3) := by decide +kernel
theorem dX12_init_153 : decode cX12_init 153 = .ok (.aload_n 0, 1) := by decide +kernel
theorem dX12_init_154 : decode cX12_init 154 = .ok (.iconst 4, 1) := by decide +kernel
theorem dX12_init_155 : decode cX12_init 155 = .ok (.bipush 30, 2) := by decide +kernel
theorem dX12_init_157 : decode cX12_init 157 = .ok (.multianewarray 71 2, 4) := by decide +kernel
theorem dX12_init_161 : decode cX12_init 161 = .ok (.putfield 73, 3) := by decide +kernel
theorem dX12_init_164 : decode cX12_init 164 = .ok (.aload_n 0, 1) := by decide +kernel
theorem dX12_init_165 : decode cX12_init 165 = .ok (.bipush 58, 2) := by decide +kernel
theorem dX12_init_167 : decode cX12_init 167 = .ok (.newarray .int, 2) := by decide +kernel
theorem dX12_init_169 : decode cX12_init 169 = .ok (.putfield 76, 3) := by decide +kernel
theorem dX12_init_172 : decode cX12_init 172 = .ok (.return_, 1) := by decide +kernel
theorem dX12_isBetween_0 : decode cX12_isBetween 0 = .ok (.lload_n 0, 1) := by decide +kernel
theorem dX12_isBetween_1 : decode cX12_isBetween 1 = .ok (.lload_n 2, 1) := by decide +kernel
theorem dX12_isBetween_2 : decode cX12_isBetween 2 = .ok (.lcmp, 1) := by decide +kernel
theorem dX12_isBetween_3 : decode cX12_isBetween 3 = .ok (.ifCond .lt 14, 3) := by decide +kernel
theorem dX12_isBetween_6 : decode cX12_isBetween 6 = .ok (.lload_n 0, 1) := by decide +kernel
theorem dX12_isBetween_7 : decode cX12_isBetween 7 = .ok (.lload 4, 2) := by decide +kernel
theorem dX12_isBetween_9 : decode cX12_isBetween 9 = .ok (.lcmp, 1) := by decide +kernel
theorem dX12_isBetween_10 : decode cX12_isBetween 10 = .ok (.ifCond .gt 7, 3) := by decide +kernel
theorem dX12_isBetween_13 : decode cX12_isBetween 13 = .ok (.iconst 1, 1) := by decide +kernel
theorem dX12_isBetween_14 : decode cX12_isBetween 14 = .ok (.goto 4, 3) := by decide +kernel
theorem dX12_isBetween_17 : decode cX12_isBetween 17 = .ok (.iconst 0, 1) := by decide +kernel
theorem dX12_isBetween_18 : decode cX12_isBetween 18 = .ok (.ireturn, 1) := by decide +kernel
theorem dX12_isVertex_0 : decode cX12_isVertex 0 = .ok (.iload_n 1, 1) := by decide +kernel
theorem dX12_isVertex_1 : decode cX12_isVertex 1 = .ok (.i2l, 1) := by decide +kernel
theorem dX12_isVertex_2 : decode cX12_isVertex 2 = .ok (.lconst 0, 1) := by decide +kernel
theorem dX12_isVertex_3 : decode cX12_isVertex 3 = .ok (.aload_n 0, 1) := by decide +kernel
theorem dX12_isVertex_4 : decode cX12_isVertex 4 = .ok (.getfield 9, 3) := by decide +kernel
theorem dX12_isVertex_7 : decode cX12_isVertex 7 = .ok (.iconst 1, 1) := by decide +kernel
theorem dX12_isVertex_8 : decode cX12_isVertex 8 = .ok (.isub, 1) := by decide +kernel
theorem dX12_isVertex_9 : decode cX12_isVertex 9 = .ok (.i2l, 1) := by decide +kernel
theorem dX12_isVertex_10 : decode cX12_isVertex 10 = .ok (.invokestatic 79, 3) := by decide +kernel
theorem dX12_isVertex_13 : decode cX12_isVertex 13 = .ok (.ireturn, 1) := by decide +kernel
theorem dX12_allVertices_0 : decode cX12_allVertices 0 = .ok (.iconst 1, 1) := by decide +kernel
theorem dX12_allVertices_1 : decode cX12_allVertices 1 = .ok (.aload_n 0, 1) := by decide +kernel
theorem dX12_allVertices_2 : decode cX12_allVertices 2 = .ok (.getfield 9, 3) := by decide +kernel
theorem dX12_allVertices_5 : decode cX12_allVertices 5 = .ok (.ishl, 1) := by decide +kernel
theorem dX12_allVertices_6 : decode cX12_allVertices 6 = .ok (.iconst 1, 1) := by decide +kernel
theorem dX12_allVertices_7 : decode cX12_allVertices 7 = .ok (.isub, 1) := by decide +kernel
theorem dX12_allVertices_8 : decode cX12_allVertices 8 = .ok (.ireturn, 1) := by decide +kernel
theorem dX12_isEdge_0 : decode cX12_isEdge 0 = .ok (.aload_n 0, 1) := by decide +kernel
theorem dX12_isEdge_1 : decode cX12_isEdge 1 = .ok (.getfield 15, 3) := by decide +kernel
theorem dX12_isEdge_4 : decode cX12_isEdge 4 = .ok (.iload_n 1, 1) := by decide +kernel
theorem dX12_isEdge_5 : decode cX12_isEdge 5 = .ok (.iaload, 1) := by decide +kernel
theorem dX12_isEdge_6 : decode cX12_isEdge 6 = .ok (.iload_n 2, 1) := by decide +kernel
theorem dX12_isEdge_7 : decode cX12_isEdge 7 = .ok (.ishr, 1) := by decide +kernel
theorem dX12_isEdge_8 : decode cX12_isEdge 8 = .ok (.iconst 1, 1) := by decide +kernel
theorem dX12_isEdge_9 : decode cX12_isEdge 9 = .ok (.iand, 1) := by decide +kernel
theorem dX12_isEdge_10 : decode cX12_isEdge 10 = .ok (.iconst 1, 1) := by decide +kernel
theorem dX12_isEdge_11 : decode cX12_isEdge 11 = .ok (.if_icmp .ne 7, 3) := by decide +kernel
theorem dX12_isEdge_14 : decode cX12_isEdge 14 = .ok (.iconst 1, 1) := by decide +kernel
theorem dX12_isEdge_15 : decode cX12_isEdge 15 = .ok (.goto 4, 3) := by decide +kernel
theorem dX12_isEdge_18 : decode cX12_isEdge 18 = .ok (.iconst 0, 1) := by decide +kernel
theorem dX12_isEdge_19 : decode cX12_isEdge 19 = .ok (.ireturn, 1) := by decide +kernel
theorem dX12_bitCount_0 : decode cX12_bitCount 0 = .ok (.iconst 0, 1) := by decide +kernel
theorem dX12_bitCount_1 : decode cX12_bitCount 1 = .ok (.istore_n 1, 1) := by decide +kernel
theorem dX12_bitCount_2 : decode cX12_bitCount 2 = .ok (.iload_n 0, 1) := by decide +kernel
theorem dX12_bitCount_3 : decode cX12_bitCount 3 = .ok (.istore_n 2, 1) := by decide +kernel
theorem dX12_bitCount_4 : decode cX12_bitCount 4 = .ok (.iload_n 2, 1) := by decide +kernel
theorem dX12_bitCount_5 : decode cX12_bitCount 5 = .ok (.ifCond .eq 15, 3) := by decide +kernel
theorem dX12_bitCount_8 : decode cX12_bitCount 8 = .ok (.iinc 1 1, 3) := by decide +kernel
theorem dX12_bitCount_11 : decode cX12_bitCount 11 = .ok (.iload_n 2, 1) := by decide +kernel
theorem dX12_bitCount_12 : decode cX12_bitCount 12 = .ok (.iload_n 2, 1) := by decide +kernel
theorem dX12_bitCount_13 : decode cX12_bitCount 13 = .ok (.iconst 1, 1) := by decide +kernel
theorem dX12_bitCount_14 : decode cX12_bitCount 14 = .ok (.isub, 1) := by decide +kernel
theorem dX12_bitCount_15 : decode cX12_bitCount 15 = .ok (.iand, 1) := by decide +kernel
theorem dX12_bitCount_16 : decode cX12_bitCount 16 = .ok (.istore_n 2, 1) := by decide +kernel
theorem dX12_bitCount_17 : decode cX12_bitCount 17 = .ok (.goto (-13), 3) := by decide +kernel
theorem dX12_bitCount_20 : decode cX12_bitCount 20 = .ok (.iload_n 1, 1) := by decide +kernel
theorem dX12_bitCount_21 : decode cX12_bitCount 21 = .ok (.ireturn, 1) := by decide +kernel
theorem dX12_recordChange_0 : decode cX12_recordChange 0 = .ok (.aload_n 0, 1) := by decide +kernel
theorem dX12_recordChange_1 : decode cX12_recordChange 1 = .ok (.getfield 83, 3) := by decide +kernel
theorem dX12_recordChange_4 : decode cX12_recordChange 4 = .ok (.bipush 12, 2) := by decide +kernel
theorem dX12_recordChange_6 : decode cX12_recordChange 6 = .ok (.if_icmp .ne 43, 3) := by decide +kernel
theorem dX12_recordChange_9 : decode cX12_recordChange 9 = .ok (.bipush 7, 2) := by decide +kernel
theorem dX12_recordChange_11 : decode cX12_recordChange 11 = .ok (.istore_n 1, 1) := by decide +kernel
theorem dX12_recordChange_12 : decode cX12_recordChange 12 = .ok (.iload_n 1, 1) := by decide +kernel
theorem dX12_recordChange_13 : decode cX12_recordChange 13 = .ok (.bipush 84, 2) := by decide +kernel
theorem dX12_recordChange_15 : decode cX12_recordChange 15 = .ok (.if_icmp .ge 24, 3) := by decide +kernel
theorem dX12_recordChange_18 : decode cX12_recordChange 18 = .ok (.aload_n 0, 1) := by decide +kernel
theorem dX12_recordChange_19 : decode cX12_recordChange 19 = .ok (.getfield 19, 3) := by decide +kernel
theorem dX12_recordChange_22 : decode cX12_recordChange 22 = .ok (.iload_n 1, 1) := by decide +kernel
theorem dX12_recordChange_23 : decode cX12_recordChange 23 = .ok (.bipush 7, 2) := by decide +kernel
theorem dX12_recordChange_25 : decode cX12_recordChange 25 = .ok (.isub, 1) := by decide +kernel
theorem dX12_recordChange_26 : decode cX12_recordChange 26 = .ok (.aload_n 0, 1) := by decide +kernel
theorem dX12_recordChange_27 : decode cX12_recordChange 27 = .ok (.getfield 19, 3) := by decide +kernel
theorem dX12_recordChange_30 : decode cX12_recordChange 30 = .ok (.iload_n 1, 1) := by decide +kernel
theorem dX12_recordChange_31 : decode cX12_recordChange 31 = .ok (.iaload, 1) := by decide +kernel
theorem dX12_recordChange_32 : decode cX12_recordChange 32 = .ok (.iastore, 1) := by decide +kernel
theorem dX12_recordChange_33 : decode cX12_recordChange 33 = .ok (.iinc 1 1, 3) := by decide +kernel
theorem dX12_recordChange_36 : decode cX12_recordChange 36 = .ok (.goto (-24), 3) := by decide +kernel
theorem dX12_recordChange_39 : decode cX12_recordChange 39 = .ok (.aload_n 0, 1) := by decide +kernel
theorem dX12_recordChange_40 : decode cX12_recordChange 40 = .ok (.dup, 1) := by decide +kernel
theorem dX12_recordChange_41 : decode cX12_recordChange 41 = .ok (.getfield 83, 3) := by decide +kernel
theorem dX12_recordChange_44 : decode cX12_recordChange 44 = .ok (.iconst 1, 1) := by decide +kernel
theorem dX12_recordChange_45 : decode cX12_recordChange 45 = .ok (.isub, 1) := by decide +kernel
theorem dX12_recordChange_46 : decode cX12_recordChange 46 = .ok (.putfield 83, 3) := by decide +kernel
theorem dX12_recordChange_49 : decode cX12_recordChange 49 = .ok (.iconst 0, 1) := by decide +kernel
theorem dX12_recordChange_50 : decode cX12_recordChange 50 = .ok (.istore_n 1, 1) := by decide +kernel
theorem dX12_recordChange_51 : decode cX12_recordChange 51 = .ok (.iload_n 1, 1) := by decide +kernel
theorem dX12_recordChange_52 : decode cX12_recordChange 52 = .ok (.bipush 7, 2) := by decide +kernel
theorem dX12_recordChange_54 : decode cX12_recordChange 54 = .ok (.if_icmp .ge 29, 3) := by decide +kernel
theorem dX12_recordChange_57 : decode cX12_recordChange 57 = .ok (.aload_n 0, 1) := by decide +kernel
theorem dX12_recordChange_58 : decode cX12_recordChange 58 = .ok (.getfield 19, 3) := by decide +kernel
theorem dX12_recordChange_61 : decode cX12_recordChange 61 = .ok (.aload_n 0, 1) := by decide +kernel
theorem dX12_recordChange_62 : decode cX12_recordChange 62 = .ok (.getfield 83, 3) := by decide +kernel
theorem dX12_recordChange_65 : decode cX12_recordChange 65 = .ok (.bipush 7, 2) := by decide +kernel
theorem dX12_recordChange_67 : decode cX12_recordChange 67 = .ok (.imul, 1) := by decide +kernel
theorem dX12_recordChange_68 : decode cX12_recordChange 68 = .ok (.iload_n 1, 1) := by decide +kernel
theorem dX12_recordChange_69 : decode cX12_recordChange 69 = .ok (.iadd, 1) := by decide +kernel
theorem dX12_recordChange_70 : decode cX12_recordChange 70 = .ok (.aload_n 0, 1) := by decide +kernel
theorem dX12_recordChange_71 : decode cX12_recordChange 71 = .ok (.getfield 15, 3) := by decide +kernel
theorem dX12_recordChange_74 : decode cX12_recordChange 74 = .ok (.iload_n 1, 1) := by decide +kernel
theorem dX12_recordChange_75 : decode cX12_recordChange 75 = .ok (.iaload, 1) := by decide +kernel
theorem dX12_recordChange_76 : decode cX12_recordChange 76 = .ok (.iastore, 1) := by decide +kernel
theorem dX12_recordChange_77 : decode cX12_recordChange 77 = .ok (.iinc 1 1, 3) := by decide +kernel
theorem dX12_recordChange_80 : decode cX12_recordChange 80 = .ok (.goto (-29), 3) := by decide +kernel
theorem dX12_recordChange_83 : decode cX12_recordChange 83 = .ok (.aload_n 0, 1) := by decide +kernel
theorem dX12_recordChange_84 : decode cX12_recordChange 84 = .ok (.dup, 1) := by decide +kernel
theorem dX12_recordChange_85 : decode cX12_recordChange 85 = .ok (.getfield 83, 3) := by decide +kernel
theorem dX12_recordChange_88 : decode cX12_recordChange 88 = .ok (.iconst 1, 1) := by decide +kernel
theorem dX12_recordChange_89 : decode cX12_recordChange 89 = .ok (.iadd, 1) := by decide +kernel
theorem dX12_recordChange_90 : decode cX12_recordChange 90 = .ok (.putfield 83, 3) := by decide +kernel
theorem dX12_recordChange_93 : decode cX12_recordChange 93 = .ok (.return_, 1) := by decide +kernel
theorem dX12_setVertexCount_0 : decode cX12_setVertexCount 0 = .ok (.iload_n 1, 1) := by decide +kernel
theorem dX12_setVertexCount_1 : decode cX12_setVertexCount 1 = .ok (.i2l, 1) := by decide +kernel
theorem dX12_setVertexCount_2 : decode cX12_setVertexCount 2 = .ok (.lconst 1, 1) := by decide +kernel
theorem dX12_setVertexCount_3 : decode cX12_setVertexCount 3 = .ok (.ldc2_w 86, 3) := by decide +kernel
theorem dX12_setVertexCount_6 : decode cX12_setVertexCount 6 = .ok (.invokestatic 79, 3) := by decide +kernel
theorem dX12_setVertexCount_9 : decode cX12_setVertexCount 9 = .ok (.ifCond .ne 5, 3) := by decide +kernel
theorem dX12_setVertexCount_12 : decode cX12_setVertexCount 12 = .ok (.iconst (-1), 1) := by decide +kernel
theorem dX12_setVertexCount_13 : decode cX12_setVertexCount 13 = .ok (.ireturn, 1) := by decide +kernel
theorem dX12_setVertexCount_14 : decode cX12_setVertexCount 14 = .ok (.aload_n 0, 1) := by decide +kernel
theorem dX12_setVertexCount_15 : decode cX12_setVertexCount 15 = .ok (.getfield 9, 3) := by decide +kernel
theorem dX12_setVertexCount_18 : decode cX12_setVertexCount 18 = .ok (.istore_n 2, 1) := by decide +kernel
theorem dX12_setVertexCount_19 : decode cX12_setVertexCount 19 = .ok (.aload_n 0, 1) := by decide +kernel
theorem dX12_setVertexCount_20 : decode cX12_setVertexCount 20 = .ok (.iload_n 1, 1) := by decide +kernel
theorem dX12_setVertexCount_21 : decode cX12_setVertexCount 21 = .ok (.putfield 9, 3) := by decide +kernel
theorem dX12_setVertexCount_24 : decode cX12_setVertexCount 24 = .ok (.iconst 0, 1) := by decide +kernel
theorem dX12_setVertexCount_25 : decode cX12_setVertexCount 25 = .ok (.istore_n 3, 1) := by decide +kernel
theorem dX12_setVertexCount_26 : decode cX12_setVertexCount 26 = .ok (.iload_n 3, 1) := by decide +kernel
theorem dX12_setVertexCount_27 : decode cX12_setVertexCount 27 = .ok (.bipush 7, 2) := by decide +kernel
theorem dX12_setVertexCount_29 : decode cX12_setVertexCount 29 = .ok (.if_icmp .ge 16, 3) := by decide +kernel
theorem dX12_setVertexCount_32 : decode cX12_setVertexCount 32 = .ok (.aload_n 0, 1) := by decide +kernel
theorem dX12_setVertexCount_33 : decode cX12_setVertexCount 33 = .ok (.getfield 15, 3) := by decide +kernel
theorem dX12_setVertexCount_36 : decode cX12_setVertexCount 36 = .ok (.iload_n 3, 1) := by decide +kernel
theorem dX12_setVertexCount_37 : decode cX12_setVertexCount 37 = .ok (.iconst 0, 1) := by decide +kernel
theorem dX12_setVertexCount_38 : decode cX12_setVertexCount 38 = .ok (.iastore, 1) := by decide +kernel
theorem dX12_setVertexCount_39 : decode cX12_setVertexCount 39 = .ok (.iinc 3 1, 3) := by decide +kernel
theorem dX12_setVertexCount_42 : decode cX12_setVertexCount 42 = .ok (.goto (-16), 3) := by decide +kernel
theorem dX12_setVertexCount_45 : decode cX12_setVertexCount 45 = .ok (.aload_n 0, 1) := by decide +kernel
theorem dX12_setVertexCount_46 : decode cX12_setVertexCount 46 = .ok (.iconst 0, 1) := by decide +kernel
theorem dX12_setVertexCount_47 : decode cX12_setVertexCount 47 = .ok (.putfield 83, 3) := by decide +kernel
theorem dX12_setVertexCount_50 : decode cX12_setVertexCount 50 = .ok (.aload_n 0, 1) := by decide +kernel
theorem dX12_setVertexCount_51 : decode cX12_setVertexCount 51 = .ok (.iconst 1, 1) := by decide +kernel
theorem dX12_setVertexCount_52 : decode cX12_setVertexCount 52 = .ok (.putfield 25, 3) := by decide +kernel
theorem dX12_setVertexCount_55 : decode cX12_setVertexCount 55 = .ok (.iload_n 2, 1) := by decide +kernel
theorem dX12_setVertexCount_56 : decode cX12_setVertexCount 56 = .ok (.ireturn, 1) := by decide +kernel
theorem dX12_toggleEdge_0 : decode cX12_toggleEdge 0 = .ok (.aload_n 0, 1) := by decide +kernel
theorem dX12_toggleEdge_1 : decode cX12_toggleEdge 1 = .ok (.iload_n 1, 1) := by decide +kernel
theorem dX12_toggleEdge_2 : decode cX12_toggleEdge 2 = .ok (.invokevirtual 88, 3) := by decide +kernel
theorem dX12_toggleEdge_5 : decode cX12_toggleEdge 5 = .ok (.ifCond .eq 16, 3) := by decide +kernel
theorem dX12_toggleEdge_8 : decode cX12_toggleEdge 8 = .ok (.aload_n 0, 1) := by decide +kernel
theorem dX12_toggleEdge_9 : decode cX12_toggleEdge 9 = .ok (.iload_n 2, 1) := by decide +kernel
theorem dX12_toggleEdge_10 : decode cX12_toggleEdge 10 = .ok (.invokevirtual 88, 3) := by decide +kernel
theorem dX12_toggleEdge_13 : decode cX12_toggleEdge 13 = .ok (.ifCond .eq 8, 3) := by decide +kernel
theorem dX12_toggleEdge_16 : decode cX12_toggleEdge 16 = .ok (.iload_n 1, 1) := by decide +kernel
theorem dX12_toggleEdge_17 : decode cX12_toggleEdge 17 = .ok (.iload_n 2, 1) := by decide +kernel
theorem dX12_toggleEdge_18 : decode cX12_toggleEdge 18 = .ok (.if_icmp .ne 5, 3) := by decide +kernel
theorem dX12_toggleEdge_21 : decode cX12_toggleEdge 21 = .ok (.iconst (-1), 1) := by decide +kernel
theorem dX12_toggleEdge_22 : decode cX12_toggleEdge 22 = .ok (.ireturn, 1) := by decide +kernel
theorem dX12_toggleEdge_23 : decode cX12_toggleEdge 23 = .ok (.aload_n 0, 1) := by decide +kernel
theorem dX12_toggleEdge_24 : decode cX12_toggleEdge 24 = .ok (.invokevirtual 92, 3) := by decide +kernel
theorem dX12_toggleEdge_27 : decode cX12_toggleEdge 27 = .ok (.aload_n 0, 1) := by decide +kernel
theorem dX12_toggleEdge_28 : decode cX12_toggleEdge 28 = .ok (.getfield 15, 3) := by decide +kernel
theorem dX12_toggleEdge_31 : decode cX12_toggleEdge 31 = .ok (.iload_n 1, 1) := by decide +kernel
theorem dX12_toggleEdge_32 : decode cX12_toggleEdge 32 = .ok (.dup2, 1) := by decide +kernel
theorem dX12_toggleEdge_33 : decode cX12_toggleEdge 33 = .ok (.iaload, 1) := by decide +kernel
theorem dX12_toggleEdge_34 : decode cX12_toggleEdge 34 = .ok (.iconst 1, 1) := by decide +kernel
theorem dX12_toggleEdge_35 : decode cX12_toggleEdge 35 = .ok (.iload_n 2, 1) := by decide +kernel
theorem dX12_toggleEdge_36 : decode cX12_toggleEdge 36 = .ok (.ishl, 1) := by decide +kernel
theorem dX12_toggleEdge_37 : decode cX12_toggleEdge 37 = .ok (.ixor, 1) := by decide +kernel
theorem dX12_toggleEdge_38 : decode cX12_toggleEdge 38 = .ok (.iastore, 1) := by decide +kernel
theorem dX12_toggleEdge_39 : decode cX12_toggleEdge 39 = .ok (.aload_n 0, 1) := by decide +kernel
theorem dX12_toggleEdge_40 : decode cX12_toggleEdge 40 = .ok (.getfield 15, 3) := by decide +kernel
theorem dX12_toggleEdge_43 : decode cX12_toggleEdge 43 = .ok (.iload_n 2, 1) := by decide +kernel
theorem dX12_toggleEdge_44 : decode cX12_toggleEdge 44 = .ok (.dup2, 1) := by decide +kernel
theorem dX12_toggleEdge_45 : decode cX12_toggleEdge 45 = .ok (.iaload, 1) := by decide +kernel
theorem dX12_toggleEdge_46 : decode cX12_toggleEdge 46 = .ok (.iconst 1, 1) := by decide +kernel
theorem dX12_toggleEdge_47 : decode cX12_toggleEdge 47 = .ok (.iload_n 1, 1) := by decide +kernel
theorem dX12_toggleEdge_48 : decode cX12_toggleEdge 48 = .ok (.ishl, 1) := by decide +kernel
theorem dX12_toggleEdge_49 : decode cX12_toggleEdge 49 = .ok (.ixor, 1) := by decide +kernel
theorem dX12_toggleEdge_50 : decode cX12_toggleEdge 50 = .ok (.iastore, 1) := by decide +kernel
theorem dX12_toggleEdge_51 : decode cX12_toggleEdge 51 = .ok (.aload_n 0, 1) := by decide +kernel
theorem dX12_toggleEdge_52 : decode cX12_toggleEdge 52 = .ok (.iconst 1, 1) := by decide +kernel
theorem dX12_toggleEdge_53 : decode cX12_toggleEdge 53 = .ok (.putfield 25, 3) := by decide +kernel
theorem dX12_toggleEdge_56 : decode cX12_toggleEdge 56 = .ok (.aload_n 0, 1) := by decide +kernel
theorem dX12_toggleEdge_57 : decode cX12_toggleEdge 57 = .ok (.iload_n 1, 1) := by decide +kernel
theorem dX12_toggleEdge_58 : decode cX12_toggleEdge 58 = .ok (.iload_n 2, 1) := by decide +kernel
theorem dX12_toggleEdge_59 : decode cX12_toggleEdge 59 = .ok (.invokevirtual 95, 3) := by decide +kernel
theorem dX12_toggleEdge_62 : decode cX12_toggleEdge 62 = .ok (.ifCond .eq 7, 3) := by decide +kernel
theorem dX12_toggleEdge_65 : decode cX12_toggleEdge 65 = .ok (.iconst 1, 1) := by decide +kernel
theorem dX12_toggleEdge_66 : decode cX12_toggleEdge 66 = .ok (.goto 4, 3) := by decide +kernel
theorem dX12_toggleEdge_69 : decode cX12_toggleEdge 69 = .ok (.iconst 0, 1) := by decide +kernel
theorem dX12_toggleEdge_70 : decode cX12_toggleEdge 70 = .ok (.ireturn, 1) := by decide +kernel
theorem dX12_hasBuiltEdge_0 : decode cX12_hasBuiltEdge 0 = .ok (.iload_n 2, 1) := by decide +kernel
theorem dX12_hasBuiltEdge_1 : decode cX12_hasBuiltEdge 1 = .ok (.iload_n 3, 1) := by decide +kernel
theorem dX12_hasBuiltEdge_2 : decode cX12_hasBuiltEdge 2 = .ok (.if_icmp .ge 7, 3) := by decide +kernel
theorem dX12_hasBuiltEdge_5 : decode cX12_hasBuiltEdge 5 = .ok (.iload_n 2, 1) := by decide +kernel
theorem dX12_hasBuiltEdge_6 : decode cX12_hasBuiltEdge 6 = .ok (.goto 4, 3) := by decide +kernel
theorem dX12_hasBuiltEdge_9 : decode cX12_hasBuiltEdge 9 = .ok (.iload_n 3, 1) := by decide +kernel
theorem dX12_hasBuiltEdge_10 : decode cX12_hasBuiltEdge 10 = .ok (.istore 4, 2) := by decide +kernel
theorem dX12_hasBuiltEdge_12 : decode cX12_hasBuiltEdge 12 = .ok (.iload_n 2, 1) := by decide +kernel
theorem dX12_hasBuiltEdge_13 : decode cX12_hasBuiltEdge 13 = .ok (.iload_n 3, 1) := by decide +kernel
theorem dX12_hasBuiltEdge_14 : decode cX12_hasBuiltEdge 14 = .ok (.if_icmp .ge 7, 3) := by decide +kernel
theorem dX12_hasBuiltEdge_17 : decode cX12_hasBuiltEdge 17 = .ok (.iload_n 3, 1) := by decide +kernel
theorem dX12_hasBuiltEdge_18 : decode cX12_hasBuiltEdge 18 = .ok (.goto 4, 3) := by decide +kernel
theorem dX12_hasBuiltEdge_21 : decode cX12_hasBuiltEdge 21 = .ok (.iload_n 2, 1) := by decide +kernel
theorem dX12_hasBuiltEdge_22 : decode cX12_hasBuiltEdge 22 = .ok (.istore 5, 2) := by decide +kernel
theorem dX12_hasBuiltEdge_24 : decode cX12_hasBuiltEdge 24 = .ok (.iload_n 1, 1) := by decide +kernel
theorem dX12_hasBuiltEdge_25 : decode cX12_hasBuiltEdge 25 = .ok (.tableswitch 96 0 4 #[35, 37, 68, 83, 85], 35) := by decide +kernel
theorem dX12_hasBuiltEdge_60 : decode cX12_hasBuiltEdge 60 = .ok (.iconst 0, 1) := by decide +kernel
theorem dX12_hasBuiltEdge_61 : decode cX12_hasBuiltEdge 61 = .ok (.ireturn, 1) := by decide +kernel
theorem dX12_hasBuiltEdge_62 : decode cX12_hasBuiltEdge 62 = .ok (.iload 5, 2) := by decide +kernel
theorem dX12_hasBuiltEdge_64 : decode cX12_hasBuiltEdge 64 = .ok (.iload 4, 2) := by decide +kernel
theorem dX12_hasBuiltEdge_66 : decode cX12_hasBuiltEdge 66 = .ok (.iconst 1, 1) := by decide +kernel
theorem dX12_hasBuiltEdge_67 : decode cX12_hasBuiltEdge 67 = .ok (.iadd, 1) := by decide +kernel
theorem dX12_hasBuiltEdge_68 : decode cX12_hasBuiltEdge 68 = .ok (.if_icmp .eq 19, 3) := by decide +kernel
theorem dX12_hasBuiltEdge_71 : decode cX12_hasBuiltEdge 71 = .ok (.iload 4, 2) := by decide +kernel
theorem dX12_hasBuiltEdge_73 : decode cX12_hasBuiltEdge 73 = .ok (.ifCond .ne 18, 3) := by decide +kernel
theorem dX12_hasBuiltEdge_76 : decode cX12_hasBuiltEdge 76 = .ok (.iload 5, 2) := by decide +kernel
theorem dX12_hasBuiltEdge_78 : decode cX12_hasBuiltEdge 78 = .ok (.aload_n 0, 1) := by decide +kernel
theorem dX12_hasBuiltEdge_79 : decode cX12_hasBuiltEdge 79 = .ok (.getfield 9, 3) := by decide +kernel
theorem dX12_hasBuiltEdge_82 : decode cX12_hasBuiltEdge 82 = .ok (.iconst 1, 1) := by decide +kernel
theorem dX12_hasBuiltEdge_83 : decode cX12_hasBuiltEdge 83 = .ok (.isub, 1) := by decide +kernel
theorem dX12_hasBuiltEdge_84 : decode cX12_hasBuiltEdge 84 = .ok (.if_icmp .ne 7, 3) := by decide +kernel
theorem dX12_hasBuiltEdge_87 : decode cX12_hasBuiltEdge 87 = .ok (.iconst 1, 1) := by decide +kernel
theorem dX12_hasBuiltEdge_88 : decode cX12_hasBuiltEdge 88 = .ok (.goto 4, 3) := by decide +kernel
theorem dX12_hasBuiltEdge_91 : decode cX12_hasBuiltEdge 91 = .ok (.iconst 0, 1) := by decide +kernel
theorem dX12_hasBuiltEdge_92 : decode cX12_hasBuiltEdge 92 = .ok (.ireturn, 1) := by decide +kernel
theorem dX12_hasBuiltEdge_93 : decode cX12_hasBuiltEdge 93 = .ok (.iload 5, 2) := by decide +kernel
theorem dX12_hasBuiltEdge_95 : decode cX12_hasBuiltEdge 95 = .ok (.iload 4, 2) := by decide +kernel
theorem dX12_hasBuiltEdge_97 : decode cX12_hasBuiltEdge 97 = .ok (.iconst 1, 1) := by decide +kernel
theorem dX12_hasBuiltEdge_98 : decode cX12_hasBuiltEdge 98 = .ok (.iadd, 1) := by decide +kernel
theorem dX12_hasBuiltEdge_99 : decode cX12_hasBuiltEdge 99 = .ok (.if_icmp .ne 7, 3) := by decide +kernel
theorem dX12_hasBuiltEdge_102 : decode cX12_hasBuiltEdge 102 = .ok (.iconst 1, 1) := by decide +kernel
theorem dX12_hasBuiltEdge_103 : decode cX12_hasBuiltEdge 103 = .ok (.goto 4, 3) := by decide +kernel
theorem dX12_hasBuiltEdge_106 : decode cX12_hasBuiltEdge 106 = .ok (.iconst 0, 1) := by decide +kernel
theorem dX12_hasBuiltEdge_107 : decode cX12_hasBuiltEdge 107 = .ok (.ireturn, 1) := by decide +kernel
theorem dX12_hasBuiltEdge_108 : decode cX12_hasBuiltEdge 108 = .ok (.iconst 1, 1) := by decide +kernel
theorem dX12_hasBuiltEdge_109 : decode cX12_hasBuiltEdge 109 = .ok (.ireturn, 1) := by decide +kernel
theorem dX12_hasBuiltEdge_110 : decode cX12_hasBuiltEdge 110 = .ok (.iload 4, 2) := by decide +kernel
theorem dX12_hasBuiltEdge_112 : decode cX12_hasBuiltEdge 112 = .ok (.ifCond .ne 7, 3) := by decide +kernel
theorem dX12_hasBuiltEdge_115 : decode cX12_hasBuiltEdge 115 = .ok (.iconst 1, 1) := by decide +kernel
theorem dX12_hasBuiltEdge_116 : decode cX12_hasBuiltEdge 116 = .ok (.goto 4, 3) := by decide +kernel
theorem dX12_hasBuiltEdge_119 : decode cX12_hasBuiltEdge 119 = .ok (.iconst 0, 1) := by decide +kernel
theorem dX12_hasBuiltEdge_120 : decode cX12_hasBuiltEdge 120 = .ok (.ireturn, 1) := by decide +kernel
theorem dX12_hasBuiltEdge_121 : decode cX12_hasBuiltEdge 121 = .ok (.aload_n 0, 1) := by decide +kernel
theorem dX12_hasBuiltEdge_122 : decode cX12_hasBuiltEdge 122 = .ok (.iload_n 2, 1) := by decide +kernel
theorem dX12_hasBuiltEdge_123 : decode cX12_hasBuiltEdge 123 = .ok (.iload_n 3, 1) := by decide +kernel
theorem dX12_hasBuiltEdge_124 : decode cX12_hasBuiltEdge 124 = .ok (.invokevirtual 95, 3) := by decide +kernel
theorem dX12_hasBuiltEdge_127 : decode cX12_hasBuiltEdge 127 = .ok (.ifCond .ne 7, 3) := by decide +kernel
theorem dX12_hasBuiltEdge_130 : decode cX12_hasBuiltEdge 130 = .ok (.iconst 1, 1) := by decide +kernel
theorem dX12_hasBuiltEdge_131 : decode cX12_hasBuiltEdge 131 = .ok (.goto 4, 3) := by decide +kernel
theorem dX12_hasBuiltEdge_134 : decode cX12_hasBuiltEdge 134 = .ok (.iconst 0, 1) := by decide +kernel
theorem dX12_hasBuiltEdge_135 : decode cX12_hasBuiltEdge 135 = .ok (.ireturn, 1) := by decide +kernel
theorem dX12_build_0 : decode cX12_build 0 = .ok (.iload_n 1, 1) := by decide +kernel
theorem dX12_build_1 : decode cX12_build 1 = .ok (.i2l, 1) := by decide +kernel
theorem dX12_build_2 : decode cX12_build 2 = .ok (.lconst 0, 1) := by decide +kernel
theorem dX12_build_3 : decode cX12_build 3 = .ok (.ldc2_w 99, 3) := by decide +kernel
theorem dX12_build_6 : decode cX12_build 6 = .ok (.invokestatic 79, 3) := by decide +kernel
theorem dX12_build_9 : decode cX12_build 9 = .ok (.ifCond .ne 5, 3) := by decide +kernel
theorem dX12_build_12 : decode cX12_build 12 = .ok (.iconst (-1), 1) := by decide +kernel
theorem dX12_build_13 : decode cX12_build 13 = .ok (.ireturn, 1) := by decide +kernel
theorem dX12_build_14 : decode cX12_build 14 = .ok (.iload_n 1, 1) := by decide +kernel
theorem dX12_build_15 : decode cX12_build 15 = .ok (.iconst 1, 1) := by decide +kernel
theorem dX12_build_16 : decode cX12_build 16 = .ok (.if_icmp .ne 14, 3) := by decide +kernel
theorem dX12_build_19 : decode cX12_build 19 = .ok (.aload_n 0, 1) := by decide +kernel
theorem dX12_build_20 : decode cX12_build 20 = .ok (.getfield 9, 3) := by decide +kernel
theorem dX12_build_23 : decode cX12_build 23 = .ok (.iconst 3, 1) := by decide +kernel
theorem dX12_build_24 : decode cX12_build 24 = .ok (.if_icmp .ge 6, 3) := by decide +kernel
theorem dX12_build_27 : decode cX12_build 27 = .ok (.bipush (-5), 2) := by decide +kernel
theorem dX12_build_29 : decode cX12_build 29 = .ok (.ireturn, 1) := by decide +kernel
theorem dX12_build_30 : decode cX12_build 30 = .ok (.aload_n 0, 1) := by decide +kernel
theorem dX12_build_31 : decode cX12_build 31 = .ok (.invokevirtual 92, 3) := by decide +kernel
theorem dX12_build_34 : decode cX12_build 34 = .ok (.iconst 0, 1) := by decide +kernel
theorem dX12_build_35 : decode cX12_build 35 = .ok (.istore_n 2, 1) := by decide +kernel
theorem dX12_build_36 : decode cX12_build 36 = .ok (.iload_n 2, 1) := by decide +kernel
theorem dX12_build_37 : decode cX12_build 37 = .ok (.aload_n 0, 1) := by decide +kernel
theorem dX12_build_38 : decode cX12_build 38 = .ok (.getfield 9, 3) := by decide +kernel
theorem dX12_build_41 : decode cX12_build 41 = .ok (.if_icmp .ge 64, 3) := by decide +kernel
theorem dX12_build_44 : decode cX12_build 44 = .ok (.iconst 0, 1) := by decide +kernel
theorem dX12_build_45 : decode cX12_build 45 = .ok (.istore_n 3, 1) := by decide +kernel
theorem dX12_build_46 : decode cX12_build 46 = .ok (.iconst 0, 1) := by decide +kernel
theorem dX12_build_47 : decode cX12_build 47 = .ok (.istore 4, 2) := by decide +kernel
theorem dX12_build_49 : decode cX12_build 49 = .ok (.iload 4, 2) := by decide +kernel
theorem dX12_build_51 : decode cX12_build 51 = .ok (.aload_n 0, 1) := by decide +kernel
theorem dX12_build_52 : decode cX12_build 52 = .ok (.getfield 9, 3) := by decide +kernel
theorem dX12_build_55 : decode cX12_build 55 = .ok (.if_icmp .ge 37, 3) := by decide +kernel
theorem dX12_build_58 : decode cX12_build 58 = .ok (.iload_n 3, 1) := by decide +kernel
theorem dX12_build_59 : decode cX12_build 59 = .ok (.iload_n 2, 1) := by decide +kernel
theorem dX12_build_60 : decode cX12_build 60 = .ok (.iload 4, 2) := by decide +kernel
theorem dX12_build_62 : decode cX12_build 62 = .ok (.if_icmp .eq 21, 3) := by decide +kernel
theorem dX12_build_65 : decode cX12_build 65 = .ok (.aload_n 0, 1) := by decide +kernel
theorem dX12_build_66 : decode cX12_build 66 = .ok (.iload_n 1, 1) := by decide +kernel
theorem dX12_build_67 : decode cX12_build 67 = .ok (.iload_n 2, 1) := by decide +kernel
theorem dX12_build_68 : decode cX12_build 68 = .ok (.iload 4, 2) := by decide +kernel
theorem dX12_build_70 : decode cX12_build 70 = .ok (.invokevirtual 101, 3) := by decide +kernel
theorem dX12_build_73 : decode cX12_build 73 = .ok (.ifCond .eq 10, 3) := by decide +kernel
theorem dX12_build_76 : decode cX12_build 76 = .ok (.iconst 1, 1) := by decide +kernel
theorem dX12_build_77 : decode cX12_build 77 = .ok (.iload 4, 2) := by decide +kernel
theorem dX12_build_79 : decode cX12_build 79 = .ok (.ishl, 1) := by decide +kernel
theorem dX12_build_80 : decode cX12_build 80 = .ok (.goto 4, 3) := by decide +kernel
theorem dX12_build_83 : decode cX12_build 83 = .ok (.iconst 0, 1) := by decide +kernel
theorem dX12_build_84 : decode cX12_build 84 = .ok (.ior, 1) := by decide +kernel
theorem dX12_build_85 : decode cX12_build 85 = .ok (.istore_n 3, 1) := by decide +kernel
theorem dX12_build_86 : decode cX12_build 86 = .ok (.iinc 4 1, 3) := by decide +kernel
theorem dX12_build_89 : decode cX12_build 89 = .ok (.goto (-40), 3) := by decide +kernel
theorem dX12_build_92 : decode cX12_build 92 = .ok (.aload_n 0, 1) := by decide +kernel
theorem dX12_build_93 : decode cX12_build 93 = .ok (.getfield 22, 3) := by decide +kernel
theorem dX12_build_96 : decode cX12_build 96 = .ok (.iload_n 2, 1) := by decide +kernel
theorem dX12_build_97 : decode cX12_build 97 = .ok (.iload_n 3, 1) := by decide +kernel
theorem dX12_build_98 : decode cX12_build 98 = .ok (.iastore, 1) := by decide +kernel
theorem dX12_build_99 : decode cX12_build 99 = .ok (.iinc 2 1, 3) := by decide +kernel
theorem dX12_build_102 : decode cX12_build 102 = .ok (.goto (-66), 3) := by decide +kernel
theorem dX12_build_105 : decode cX12_build 105 = .ok (.iconst 0, 1) := by decide +kernel
theorem dX12_build_106 : decode cX12_build 106 = .ok (.istore_n 2, 1) := by decide +kernel
theorem dX12_build_107 : decode cX12_build 107 = .ok (.iload_n 2, 1) := by decide +kernel
theorem dX12_build_108 : decode cX12_build 108 = .ok (.aload_n 0, 1) := by decide +kernel
theorem dX12_build_109 : decode cX12_build 109 = .ok (.getfield 9, 3) := by decide +kernel
theorem dX12_build_112 : decode cX12_build 112 = .ok (.if_icmp .ge 21, 3) := by decide +kernel
theorem dX12_build_115 : decode cX12_build 115 = .ok (.aload_n 0, 1) := by decide +kernel
theorem dX12_build_116 : decode cX12_build 116 = .ok (.getfield 15, 3) := by decide +kernel
theorem dX12_build_119 : decode cX12_build 119 = .ok (.iload_n 2, 1) := by decide +kernel
theorem dX12_build_120 : decode cX12_build 120 = .ok (.aload_n 0, 1) := by decide +kernel
theorem dX12_build_121 : decode cX12_build 121 = .ok (.getfield 22, 3) := by decide +kernel
theorem dX12_build_124 : decode cX12_build 124 = .ok (.iload_n 2, 1) := by decide +kernel
theorem dX12_build_125 : decode cX12_build 125 = .ok (.iaload, 1) := by decide +kernel
theorem dX12_build_126 : decode cX12_build 126 = .ok (.iastore, 1) := by decide +kernel
theorem dX12_build_127 : decode cX12_build 127 = .ok (.iinc 2 1, 3) := by decide +kernel
theorem dX12_build_130 : decode cX12_build 130 = .ok (.goto (-23), 3) := by decide +kernel
theorem dX12_build_133 : decode cX12_build 133 = .ok (.aload_n 0, 1) := by decide +kernel
theorem dX12_build_134 : decode cX12_build 134 = .ok (.iconst 1, 1) := by decide +kernel
theorem dX12_build_135 : decode cX12_build 135 = .ok (.putfield 25, 3) := by decide +kernel
theorem dX12_build_138 : decode cX12_build 138 = .ok (.aload_n 0, 1) := by decide +kernel
theorem dX12_build_139 : decode cX12_build 139 = .ok (.invokevirtual 105, 3) := by decide +kernel
theorem dX12_build_142 : decode cX12_build 142 = .ok (.ireturn, 1) := by decide +kernel
theorem dX12_revertChange_0 : decode cX12_revertChange 0 = .ok (.aload_n 0, 1) := by decide +kernel
theorem dX12_revertChange_1 : decode cX12_revertChange 1 = .ok (.getfield 83, 3) := by decide +kernel
theorem dX12_revertChange_4 : decode cX12_revertChange 4 = .ok (.ifCond .ne 6, 3) := by decide +kernel
theorem dX12_revertChange_7 : decode cX12_revertChange 7 = .ok (.bipush (-5), 2) := by decide +kernel
theorem dX12_revertChange_9 : decode cX12_revertChange 9 = .ok (.ireturn, 1) := by decide +kernel
theorem dX12_revertChange_10 : decode cX12_revertChange 10 = .ok (.aload_n 0, 1) := by decide +kernel
theorem dX12_revertChange_11 : decode cX12_revertChange 11 = .ok (.dup, 1) := by decide +kernel
theorem dX12_revertChange_12 : decode cX12_revertChange 12 = .ok (.getfield 83, 3) := by decide +kernel
theorem dX12_revertChange_15 : decode cX12_revertChange 15 = .ok (.iconst 1, 1) := by decide +kernel
theorem dX12_revertChange_16 : decode cX12_revertChange 16 = .ok (.isub, 1) := by decide +kernel
theorem dX12_revertChange_17 : decode cX12_revertChange 17 = .ok (.putfield 83, 3) := by decide +kernel
theorem dX12_revertChange_20 : decode cX12_revertChange 20 = .ok (.iconst 0, 1) := by decide +kernel
theorem dX12_revertChange_21 : decode cX12_revertChange 21 = .ok (.istore_n 1, 1) := by decide +kernel
theorem dX12_revertChange_22 : decode cX12_revertChange 22 = .ok (.iload_n 1, 1) := by decide +kernel
theorem dX12_revertChange_23 : decode cX12_revertChange 23 = .ok (.bipush 7, 2) := by decide +kernel
theorem dX12_revertChange_25 : decode cX12_revertChange 25 = .ok (.if_icmp .ge 29, 3) := by decide +kernel
theorem dX12_revertChange_28 : decode cX12_revertChange 28 = .ok (.aload_n 0, 1) := by decide +kernel
theorem dX12_revertChange_29 : decode cX12_revertChange 29 = .ok (.getfield 15, 3) := by decide +kernel
theorem dX12_revertChange_32 : decode cX12_revertChange 32 = .ok (.iload_n 1, 1) := by decide +kernel
theorem dX12_revertChange_33 : decode cX12_revertChange 33 = .ok (.aload_n 0, 1) := by decide +kernel
theorem dX12_revertChange_34 : decode cX12_revertChange 34 = .ok (.getfield 19, 3) := by decide +kernel
theorem dX12_revertChange_37 : decode cX12_revertChange 37 = .ok (.aload_n 0, 1) := by decide +kernel
theorem dX12_revertChange_38 : decode cX12_revertChange 38 = .ok (.getfield 83, 3) := by decide +kernel
theorem dX12_revertChange_41 : decode cX12_revertChange 41 = .ok (.bipush 7, 2) := by decide +kernel
theorem dX12_revertChange_43 : decode cX12_revertChange 43 = .ok (.imul, 1) := by decide +kernel
theorem dX12_revertChange_44 : decode cX12_revertChange 44 = .ok (.iload_n 1, 1) := by decide +kernel
theorem dX12_revertChange_45 : decode cX12_revertChange 45 = .ok (.iadd, 1) := by decide +kernel
theorem dX12_revertChange_46 : decode cX12_revertChange 46 = .ok (.iaload, 1) := by decide +kernel
theorem dX12_revertChange_47 : decode cX12_revertChange 47 = .ok (.iastore, 1) := by decide +kernel
theorem dX12_revertChange_48 : decode cX12_revertChange 48 = .ok (.iinc 1 1, 3) := by decide +kernel
theorem dX12_revertChange_51 : decode cX12_revertChange 51 = .ok (.goto (-29), 3) := by decide +kernel
theorem dX12_revertChange_54 : decode cX12_revertChange 54 = .ok (.aload_n 0, 1) := by decide +kernel
theorem dX12_revertChange_55 : decode cX12_revertChange 55 = .ok (.iconst 1, 1) := by decide +kernel
theorem dX12_revertChange_56 : decode cX12_revertChange 56 = .ok (.putfield 25, 3) := by decide +kernel
theorem dX12_revertChange_59 : decode cX12_revertChange 59 = .ok (.aload_n 0, 1) := by decide +kernel
theorem dX12_revertChange_60 : decode cX12_revertChange 60 = .ok (.getfield 83, 3) := by decide +kernel
theorem dX12_revertChange_63 : decode cX12_revertChange 63 = .ok (.ireturn, 1) := by decide +kernel
theorem dX12_vertexCount_0 : decode cX12_vertexCount 0 = .ok (.aload_n 0, 1) := by decide +kernel
theorem dX12_vertexCount_1 : decode cX12_vertexCount 1 = .ok (.getfield 9, 3) := by decide +kernel
theorem dX12_vertexCount_4 : decode cX12_vertexCount 4 = .ok (.ireturn, 1) := by decide +kernel
theorem dX12_edgeCount_0 : decode cX12_edgeCount 0 = .ok (.iconst 0, 1) := by decide +kernel
theorem dX12_edgeCount_1 : decode cX12_edgeCount 1 = .ok (.istore_n 1, 1) := by decide +kernel
theorem dX12_edgeCount_2 : decode cX12_edgeCount 2 = .ok (.iconst 0, 1) := by decide +kernel
theorem dX12_edgeCount_3 : decode cX12_edgeCount 3 = .ok (.istore_n 2, 1) := by decide +kernel
theorem dX12_edgeCount_4 : decode cX12_edgeCount 4 = .ok (.iload_n 2, 1) := by decide +kernel
theorem dX12_edgeCount_5 : decode cX12_edgeCount 5 = .ok (.aload_n 0, 1) := by decide +kernel
theorem dX12_edgeCount_6 : decode cX12_edgeCount 6 = .ok (.getfield 9, 3) := by decide +kernel
theorem dX12_edgeCount_9 : decode cX12_edgeCount 9 = .ok (.if_icmp .ge 21, 3) := by decide +kernel
theorem dX12_edgeCount_12 : decode cX12_edgeCount 12 = .ok (.iload_n 1, 1) := by decide +kernel
theorem dX12_edgeCount_13 : decode cX12_edgeCount 13 = .ok (.aload_n 0, 1) := by decide +kernel
theorem dX12_edgeCount_14 : decode cX12_edgeCount 14 = .ok (.getfield 15, 3) := by decide +kernel
theorem dX12_edgeCount_17 : decode cX12_edgeCount 17 = .ok (.iload_n 2, 1) := by decide +kernel
theorem dX12_edgeCount_18 : decode cX12_edgeCount 18 = .ok (.iaload, 1) := by decide +kernel
theorem dX12_edgeCount_19 : decode cX12_edgeCount 19 = .ok (.invokestatic 109, 3) := by decide +kernel
theorem dX12_edgeCount_22 : decode cX12_edgeCount 22 = .ok (.iadd, 1) := by decide +kernel
theorem dX12_edgeCount_23 : decode cX12_edgeCount 23 = .ok (.istore_n 1, 1) := by decide +kernel
theorem dX12_edgeCount_24 : decode cX12_edgeCount 24 = .ok (.iinc 2 1, 3) := by decide +kernel
theorem dX12_edgeCount_27 : decode cX12_edgeCount 27 = .ok (.goto (-23), 3) := by decide +kernel
theorem dX12_edgeCount_30 : decode cX12_edgeCount 30 = .ok (.iload_n 1, 1) := by decide +kernel
theorem dX12_edgeCount_31 : decode cX12_edgeCount 31 = .ok (.iconst 2, 1) := by decide +kernel
theorem dX12_edgeCount_32 : decode cX12_edgeCount 32 = .ok (.idiv, 1) := by decide +kernel
theorem dX12_edgeCount_33 : decode cX12_edgeCount 33 = .ok (.ireturn, 1) := by decide +kernel
theorem dX12_neighbors_0 : decode cX12_neighbors 0 = .ok (.aload_n 0, 1) := by decide +kernel
theorem dX12_neighbors_1 : decode cX12_neighbors 1 = .ok (.iload_n 1, 1) := by decide +kernel
theorem dX12_neighbors_2 : decode cX12_neighbors 2 = .ok (.invokevirtual 88, 3) := by decide +kernel
theorem dX12_neighbors_5 : decode cX12_neighbors 5 = .ok (.ifCond .eq 12, 3) := by decide +kernel
theorem dX12_neighbors_8 : decode cX12_neighbors 8 = .ok (.aload_n 0, 1) := by decide +kernel
theorem dX12_neighbors_9 : decode cX12_neighbors 9 = .ok (.getfield 15, 3) := by decide +kernel
theorem dX12_neighbors_12 : decode cX12_neighbors 12 = .ok (.iload_n 1, 1) := by decide +kernel
theorem dX12_neighbors_13 : decode cX12_neighbors 13 = .ok (.iaload, 1) := by decide +kernel
theorem dX12_neighbors_14 : decode cX12_neighbors 14 = .ok (.goto 4, 3) := by decide +kernel
theorem dX12_neighbors_17 : decode cX12_neighbors 17 = .ok (.iconst (-1), 1) := by decide +kernel
theorem dX12_neighbors_18 : decode cX12_neighbors 18 = .ok (.ireturn, 1) := by decide +kernel
theorem dX12_reachable_0 : decode cX12_reachable 0 = .ok (.iload_n 1, 1) := by decide +kernel
theorem dX12_reachable_1 : decode cX12_reachable 1 = .ok (.istore_n 2, 1) := by decide +kernel
theorem dX12_reachable_2 : decode cX12_reachable 2 = .ok (.iconst 1, 1) := by decide +kernel
theorem dX12_reachable_3 : decode cX12_reachable 3 = .ok (.istore_n 3, 1) := by decide +kernel
theorem dX12_reachable_4 : decode cX12_reachable 4 = .ok (.iload_n 3, 1) := by decide +kernel
theorem dX12_reachable_5 : decode cX12_reachable 5 = .ok (.ifCond .eq 68, 3) := by decide +kernel
theorem dX12_reachable_8 : decode cX12_reachable 8 = .ok (.iload_n 2, 1) := by decide +kernel
theorem dX12_reachable_9 : decode cX12_reachable 9 = .ok (.istore 4, 2) := by decide +kernel
theorem dX12_reachable_11 : decode cX12_reachable 11 = .ok (.iconst 0, 1) := by decide +kernel
theorem dX12_reachable_12 : decode cX12_reachable 12 = .ok (.istore 5, 2) := by decide +kernel
theorem dX12_reachable_14 : decode cX12_reachable 14 = .ok (.iload 5, 2) := by decide +kernel
theorem dX12_reachable_16 : decode cX12_reachable 16 = .ok (.aload_n 0, 1) := by decide +kernel
theorem dX12_reachable_17 : decode cX12_reachable 17 = .ok (.getfield 9, 3) := by decide +kernel
theorem dX12_reachable_20 : decode cX12_reachable 20 = .ok (.if_icmp .ge 35, 3) := by decide +kernel
theorem dX12_reachable_23 : decode cX12_reachable 23 = .ok (.iload 4, 2) := by decide +kernel
theorem dX12_reachable_25 : decode cX12_reachable 25 = .ok (.iload_n 2, 1) := by decide +kernel
theorem dX12_reachable_26 : decode cX12_reachable 26 = .ok (.iload 5, 2) := by decide +kernel
theorem dX12_reachable_28 : decode cX12_reachable 28 = .ok (.ishr, 1) := by decide +kernel
theorem dX12_reachable_29 : decode cX12_reachable 29 = .ok (.iconst 1, 1) := by decide +kernel
theorem dX12_reachable_30 : decode cX12_reachable 30 = .ok (.iand, 1) := by decide +kernel
theorem dX12_reachable_31 : decode cX12_reachable 31 = .ok (.iconst 1, 1) := by decide +kernel
theorem dX12_reachable_32 : decode cX12_reachable 32 = .ok (.if_icmp .ne 13, 3) := by decide +kernel
theorem dX12_reachable_35 : decode cX12_reachable 35 = .ok (.aload_n 0, 1) := by decide +kernel
theorem dX12_reachable_36 : decode cX12_reachable 36 = .ok (.getfield 15, 3) := by decide +kernel
theorem dX12_reachable_39 : decode cX12_reachable 39 = .ok (.iload 5, 2) := by decide +kernel
theorem dX12_reachable_41 : decode cX12_reachable 41 = .ok (.iaload, 1) := by decide +kernel
theorem dX12_reachable_42 : decode cX12_reachable 42 = .ok (.goto 4, 3) := by decide +kernel
theorem dX12_reachable_45 : decode cX12_reachable 45 = .ok (.iconst 0, 1) := by decide +kernel
theorem dX12_reachable_46 : decode cX12_reachable 46 = .ok (.ior, 1) := by decide +kernel
theorem dX12_reachable_47 : decode cX12_reachable 47 = .ok (.istore 4, 2) := by decide +kernel
theorem dX12_reachable_49 : decode cX12_reachable 49 = .ok (.iinc 5 1, 3) := by decide +kernel
theorem dX12_reachable_52 : decode cX12_reachable 52 = .ok (.goto (-38), 3) := by decide +kernel
theorem dX12_reachable_55 : decode cX12_reachable 55 = .ok (.iload 4, 2) := by decide +kernel
theorem dX12_reachable_57 : decode cX12_reachable 57 = .ok (.iload_n 2, 1) := by decide +kernel
theorem dX12_reachable_58 : decode cX12_reachable 58 = .ok (.if_icmp .eq 7, 3) := by decide +kernel
theorem dX12_reachable_61 : decode cX12_reachable 61 = .ok (.iconst 1, 1) := by decide +kernel
theorem dX12_reachable_62 : decode cX12_reachable 62 = .ok (.goto 4, 3) := by decide +kernel
theorem dX12_reachable_65 : decode cX12_reachable 65 = .ok (.iconst 0, 1) := by decide +kernel
theorem dX12_reachable_66 : decode cX12_reachable 66 = .ok (.istore_n 3, 1) := by decide +kernel
theorem dX12_reachable_67 : decode cX12_reachable 67 = .ok (.iload 4, 2) := by decide +kernel
theorem dX12_reachable_69 : decode cX12_reachable 69 = .ok (.istore_n 2, 1) := by decide +kernel
theorem dX12_reachable_70 : decode cX12_reachable 70 = .ok (.goto (-66), 3) := by decide +kernel
theorem dX12_reachable_73 : decode cX12_reachable 73 = .ok (.iload_n 2, 1) := by decide +kernel
theorem dX12_reachable_74 : decode cX12_reachable 74 = .ok (.ireturn, 1) := by decide +kernel
theorem dX12_componentCount_0 : decode cX12_componentCount 0 = .ok (.iconst 0, 1) := by decide +kernel
theorem dX12_componentCount_1 : decode cX12_componentCount 1 = .ok (.istore_n 1, 1) := by decide +kernel
theorem dX12_componentCount_2 : decode cX12_componentCount 2 = .ok (.iconst 0, 1) := by decide +kernel
theorem dX12_componentCount_3 : decode cX12_componentCount 3 = .ok (.istore_n 2, 1) := by decide +kernel
theorem dX12_componentCount_4 : decode cX12_componentCount 4 = .ok (.iconst 0, 1) := by decide +kernel
theorem dX12_componentCount_5 : decode cX12_componentCount 5 = .ok (.istore_n 3, 1) := by decide +kernel
theorem dX12_componentCount_6 : decode cX12_componentCount 6 = .ok (.iload_n 3, 1) := by decide +kernel
theorem dX12_componentCount_7 : decode cX12_componentCount 7 = .ok (.aload_n 0, 1) := by decide +kernel
theorem dX12_componentCount_8 : decode cX12_componentCount 8 = .ok (.getfield 9, 3) := by decide +kernel
theorem dX12_componentCount_11 : decode cX12_componentCount 11 = .ok (.if_icmp .ge 30, 3) := by decide +kernel
theorem dX12_componentCount_14 : decode cX12_componentCount 14 = .ok (.iload_n 2, 1) := by decide +kernel
theorem dX12_componentCount_15 : decode cX12_componentCount 15 = .ok (.iload_n 3, 1) := by decide +kernel
theorem dX12_componentCount_16 : decode cX12_componentCount 16 = .ok (.ishr, 1) := by decide +kernel
theorem dX12_componentCount_17 : decode cX12_componentCount 17 = .ok (.iconst 1, 1) := by decide +kernel
theorem dX12_componentCount_18 : decode cX12_componentCount 18 = .ok (.iand, 1) := by decide +kernel
theorem dX12_componentCount_19 : decode cX12_componentCount 19 = .ok (.ifCond .ne 16, 3) := by decide +kernel
theorem dX12_componentCount_22 : decode cX12_componentCount 22 = .ok (.iinc 1 1, 3) := by decide +kernel
theorem dX12_componentCount_25 : decode cX12_componentCount 25 = .ok (.iload_n 2, 1) := by decide +kernel
theorem dX12_componentCount_26 : decode cX12_componentCount 26 = .ok (.aload_n 0, 1) := by decide +kernel
theorem dX12_componentCount_27 : decode cX12_componentCount 27 = .ok (.iconst 1, 1) := by decide +kernel
theorem dX12_componentCount_28 : decode cX12_componentCount 28 = .ok (.iload_n 3, 1) := by decide +kernel
theorem dX12_componentCount_29 : decode cX12_componentCount 29 = .ok (.ishl, 1) := by decide +kernel
theorem dX12_componentCount_30 : decode cX12_componentCount 30 = .ok (.invokevirtual 113, 3) := by decide +kernel
theorem dX12_componentCount_33 : decode cX12_componentCount 33 = .ok (.ior, 1) := by decide +kernel
theorem dX12_componentCount_34 : decode cX12_componentCount 34 = .ok (.istore_n 2, 1) := by decide +kernel
theorem dX12_componentCount_35 : decode cX12_componentCount 35 = .ok (.iinc 3 1, 3) := by decide +kernel
theorem dX12_componentCount_38 : decode cX12_componentCount 38 = .ok (.goto (-32), 3) := by decide +kernel
theorem dX12_componentCount_41 : decode cX12_componentCount 41 = .ok (.iload_n 1, 1) := by decide +kernel
theorem dX12_componentCount_42 : decode cX12_componentCount 42 = .ok (.ireturn, 1) := by decide +kernel
theorem dX12_hasOddCycle_0 : decode cX12_hasOddCycle 0 = .ok (.iconst 0, 1) := by decide +kernel
theorem dX12_hasOddCycle_1 : decode cX12_hasOddCycle 1 = .ok (.istore_n 1, 1) := by decide +kernel
theorem dX12_hasOddCycle_2 : decode cX12_hasOddCycle 2 = .ok (.iload_n 1, 1) := by decide +kernel
theorem dX12_hasOddCycle_3 : decode cX12_hasOddCycle 3 = .ok (.aload_n 0, 1) := by decide +kernel
theorem dX12_hasOddCycle_4 : decode cX12_hasOddCycle 4 = .ok (.invokevirtual 116, 3) := by decide +kernel
theorem dX12_hasOddCycle_7 : decode cX12_hasOddCycle 7 = .ok (.if_icmp .gt 76, 3) := by decide +kernel
theorem dX12_hasOddCycle_10 : decode cX12_hasOddCycle 10 = .ok (.iconst 1, 1) := by decide +kernel
theorem dX12_hasOddCycle_11 : decode cX12_hasOddCycle 11 = .ok (.istore_n 2, 1) := by decide +kernel
theorem dX12_hasOddCycle_12 : decode cX12_hasOddCycle 12 = .ok (.iconst 0, 1) := by decide +kernel
theorem dX12_hasOddCycle_13 : decode cX12_hasOddCycle 13 = .ok (.istore_n 3, 1) := by decide +kernel
theorem dX12_hasOddCycle_14 : decode cX12_hasOddCycle 14 = .ok (.iload_n 3, 1) := by decide +kernel
theorem dX12_hasOddCycle_15 : decode cX12_hasOddCycle 15 = .ok (.aload_n 0, 1) := by decide +kernel
theorem dX12_hasOddCycle_16 : decode cX12_hasOddCycle 16 = .ok (.getfield 9, 3) := by decide +kernel
theorem dX12_hasOddCycle_19 : decode cX12_hasOddCycle 19 = .ok (.if_icmp .ge 52, 3) := by decide +kernel
theorem dX12_hasOddCycle_22 : decode cX12_hasOddCycle 22 = .ok (.iload_n 1, 1) := by decide +kernel
theorem dX12_hasOddCycle_23 : decode cX12_hasOddCycle 23 = .ok (.iload_n 3, 1) := by decide +kernel
theorem dX12_hasOddCycle_24 : decode cX12_hasOddCycle 24 = .ok (.ishr, 1) := by decide +kernel
theorem dX12_hasOddCycle_25 : decode cX12_hasOddCycle 25 = .ok (.iconst 1, 1) := by decide +kernel
theorem dX12_hasOddCycle_26 : decode cX12_hasOddCycle 26 = .ok (.iand, 1) := by decide +kernel
theorem dX12_hasOddCycle_27 : decode cX12_hasOddCycle 27 = .ok (.iconst 1, 1) := by decide +kernel
theorem dX12_hasOddCycle_28 : decode cX12_hasOddCycle 28 = .ok (.if_icmp .ne 7, 3) := by decide +kernel
theorem dX12_hasOddCycle_31 : decode cX12_hasOddCycle 31 = .ok (.iload_n 1, 1) := by decide +kernel
theorem dX12_hasOddCycle_32 : decode cX12_hasOddCycle 32 = .ok (.goto 11, 3) := by decide +kernel
theorem dX12_hasOddCycle_35 : decode cX12_hasOddCycle 35 = .ok (.aload_n 0, 1) := by decide +kernel
theorem dX12_hasOddCycle_36 : decode cX12_hasOddCycle 36 = .ok (.invokevirtual 116, 3) := by decide +kernel
theorem dX12_hasOddCycle_39 : decode cX12_hasOddCycle 39 = .ok (.iload_n 1, 1) := by decide +kernel
theorem dX12_hasOddCycle_40 : decode cX12_hasOddCycle 40 = .ok (.iconst (-1), 1) := by decide +kernel
theorem dX12_hasOddCycle_41 : decode cX12_hasOddCycle 41 = .ok (.ixor, 1) := by decide +kernel
theorem dX12_hasOddCycle_42 : decode cX12_hasOddCycle 42 = .ok (.iand, 1) := by decide +kernel
theorem dX12_hasOddCycle_43 : decode cX12_hasOddCycle 43 = .ok (.istore 4, 2) := by decide +kernel
theorem dX12_hasOddCycle_45 : decode cX12_hasOddCycle 45 = .ok (.iload_n 2, 1) := by decide +kernel
theorem dX12_hasOddCycle_46 : decode cX12_hasOddCycle 46 = .ok (.aload_n 0, 1) := by decide +kernel
theorem dX12_hasOddCycle_47 : decode cX12_hasOddCycle 47 = .ok (.getfield 15, 3) := by decide +kernel
theorem dX12_hasOddCycle_50 : decode cX12_hasOddCycle 50 = .ok (.iload_n 3, 1) := by decide +kernel
theorem dX12_hasOddCycle_51 : decode cX12_hasOddCycle 51 = .ok (.iaload, 1) := by decide +kernel
theorem dX12_hasOddCycle_52 : decode cX12_hasOddCycle 52 = .ok (.iload 4, 2) := by decide +kernel
theorem dX12_hasOddCycle_54 : decode cX12_hasOddCycle 54 = .ok (.iand, 1) := by decide +kernel
theorem dX12_hasOddCycle_55 : decode cX12_hasOddCycle 55 = .ok (.ifCond .ne 7, 3) := by decide +kernel
theorem dX12_hasOddCycle_58 : decode cX12_hasOddCycle 58 = .ok (.iconst 1, 1) := by decide +kernel
theorem dX12_hasOddCycle_59 : decode cX12_hasOddCycle 59 = .ok (.goto 4, 3) := by decide +kernel
theorem dX12_hasOddCycle_62 : decode cX12_hasOddCycle 62 = .ok (.iconst 0, 1) := by decide +kernel
theorem dX12_hasOddCycle_63 : decode cX12_hasOddCycle 63 = .ok (.iand, 1) := by decide +kernel
theorem dX12_hasOddCycle_64 : decode cX12_hasOddCycle 64 = .ok (.istore_n 2, 1) := by decide +kernel
theorem dX12_hasOddCycle_65 : decode cX12_hasOddCycle 65 = .ok (.iinc 3 1, 3) := by decide +kernel
theorem dX12_hasOddCycle_68 : decode cX12_hasOddCycle 68 = .ok (.goto (-54), 3) := by decide +kernel
theorem dX12_hasOddCycle_71 : decode cX12_hasOddCycle 71 = .ok (.iload_n 2, 1) := by decide +kernel
theorem dX12_hasOddCycle_72 : decode cX12_hasOddCycle 72 = .ok (.ifCond .eq 5, 3) := by decide +kernel
theorem dX12_hasOddCycle_75 : decode cX12_hasOddCycle 75 = .ok (.iconst 0, 1) := by decide +kernel
theorem dX12_hasOddCycle_76 : decode cX12_hasOddCycle 76 = .ok (.ireturn, 1) := by decide +kernel
theorem dX12_hasOddCycle_77 : decode cX12_hasOddCycle 77 = .ok (.iinc 1 1, 3) := by decide +kernel
theorem dX12_hasOddCycle_80 : decode cX12_hasOddCycle 80 = .ok (.goto (-78), 3) := by decide +kernel
theorem dX12_hasOddCycle_83 : decode cX12_hasOddCycle 83 = .ok (.iconst 1, 1) := by decide +kernel
theorem dX12_hasOddCycle_84 : decode cX12_hasOddCycle 84 = .ok (.ireturn, 1) := by decide +kernel
theorem dX12_matchingWithin_0 : decode cX12_matchingWithin 0 = .ok (.iload_n 1, 1) := by decide +kernel
theorem dX12_matchingWithin_1 : decode cX12_matchingWithin 1 = .ok (.ifCond .ne 5, 3) := by decide +kernel
theorem dX12_matchingWithin_4 : decode cX12_matchingWithin 4 = .ok (.iconst 0, 1) := by decide +kernel
theorem dX12_matchingWithin_5 : decode cX12_matchingWithin 5 = .ok (.ireturn, 1) := by decide +kernel
theorem dX12_matchingWithin_6 : decode cX12_matchingWithin 6 = .ok (.iconst 0, 1) := by decide +kernel
theorem dX12_matchingWithin_7 : decode cX12_matchingWithin 7 = .ok (.istore_n 2, 1) := by decide +kernel
theorem dX12_matchingWithin_8 : decode cX12_matchingWithin 8 = .ok (.iload_n 1, 1) := by decide +kernel
theorem dX12_matchingWithin_9 : decode cX12_matchingWithin 9 = .ok (.iload_n 2, 1) := by decide +kernel
theorem dX12_matchingWithin_10 : decode cX12_matchingWithin 10 = .ok (.ishr, 1) := by decide +kernel
theorem dX12_matchingWithin_11 : decode cX12_matchingWithin 11 = .ok (.iconst 1, 1) := by decide +kernel
theorem dX12_matchingWithin_12 : decode cX12_matchingWithin 12 = .ok (.iand, 1) := by decide +kernel
theorem dX12_matchingWithin_13 : decode cX12_matchingWithin 13 = .ok (.ifCond .ne 9, 3) := by decide +kernel
theorem dX12_matchingWithin_16 : decode cX12_matchingWithin 16 = .ok (.iinc 2 1, 3) := by decide +kernel
theorem dX12_matchingWithin_19 : decode cX12_matchingWithin 19 = .ok (.goto (-11), 3) := by decide +kernel
theorem dX12_matchingWithin_22 : decode cX12_matchingWithin 22 = .ok (.iload_n 1, 1) := by decide +kernel
theorem dX12_matchingWithin_23 : decode cX12_matchingWithin 23 = .ok (.iconst 1, 1) := by decide +kernel
theorem dX12_matchingWithin_24 : decode cX12_matchingWithin 24 = .ok (.iload_n 2, 1) := by decide +kernel
theorem dX12_matchingWithin_25 : decode cX12_matchingWithin 25 = .ok (.ishl, 1) := by decide +kernel
theorem dX12_matchingWithin_26 : decode cX12_matchingWithin 26 = .ok (.iconst (-1), 1) := by decide +kernel
theorem dX12_matchingWithin_27 : decode cX12_matchingWithin 27 = .ok (.ixor, 1) := by decide +kernel
theorem dX12_matchingWithin_28 : decode cX12_matchingWithin 28 = .ok (.iand, 1) := by decide +kernel
theorem dX12_matchingWithin_29 : decode cX12_matchingWithin 29 = .ok (.istore_n 3, 1) := by decide +kernel
theorem dX12_matchingWithin_30 : decode cX12_matchingWithin 30 = .ok (.aload_n 0, 1) := by decide +kernel
theorem dX12_matchingWithin_31 : decode cX12_matchingWithin 31 = .ok (.iload_n 3, 1) := by decide +kernel
theorem dX12_matchingWithin_32 : decode cX12_matchingWithin 32 = .ok (.invokevirtual 119, 3) := by decide +kernel
theorem dX12_matchingWithin_35 : decode cX12_matchingWithin 35 = .ok (.istore 4, 2) := by decide +kernel
theorem dX12_matchingWithin_37 : decode cX12_matchingWithin 37 = .ok (.iconst 0, 1) := by decide +kernel
theorem dX12_matchingWithin_38 : decode cX12_matchingWithin 38 = .ok (.istore 5, 2) := by decide +kernel
theorem dX12_matchingWithin_40 : decode cX12_matchingWithin 40 = .ok (.iload 5, 2) := by decide +kernel
theorem dX12_matchingWithin_42 : decode cX12_matchingWithin 42 = .ok (.aload_n 0, 1) := by decide +kernel
theorem dX12_matchingWithin_43 : decode cX12_matchingWithin 43 = .ok (.getfield 9, 3) := by decide +kernel
theorem dX12_matchingWithin_46 : decode cX12_matchingWithin 46 = .ok (.if_icmp .ge 57, 3) := by decide +kernel
theorem dX12_matchingWithin_49 : decode cX12_matchingWithin 49 = .ok (.iload_n 3, 1) := by decide +kernel
theorem dX12_matchingWithin_50 : decode cX12_matchingWithin 50 = .ok (.aload_n 0, 1) := by decide +kernel
theorem dX12_matchingWithin_51 : decode cX12_matchingWithin 51 = .ok (.getfield 15, 3) := by decide +kernel
theorem dX12_matchingWithin_54 : decode cX12_matchingWithin 54 = .ok (.iload_n 2, 1) := by decide +kernel
theorem dX12_matchingWithin_55 : decode cX12_matchingWithin 55 = .ok (.iaload, 1) := by decide +kernel
theorem dX12_matchingWithin_56 : decode cX12_matchingWithin 56 = .ok (.iand, 1) := by decide +kernel
theorem dX12_matchingWithin_57 : decode cX12_matchingWithin 57 = .ok (.iconst 1, 1) := by decide +kernel
theorem dX12_matchingWithin_58 : decode cX12_matchingWithin 58 = .ok (.iload 5, 2) := by decide +kernel
theorem dX12_matchingWithin_60 : decode cX12_matchingWithin 60 = .ok (.ishl, 1) := by decide +kernel
theorem dX12_matchingWithin_61 : decode cX12_matchingWithin 61 = .ok (.iand, 1) := by decide +kernel
theorem dX12_matchingWithin_62 : decode cX12_matchingWithin 62 = .ok (.ifCond .eq 35, 3) := by decide +kernel
theorem dX12_matchingWithin_65 : decode cX12_matchingWithin 65 = .ok (.iconst 1, 1) := by decide +kernel
theorem dX12_matchingWithin_66 : decode cX12_matchingWithin 66 = .ok (.aload_n 0, 1) := by decide +kernel
theorem dX12_matchingWithin_67 : decode cX12_matchingWithin 67 = .ok (.iload_n 3, 1) := by decide +kernel
theorem dX12_matchingWithin_68 : decode cX12_matchingWithin 68 = .ok (.iconst 1, 1) := by decide +kernel
theorem dX12_matchingWithin_69 : decode cX12_matchingWithin 69 = .ok (.iload 5, 2) := by decide +kernel
theorem dX12_matchingWithin_71 : decode cX12_matchingWithin 71 = .ok (.ishl, 1) := by decide +kernel
theorem dX12_matchingWithin_72 : decode cX12_matchingWithin 72 = .ok (.iconst (-1), 1) := by decide +kernel
theorem dX12_matchingWithin_73 : decode cX12_matchingWithin 73 = .ok (.ixor, 1) := by decide +kernel
theorem dX12_matchingWithin_74 : decode cX12_matchingWithin 74 = .ok (.iand, 1) := by decide +kernel
theorem dX12_matchingWithin_75 : decode cX12_matchingWithin 75 = .ok (.invokevirtual 119, 3) := by decide +kernel
theorem dX12_matchingWithin_78 : decode cX12_matchingWithin 78 = .ok (.iadd, 1) := by decide +kernel
theorem dX12_matchingWithin_79 : decode cX12_matchingWithin 79 = .ok (.istore 6, 2) := by decide +kernel
theorem dX12_matchingWithin_81 : decode cX12_matchingWithin 81 = .ok (.iload 6, 2) := by decide +kernel
theorem dX12_matchingWithin_83 : decode cX12_matchingWithin 83 = .ok (.iload 4, 2) := by decide +kernel
theorem dX12_matchingWithin_85 : decode cX12_matchingWithin 85 = .ok (.if_icmp .le 8, 3) := by decide +kernel
theorem dX12_matchingWithin_88 : decode cX12_matchingWithin 88 = .ok (.iload 6, 2) := by decide +kernel
theorem dX12_matchingWithin_90 : decode cX12_matchingWithin 90 = .ok (.goto 5, 3) := by decide +kernel
theorem dX12_matchingWithin_93 : decode cX12_matchingWithin 93 = .ok (.iload 4, 2) := by decide +kernel
theorem dX12_matchingWithin_95 : decode cX12_matchingWithin 95 = .ok (.istore 4, 2) := by decide +kernel
theorem dX12_matchingWithin_97 : decode cX12_matchingWithin 97 = .ok (.iinc 5 1, 3) := by decide +kernel
theorem dX12_matchingWithin_100 : decode cX12_matchingWithin 100 = .ok (.goto (-60), 3) := by decide +kernel
theorem dX12_matchingWithin_103 : decode cX12_matchingWithin 103 = .ok (.iload 4, 2) := by decide +kernel
theorem dX12_matchingWithin_105 : decode cX12_matchingWithin 105 = .ok (.ireturn, 1) := by decide +kernel
theorem dX12_matchingNumber_0 : decode cX12_matchingNumber 0 = .ok (.aload_n 0, 1) := by decide +kernel
theorem dX12_matchingNumber_1 : decode cX12_matchingNumber 1 = .ok (.aload_n 0, 1) := by decide +kernel
theorem dX12_matchingNumber_2 : decode cX12_matchingNumber 2 = .ok (.invokevirtual 116, 3) := by decide +kernel
theorem dX12_matchingNumber_5 : decode cX12_matchingNumber 5 = .ok (.invokevirtual 119, 3) := by decide +kernel
theorem dX12_matchingNumber_8 : decode cX12_matchingNumber 8 = .ok (.ireturn, 1) := by decide +kernel
theorem dX12_isCover_0 : decode cX12_isCover 0 = .ok (.iconst 0, 1) := by decide +kernel
theorem dX12_isCover_1 : decode cX12_isCover 1 = .ok (.istore_n 2, 1) := by decide +kernel
theorem dX12_isCover_2 : decode cX12_isCover 2 = .ok (.iload_n 2, 1) := by decide +kernel
theorem dX12_isCover_3 : decode cX12_isCover 3 = .ok (.aload_n 0, 1) := by decide +kernel
theorem dX12_isCover_4 : decode cX12_isCover 4 = .ok (.getfield 9, 3) := by decide +kernel
theorem dX12_isCover_7 : decode cX12_isCover 7 = .ok (.if_icmp .ge 32, 3) := by decide +kernel
theorem dX12_isCover_10 : decode cX12_isCover 10 = .ok (.iload_n 1, 1) := by decide +kernel
theorem dX12_isCover_11 : decode cX12_isCover 11 = .ok (.iload_n 2, 1) := by decide +kernel
theorem dX12_isCover_12 : decode cX12_isCover 12 = .ok (.ishr, 1) := by decide +kernel
theorem dX12_isCover_13 : decode cX12_isCover 13 = .ok (.iconst 1, 1) := by decide +kernel
theorem dX12_isCover_14 : decode cX12_isCover 14 = .ok (.iand, 1) := by decide +kernel
theorem dX12_isCover_15 : decode cX12_isCover 15 = .ok (.ifCond .ne 18, 3) := by decide +kernel
theorem dX12_isCover_18 : decode cX12_isCover 18 = .ok (.aload_n 0, 1) := by decide +kernel
theorem dX12_isCover_19 : decode cX12_isCover 19 = .ok (.getfield 15, 3) := by decide +kernel
theorem dX12_isCover_22 : decode cX12_isCover 22 = .ok (.iload_n 2, 1) := by decide +kernel
theorem dX12_isCover_23 : decode cX12_isCover 23 = .ok (.iaload, 1) := by decide +kernel
theorem dX12_isCover_24 : decode cX12_isCover 24 = .ok (.iload_n 1, 1) := by decide +kernel
theorem dX12_isCover_25 : decode cX12_isCover 25 = .ok (.iconst (-1), 1) := by decide +kernel
theorem dX12_isCover_26 : decode cX12_isCover 26 = .ok (.ixor, 1) := by decide +kernel
theorem dX12_isCover_27 : decode cX12_isCover 27 = .ok (.iand, 1) := by decide +kernel
theorem dX12_isCover_28 : decode cX12_isCover 28 = .ok (.ifCond .eq 5, 3) := by decide +kernel
theorem dX12_isCover_31 : decode cX12_isCover 31 = .ok (.iconst 0, 1) := by decide +kernel
theorem dX12_isCover_32 : decode cX12_isCover 32 = .ok (.ireturn, 1) := by decide +kernel
theorem dX12_isCover_33 : decode cX12_isCover 33 = .ok (.iinc 2 1, 3) := by decide +kernel
theorem dX12_isCover_36 : decode cX12_isCover 36 = .ok (.goto (-34), 3) := by decide +kernel
theorem dX12_isCover_39 : decode cX12_isCover 39 = .ok (.iconst 1, 1) := by decide +kernel
theorem dX12_isCover_40 : decode cX12_isCover 40 = .ok (.ireturn, 1) := by decide +kernel
theorem dX12_isMinimalCover_0 : decode cX12_isMinimalCover 0 = .ok (.aload_n 0, 1) := by decide +kernel
theorem dX12_isMinimalCover_1 : decode cX12_isMinimalCover 1 = .ok (.iload_n 1, 1) := by decide +kernel
theorem dX12_isMinimalCover_2 : decode cX12_isMinimalCover 2 = .ok (.invokevirtual 122, 3) := by decide +kernel
theorem dX12_isMinimalCover_5 : decode cX12_isMinimalCover 5 = .ok (.ifCond .ne 5, 3) := by decide +kernel
theorem dX12_isMinimalCover_8 : decode cX12_isMinimalCover 8 = .ok (.iconst 0, 1) := by decide +kernel
theorem dX12_isMinimalCover_9 : decode cX12_isMinimalCover 9 = .ok (.ireturn, 1) := by decide +kernel
theorem dX12_isMinimalCover_10 : decode cX12_isMinimalCover 10 = .ok (.iconst 0, 1) := by decide +kernel
theorem dX12_isMinimalCover_11 : decode cX12_isMinimalCover 11 = .ok (.istore_n 2, 1) := by decide +kernel
theorem dX12_isMinimalCover_12 : decode cX12_isMinimalCover 12 = .ok (.iload_n 2, 1) := by decide +kernel
theorem dX12_isMinimalCover_13 : decode cX12_isMinimalCover 13 = .ok (.aload_n 0, 1) := by decide +kernel
theorem dX12_isMinimalCover_14 : decode cX12_isMinimalCover 14 = .ok (.getfield 9, 3) := by decide +kernel
theorem dX12_isMinimalCover_17 : decode cX12_isMinimalCover 17 = .ok (.if_icmp .ge 34, 3) := by decide +kernel
theorem dX12_isMinimalCover_20 : decode cX12_isMinimalCover 20 = .ok (.iload_n 1, 1) := by decide +kernel
theorem dX12_isMinimalCover_21 : decode cX12_isMinimalCover 21 = .ok (.iload_n 2, 1) := by decide +kernel
theorem dX12_isMinimalCover_22 : decode cX12_isMinimalCover 22 = .ok (.ishr, 1) := by decide +kernel
theorem dX12_isMinimalCover_23 : decode cX12_isMinimalCover 23 = .ok (.iconst 1, 1) := by decide +kernel
theorem dX12_isMinimalCover_24 : decode cX12_isMinimalCover 24 = .ok (.iand, 1) := by decide +kernel
theorem dX12_isMinimalCover_25 : decode cX12_isMinimalCover 25 = .ok (.iconst 1, 1) := by decide +kernel
theorem dX12_isMinimalCover_26 : decode cX12_isMinimalCover 26 = .ok (.if_icmp .ne 19, 3) := by decide +kernel
theorem dX12_isMinimalCover_29 : decode cX12_isMinimalCover 29 = .ok (.aload_n 0, 1) := by decide +kernel
theorem dX12_isMinimalCover_30 : decode cX12_isMinimalCover 30 = .ok (.iload_n 1, 1) := by decide +kernel
theorem dX12_isMinimalCover_31 : decode cX12_isMinimalCover 31 = .ok (.iconst 1, 1) := by decide +kernel
theorem dX12_isMinimalCover_32 : decode cX12_isMinimalCover 32 = .ok (.iload_n 2, 1) := by decide +kernel
theorem dX12_isMinimalCover_33 : decode cX12_isMinimalCover 33 = .ok (.ishl, 1) := by decide +kernel
theorem dX12_isMinimalCover_34 : decode cX12_isMinimalCover 34 = .ok (.iconst (-1), 1) := by decide +kernel
theorem dX12_isMinimalCover_35 : decode cX12_isMinimalCover 35 = .ok (.ixor, 1) := by decide +kernel
theorem dX12_isMinimalCover_36 : decode cX12_isMinimalCover 36 = .ok (.iand, 1) := by decide +kernel
theorem dX12_isMinimalCover_37 : decode cX12_isMinimalCover 37 = .ok (.invokevirtual 122, 3) := by decide +kernel
theorem dX12_isMinimalCover_40 : decode cX12_isMinimalCover 40 = .ok (.ifCond .eq 5, 3) := by decide +kernel
theorem dX12_isMinimalCover_43 : decode cX12_isMinimalCover 43 = .ok (.iconst 0, 1) := by decide +kernel
theorem dX12_isMinimalCover_44 : decode cX12_isMinimalCover 44 = .ok (.ireturn, 1) := by decide +kernel
theorem dX12_isMinimalCover_45 : decode cX12_isMinimalCover 45 = .ok (.iinc 2 1, 3) := by decide +kernel
theorem dX12_isMinimalCover_48 : decode cX12_isMinimalCover 48 = .ok (.goto (-36), 3) := by decide +kernel
theorem dX12_isMinimalCover_51 : decode cX12_isMinimalCover 51 = .ok (.iconst 1, 1) := by decide +kernel
theorem dX12_isMinimalCover_52 : decode cX12_isMinimalCover 52 = .ok (.ireturn, 1) := by decide +kernel
theorem dX12_codeCount_0 : decode cX12_codeCount 0 = .ok (.iconst 1, 1) := by decide +kernel
theorem dX12_codeCount_1 : decode cX12_codeCount 1 = .ok (.iconst 2, 1) := by decide +kernel
theorem dX12_codeCount_2 : decode cX12_codeCount 2 = .ok (.aload_n 0, 1) := by decide +kernel
theorem dX12_codeCount_3 : decode cX12_codeCount 3 = .ok (.getfield 9, 3) := by decide +kernel
theorem dX12_codeCount_6 : decode cX12_codeCount 6 = .ok (.imul, 1) := by decide +kernel
theorem dX12_codeCount_7 : decode cX12_codeCount 7 = .ok (.ishl, 1) := by decide +kernel
theorem dX12_codeCount_8 : decode cX12_codeCount 8 = .ok (.ireturn, 1) := by decide +kernel
theorem dX12_isCode_0 : decode cX12_isCode 0 = .ok (.iload_n 1, 1) := by decide +kernel
theorem dX12_isCode_1 : decode cX12_isCode 1 = .ok (.i2l, 1) := by decide +kernel
theorem dX12_isCode_2 : decode cX12_isCode 2 = .ok (.lconst 0, 1) := by decide +kernel
theorem dX12_isCode_3 : decode cX12_isCode 3 = .ok (.aload_n 0, 1) := by decide +kernel
theorem dX12_isCode_4 : decode cX12_isCode 4 = .ok (.invokevirtual 125, 3) := by decide +kernel
theorem dX12_isCode_7 : decode cX12_isCode 7 = .ok (.iconst 1, 1) := by decide +kernel
theorem dX12_isCode_8 : decode cX12_isCode 8 = .ok (.isub, 1) := by decide +kernel
theorem dX12_isCode_9 : decode cX12_isCode 9 = .ok (.i2l, 1) := by decide +kernel
theorem dX12_isCode_10 : decode cX12_isCode 10 = .ok (.invokestatic 79, 3) := by decide +kernel
theorem dX12_isCode_13 : decode cX12_isCode 13 = .ok (.ireturn, 1) := by decide +kernel
theorem dX12_exponentOf_0 : decode cX12_exponentOf 0 = .ok (.iload_n 0, 1) := by decide +kernel
theorem dX12_exponentOf_1 : decode cX12_exponentOf 1 = .ok (.iconst 2, 1) := by decide +kernel
theorem dX12_exponentOf_2 : decode cX12_exponentOf 2 = .ok (.iload_n 1, 1) := by decide +kernel
theorem dX12_exponentOf_3 : decode cX12_exponentOf 3 = .ok (.imul, 1) := by decide +kernel
theorem dX12_exponentOf_4 : decode cX12_exponentOf 4 = .ok (.ishr, 1) := by decide +kernel
theorem dX12_exponentOf_5 : decode cX12_exponentOf 5 = .ok (.iconst 3, 1) := by decide +kernel
theorem dX12_exponentOf_6 : decode cX12_exponentOf 6 = .ok (.iand, 1) := by decide +kernel
theorem dX12_exponentOf_7 : decode cX12_exponentOf 7 = .ok (.ireturn, 1) := by decide +kernel
theorem dX12_findPowerOrder_0 : decode cX12_findPowerOrder 0 = .ok (.iconst 0, 1) := by decide +kernel
theorem dX12_findPowerOrder_1 : decode cX12_findPowerOrder 1 = .ok (.istore_n 2, 1) := by decide +kernel
theorem dX12_findPowerOrder_2 : decode cX12_findPowerOrder 2 = .ok (.iconst 0, 1) := by decide +kernel
theorem dX12_findPowerOrder_3 : decode cX12_findPowerOrder 3 = .ok (.istore_n 3, 1) := by decide +kernel
theorem dX12_findPowerOrder_4 : decode cX12_findPowerOrder 4 = .ok (.iload_n 3, 1) := by decide +kernel
theorem dX12_findPowerOrder_5 : decode cX12_findPowerOrder 5 = .ok (.aload_n 0, 1) := by decide +kernel
theorem dX12_findPowerOrder_6 : decode cX12_findPowerOrder 6 = .ok (.getfield 9, 3) := by decide +kernel
theorem dX12_findPowerOrder_9 : decode cX12_findPowerOrder 9 = .ok (.if_icmp .ge 92, 3) := by decide +kernel
theorem dX12_findPowerOrder_12 : decode cX12_findPowerOrder 12 = .ok (.iload_n 3, 1) := by decide +kernel
theorem dX12_findPowerOrder_13 : decode cX12_findPowerOrder 13 = .ok (.iconst 1, 1) := by decide +kernel
theorem dX12_findPowerOrder_14 : decode cX12_findPowerOrder 14 = .ok (.iadd, 1) := by decide +kernel
theorem dX12_findPowerOrder_15 : decode cX12_findPowerOrder 15 = .ok (.istore 4, 2) := by decide +kernel
theorem dX12_findPowerOrder_17 : decode cX12_findPowerOrder 17 = .ok (.iload 4, 2) := by decide +kernel
theorem dX12_findPowerOrder_19 : decode cX12_findPowerOrder 19 = .ok (.aload_n 0, 1) := by decide +kernel
theorem dX12_findPowerOrder_20 : decode cX12_findPowerOrder 20 = .ok (.getfield 9, 3) := by decide +kernel
theorem dX12_findPowerOrder_23 : decode cX12_findPowerOrder 23 = .ok (.if_icmp .ge 72, 3) := by decide +kernel
theorem dX12_findPowerOrder_26 : decode cX12_findPowerOrder 26 = .ok (.aload_n 0, 1) := by decide +kernel
theorem dX12_findPowerOrder_27 : decode cX12_findPowerOrder 27 = .ok (.iload_n 3, 1) := by decide +kernel
theorem dX12_findPowerOrder_28 : decode cX12_findPowerOrder 28 = .ok (.iload 4, 2) := by decide +kernel
theorem dX12_findPowerOrder_30 : decode cX12_findPowerOrder 30 = .ok (.invokevirtual 95, 3) := by decide +kernel
theorem dX12_findPowerOrder_33 : decode cX12_findPowerOrder 33 = .ok (.ifCond .eq 56, 3) := by decide +kernel
theorem dX12_findPowerOrder_36 : decode cX12_findPowerOrder 36 = .ok (.iload_n 1, 1) := by decide +kernel
theorem dX12_findPowerOrder_37 : decode cX12_findPowerOrder 37 = .ok (.iload_n 3, 1) := by decide +kernel
theorem dX12_findPowerOrder_38 : decode cX12_findPowerOrder 38 = .ok (.invokestatic 128, 3) := by decide +kernel
theorem dX12_findPowerOrder_41 : decode cX12_findPowerOrder 41 = .ok (.ifCond .le 48, 3) := by decide +kernel
theorem dX12_findPowerOrder_44 : decode cX12_findPowerOrder 44 = .ok (.iload_n 1, 1) := by decide +kernel
theorem dX12_findPowerOrder_45 : decode cX12_findPowerOrder 45 = .ok (.iload 4, 2) := by decide +kernel
theorem dX12_findPowerOrder_47 : decode cX12_findPowerOrder 47 = .ok (.invokestatic 128, 3) := by decide +kernel
theorem dX12_findPowerOrder_50 : decode cX12_findPowerOrder 50 = .ok (.ifCond .le 39, 3) := by decide +kernel
theorem dX12_findPowerOrder_53 : decode cX12_findPowerOrder 53 = .ok (.iconst 1, 1) := by decide +kernel
theorem dX12_findPowerOrder_54 : decode cX12_findPowerOrder 54 = .ok (.aload_n 0, 1) := by decide +kernel
theorem dX12_findPowerOrder_55 : decode cX12_findPowerOrder 55 = .ok (.getfield 32, 3) := by decide +kernel
theorem dX12_findPowerOrder_58 : decode cX12_findPowerOrder 58 = .ok (.iload_n 1, 1) := by decide +kernel
theorem dX12_findPowerOrder_59 : decode cX12_findPowerOrder 59 = .ok (.iconst 1, 1) := by decide +kernel
theorem dX12_findPowerOrder_60 : decode cX12_findPowerOrder 60 = .ok (.iconst 2, 1) := by decide +kernel
theorem dX12_findPowerOrder_61 : decode cX12_findPowerOrder 61 = .ok (.iload_n 3, 1) := by decide +kernel
theorem dX12_findPowerOrder_62 : decode cX12_findPowerOrder 62 = .ok (.imul, 1) := by decide +kernel
theorem dX12_findPowerOrder_63 : decode cX12_findPowerOrder 63 = .ok (.ishl, 1) := by decide +kernel
theorem dX12_findPowerOrder_64 : decode cX12_findPowerOrder 64 = .ok (.isub, 1) := by decide +kernel
theorem dX12_findPowerOrder_65 : decode cX12_findPowerOrder 65 = .ok (.iconst 1, 1) := by decide +kernel
theorem dX12_findPowerOrder_66 : decode cX12_findPowerOrder 66 = .ok (.iconst 2, 1) := by decide +kernel
theorem dX12_findPowerOrder_67 : decode cX12_findPowerOrder 67 = .ok (.iload 4, 2) := by decide +kernel
theorem dX12_findPowerOrder_69 : decode cX12_findPowerOrder 69 = .ok (.imul, 1) := by decide +kernel
theorem dX12_findPowerOrder_70 : decode cX12_findPowerOrder 70 = .ok (.ishl, 1) := by decide +kernel
theorem dX12_findPowerOrder_71 : decode cX12_findPowerOrder 71 = .ok (.isub, 1) := by decide +kernel
theorem dX12_findPowerOrder_72 : decode cX12_findPowerOrder 72 = .ok (.iaload, 1) := by decide +kernel
theorem dX12_findPowerOrder_73 : decode cX12_findPowerOrder 73 = .ok (.iadd, 1) := by decide +kernel
theorem dX12_findPowerOrder_74 : decode cX12_findPowerOrder 74 = .ok (.istore 5, 2) := by decide +kernel
theorem dX12_findPowerOrder_76 : decode cX12_findPowerOrder 76 = .ok (.iload 5, 2) := by decide +kernel
theorem dX12_findPowerOrder_78 : decode cX12_findPowerOrder 78 = .ok (.iload_n 2, 1) := by decide +kernel
theorem dX12_findPowerOrder_79 : decode cX12_findPowerOrder 79 = .ok (.if_icmp .le 8, 3) := by decide +kernel
theorem dX12_findPowerOrder_82 : decode cX12_findPowerOrder 82 = .ok (.iload 5, 2) := by decide +kernel
theorem dX12_findPowerOrder_84 : decode cX12_findPowerOrder 84 = .ok (.goto 4, 3) := by decide +kernel
theorem dX12_findPowerOrder_87 : decode cX12_findPowerOrder 87 = .ok (.iload_n 2, 1) := by decide +kernel
theorem dX12_findPowerOrder_88 : decode cX12_findPowerOrder 88 = .ok (.istore_n 2, 1) := by decide +kernel
theorem dX12_findPowerOrder_89 : decode cX12_findPowerOrder 89 = .ok (.iinc 4 1, 3) := by decide +kernel
theorem dX12_findPowerOrder_92 : decode cX12_findPowerOrder 92 = .ok (.goto (-75), 3) := by decide +kernel
theorem dX12_findPowerOrder_95 : decode cX12_findPowerOrder 95 = .ok (.iinc 3 1, 3) := by decide +kernel
theorem dX12_findPowerOrder_98 : decode cX12_findPowerOrder 98 = .ok (.goto (-94), 3) := by decide +kernel
theorem dX12_findPowerOrder_101 : decode cX12_findPowerOrder 101 = .ok (.iload_n 2, 1) := by decide +kernel
theorem dX12_findPowerOrder_102 : decode cX12_findPowerOrder 102 = .ok (.ireturn, 1) := by decide +kernel
theorem dX12_findSymbolicOrder_0 : decode cX12_findSymbolicOrder 0 = .ok (.iconst (-1), 1) := by decide +kernel
theorem dX12_findSymbolicOrder_1 : decode cX12_findSymbolicOrder 1 = .ok (.istore_n 2, 1) := by decide +kernel
theorem dX12_findSymbolicOrder_2 : decode cX12_findSymbolicOrder 2 = .ok (.iconst 0, 1) := by decide +kernel
theorem dX12_findSymbolicOrder_3 : decode cX12_findSymbolicOrder 3 = .ok (.istore_n 3, 1) := by decide +kernel
theorem dX12_findSymbolicOrder_4 : decode cX12_findSymbolicOrder 4 = .ok (.iload_n 3, 1) := by decide +kernel
theorem dX12_findSymbolicOrder_5 : decode cX12_findSymbolicOrder 5 = .ok (.aload_n 0, 1) := by decide +kernel
theorem dX12_findSymbolicOrder_6 : decode cX12_findSymbolicOrder 6 = .ok (.getfield 132, 3) := by decide +kernel
theorem dX12_findSymbolicOrder_9 : decode cX12_findSymbolicOrder 9 = .ok (.if_icmp .ge 70, 3) := by decide +kernel
theorem dX12_findSymbolicOrder_12 : decode cX12_findSymbolicOrder 12 = .ok (.iconst 0, 1) := by decide +kernel
theorem dX12_findSymbolicOrder_13 : decode cX12_findSymbolicOrder 13 = .ok (.istore 4, 2) := by decide +kernel
theorem dX12_findSymbolicOrder_15 : decode cX12_findSymbolicOrder 15 = .ok (.iconst 0, 1) := by decide +kernel
theorem dX12_findSymbolicOrder_16 : decode cX12_findSymbolicOrder 16 = .ok (.istore 5, 2) := by decide +kernel
theorem dX12_findSymbolicOrder_18 : decode cX12_findSymbolicOrder 18 = .ok (.iload 5, 2) := by decide +kernel
theorem dX12_findSymbolicOrder_20 : decode cX12_findSymbolicOrder 20 = .ok (.aload_n 0, 1) := by decide +kernel
theorem dX12_findSymbolicOrder_21 : decode cX12_findSymbolicOrder 21 = .ok (.getfield 9, 3) := by decide +kernel
theorem dX12_findSymbolicOrder_24 : decode cX12_findSymbolicOrder 24 = .ok (.if_icmp .ge 32, 3) := by decide +kernel
theorem dX12_findSymbolicOrder_27 : decode cX12_findSymbolicOrder 27 = .ok (.iload 4, 2) := by decide +kernel
theorem dX12_findSymbolicOrder_29 : decode cX12_findSymbolicOrder 29 = .ok (.aload_n 0, 1) := by decide +kernel
theorem dX12_findSymbolicOrder_30 : decode cX12_findSymbolicOrder 30 = .ok (.getfield 29, 3) := by decide +kernel
theorem dX12_findSymbolicOrder_33 : decode cX12_findSymbolicOrder 33 = .ok (.iload_n 3, 1) := by decide +kernel
theorem dX12_findSymbolicOrder_34 : decode cX12_findSymbolicOrder 34 = .ok (.iaload, 1) := by decide +kernel
theorem dX12_findSymbolicOrder_35 : decode cX12_findSymbolicOrder 35 = .ok (.iload 5, 2) := by decide +kernel
theorem dX12_findSymbolicOrder_37 : decode cX12_findSymbolicOrder 37 = .ok (.ishr, 1) := by decide +kernel
theorem dX12_findSymbolicOrder_38 : decode cX12_findSymbolicOrder 38 = .ok (.iconst 1, 1) := by decide +kernel
theorem dX12_findSymbolicOrder_39 : decode cX12_findSymbolicOrder 39 = .ok (.iand, 1) := by decide +kernel
theorem dX12_findSymbolicOrder_40 : decode cX12_findSymbolicOrder 40 = .ok (.iload_n 1, 1) := by decide +kernel
theorem dX12_findSymbolicOrder_41 : decode cX12_findSymbolicOrder 41 = .ok (.iload 5, 2) := by decide +kernel
theorem dX12_findSymbolicOrder_43 : decode cX12_findSymbolicOrder 43 = .ok (.invokestatic 128, 3) := by decide +kernel
theorem dX12_findSymbolicOrder_46 : decode cX12_findSymbolicOrder 46 = .ok (.imul, 1) := by decide +kernel
theorem dX12_findSymbolicOrder_47 : decode cX12_findSymbolicOrder 47 = .ok (.iadd, 1) := by decide +kernel
theorem dX12_findSymbolicOrder_48 : decode cX12_findSymbolicOrder 48 = .ok (.istore 4, 2) := by decide +kernel
theorem dX12_findSymbolicOrder_50 : decode cX12_findSymbolicOrder 50 = .ok (.iinc 5 1, 3) := by decide +kernel
theorem dX12_findSymbolicOrder_53 : decode cX12_findSymbolicOrder 53 = .ok (.goto (-35), 3) := by decide +kernel
theorem dX12_findSymbolicOrder_56 : decode cX12_findSymbolicOrder 56 = .ok (.iload_n 2, 1) := by decide +kernel
theorem dX12_findSymbolicOrder_57 : decode cX12_findSymbolicOrder 57 = .ok (.ifCond .lt 9, 3) := by decide +kernel
theorem dX12_findSymbolicOrder_60 : decode cX12_findSymbolicOrder 60 = .ok (.iload 4, 2) := by decide +kernel
theorem dX12_findSymbolicOrder_62 : decode cX12_findSymbolicOrder 62 = .ok (.iload_n 2, 1) := by decide +kernel
theorem dX12_findSymbolicOrder_63 : decode cX12_findSymbolicOrder 63 = .ok (.if_icmp .ge 8, 3) := by decide +kernel
theorem dX12_findSymbolicOrder_66 : decode cX12_findSymbolicOrder 66 = .ok (.iload 4, 2) := by decide +kernel
theorem dX12_findSymbolicOrder_68 : decode cX12_findSymbolicOrder 68 = .ok (.goto 4, 3) := by decide +kernel
theorem dX12_findSymbolicOrder_71 : decode cX12_findSymbolicOrder 71 = .ok (.iload_n 2, 1) := by decide +kernel
theorem dX12_findSymbolicOrder_72 : decode cX12_findSymbolicOrder 72 = .ok (.istore_n 2, 1) := by decide +kernel
theorem dX12_findSymbolicOrder_73 : decode cX12_findSymbolicOrder 73 = .ok (.iinc 3 1, 3) := by decide +kernel
theorem dX12_findSymbolicOrder_76 : decode cX12_findSymbolicOrder 76 = .ok (.goto (-72), 3) := by decide +kernel
theorem dX12_findSymbolicOrder_79 : decode cX12_findSymbolicOrder 79 = .ok (.iload_n 2, 1) := by decide +kernel
theorem dX12_findSymbolicOrder_80 : decode cX12_findSymbolicOrder 80 = .ok (.ireturn, 1) := by decide +kernel
theorem dX12_update_0 : decode cX12_update 0 = .ok (.aload_n 0, 1) := by decide +kernel
theorem dX12_update_1 : decode cX12_update 1 = .ok (.getfield 25, 3) := by decide +kernel
theorem dX12_update_4 : decode cX12_update 4 = .ok (.ifCond .ne 4, 3) := by decide +kernel
theorem dX12_update_7 : decode cX12_update 7 = .ok (.return_, 1) := by decide +kernel
theorem dX12_update_8 : decode cX12_update 8 = .ok (.aload_n 0, 1) := by decide +kernel
theorem dX12_update_9 : decode cX12_update 9 = .ok (.iconst 0, 1) := by decide +kernel
theorem dX12_update_10 : decode cX12_update 10 = .ok (.putfield 25, 3) := by decide +kernel
theorem dX12_update_13 : decode cX12_update 13 = .ok (.aload_n 0, 1) := by decide +kernel
theorem dX12_update_14 : decode cX12_update 14 = .ok (.iconst 0, 1) := by decide +kernel
theorem dX12_update_15 : decode cX12_update 15 = .ok (.putfield 132, 3) := by decide +kernel
theorem dX12_update_18 : decode cX12_update 18 = .ok (.iconst 0, 1) := by decide +kernel
theorem dX12_update_19 : decode cX12_update 19 = .ok (.istore_n 1, 1) := by decide +kernel
theorem dX12_update_20 : decode cX12_update 20 = .ok (.iload_n 1, 1) := by decide +kernel
theorem dX12_update_21 : decode cX12_update 21 = .ok (.aload_n 0, 1) := by decide +kernel
theorem dX12_update_22 : decode cX12_update 22 = .ok (.invokevirtual 116, 3) := by decide +kernel
theorem dX12_update_25 : decode cX12_update 25 = .ok (.if_icmp .gt 37, 3) := by decide +kernel
theorem dX12_update_28 : decode cX12_update 28 = .ok (.aload_n 0, 1) := by decide +kernel
theorem dX12_update_29 : decode cX12_update 29 = .ok (.iload_n 1, 1) := by decide +kernel
theorem dX12_update_30 : decode cX12_update 30 = .ok (.invokevirtual 135, 3) := by decide +kernel
theorem dX12_update_33 : decode cX12_update 33 = .ok (.ifCond .eq 23, 3) := by decide +kernel
theorem dX12_update_36 : decode cX12_update 36 = .ok (.aload_n 0, 1) := by decide +kernel
theorem dX12_update_37 : decode cX12_update 37 = .ok (.getfield 29, 3) := by decide +kernel
theorem dX12_update_40 : decode cX12_update 40 = .ok (.aload_n 0, 1) := by decide +kernel
theorem dX12_update_41 : decode cX12_update 41 = .ok (.getfield 132, 3) := by decide +kernel
theorem dX12_update_44 : decode cX12_update 44 = .ok (.iload_n 1, 1) := by decide +kernel
theorem dX12_update_45 : decode cX12_update 45 = .ok (.iastore, 1) := by decide +kernel
theorem dX12_update_46 : decode cX12_update 46 = .ok (.aload_n 0, 1) := by decide +kernel
theorem dX12_update_47 : decode cX12_update 47 = .ok (.dup, 1) := by decide +kernel
theorem dX12_update_48 : decode cX12_update 48 = .ok (.getfield 132, 3) := by decide +kernel
theorem dX12_update_51 : decode cX12_update 51 = .ok (.iconst 1, 1) := by decide +kernel
theorem dX12_update_52 : decode cX12_update 52 = .ok (.iadd, 1) := by decide +kernel
theorem dX12_update_53 : decode cX12_update 53 = .ok (.putfield 132, 3) := by decide +kernel
theorem dX12_update_56 : decode cX12_update 56 = .ok (.iinc 1 1, 3) := by decide +kernel
theorem dX12_update_59 : decode cX12_update 59 = .ok (.goto (-39), 3) := by decide +kernel
theorem dX12_update_62 : decode cX12_update 62 = .ok (.iconst 0, 1) := by decide +kernel
theorem dX12_update_63 : decode cX12_update 63 = .ok (.istore_n 1, 1) := by decide +kernel
theorem dX12_update_64 : decode cX12_update 64 = .ok (.iload_n 1, 1) := by decide +kernel
theorem dX12_update_65 : decode cX12_update 65 = .ok (.aload_n 0, 1) := by decide +kernel
theorem dX12_update_66 : decode cX12_update 66 = .ok (.invokevirtual 125, 3) := by decide +kernel
theorem dX12_update_69 : decode cX12_update 69 = .ok (.if_icmp .ge 31, 3) := by decide +kernel
theorem dX12_update_72 : decode cX12_update 72 = .ok (.aload_n 0, 1) := by decide +kernel
theorem dX12_update_73 : decode cX12_update 73 = .ok (.getfield 32, 3) := by decide +kernel
theorem dX12_update_76 : decode cX12_update 76 = .ok (.iload_n 1, 1) := by decide +kernel
theorem dX12_update_77 : decode cX12_update 77 = .ok (.aload_n 0, 1) := by decide +kernel
theorem dX12_update_78 : decode cX12_update 78 = .ok (.iload_n 1, 1) := by decide +kernel
theorem dX12_update_79 : decode cX12_update 79 = .ok (.invokevirtual 138, 3) := by decide +kernel
theorem dX12_update_82 : decode cX12_update 82 = .ok (.iastore, 1) := by decide +kernel
theorem dX12_update_83 : decode cX12_update 83 = .ok (.aload_n 0, 1) := by decide +kernel
theorem dX12_update_84 : decode cX12_update 84 = .ok (.getfield 35, 3) := by decide +kernel
theorem dX12_update_87 : decode cX12_update 87 = .ok (.iload_n 1, 1) := by decide +kernel
theorem dX12_update_88 : decode cX12_update 88 = .ok (.aload_n 0, 1) := by decide +kernel
theorem dX12_update_89 : decode cX12_update 89 = .ok (.iload_n 1, 1) := by decide +kernel
theorem dX12_update_90 : decode cX12_update 90 = .ok (.invokevirtual 141, 3) := by decide +kernel
theorem dX12_update_93 : decode cX12_update 93 = .ok (.iastore, 1) := by decide +kernel
theorem dX12_update_94 : decode cX12_update 94 = .ok (.iinc 1 1, 3) := by decide +kernel
theorem dX12_update_97 : decode cX12_update 97 = .ok (.goto (-33), 3) := by decide +kernel
theorem dX12_update_100 : decode cX12_update 100 = .ok (.return_, 1) := by decide +kernel
theorem dX12_coverCount_0 : decode cX12_coverCount 0 = .ok (.aload_n 0, 1) := by decide +kernel
theorem dX12_coverCount_1 : decode cX12_coverCount 1 = .ok (.invokevirtual 144, 3) := by decide +kernel
theorem dX12_coverCount_4 : decode cX12_coverCount 4 = .ok (.aload_n 0, 1) := by decide +kernel
theorem dX12_coverCount_5 : decode cX12_coverCount 5 = .ok (.getfield 132, 3) := by decide +kernel
theorem dX12_coverCount_8 : decode cX12_coverCount 8 = .ok (.ireturn, 1) := by decide +kernel
theorem dX12_cover_0 : decode cX12_cover 0 = .ok (.aload_n 0, 1) := by decide +kernel
theorem dX12_cover_1 : decode cX12_cover 1 = .ok (.invokevirtual 144, 3) := by decide +kernel
theorem dX12_cover_4 : decode cX12_cover 4 = .ok (.iload_n 1, 1) := by decide +kernel
theorem dX12_cover_5 : decode cX12_cover 5 = .ok (.ifCond .ge 7, 3) := by decide +kernel
theorem dX12_cover_8 : decode cX12_cover 8 = .ok (.iconst (-1), 1) := by decide +kernel
theorem dX12_cover_9 : decode cX12_cover 9 = .ok (.goto 22, 3) := by decide +kernel
theorem dX12_cover_12 : decode cX12_cover 12 = .ok (.iload_n 1, 1) := by decide +kernel
theorem dX12_cover_13 : decode cX12_cover 13 = .ok (.aload_n 0, 1) := by decide +kernel
theorem dX12_cover_14 : decode cX12_cover 14 = .ok (.getfield 132, 3) := by decide +kernel
theorem dX12_cover_17 : decode cX12_cover 17 = .ok (.if_icmp .ge 12, 3) := by decide +kernel
theorem dX12_cover_20 : decode cX12_cover 20 = .ok (.aload_n 0, 1) := by decide +kernel
theorem dX12_cover_21 : decode cX12_cover 21 = .ok (.getfield 29, 3) := by decide +kernel
theorem dX12_cover_24 : decode cX12_cover 24 = .ok (.iload_n 1, 1) := by decide +kernel
theorem dX12_cover_25 : decode cX12_cover 25 = .ok (.iaload, 1) := by decide +kernel
theorem dX12_cover_26 : decode cX12_cover 26 = .ok (.goto 5, 3) := by decide +kernel
theorem dX12_cover_29 : decode cX12_cover 29 = .ok (.bipush (-2), 2) := by decide +kernel
theorem dX12_cover_31 : decode cX12_cover 31 = .ok (.ireturn, 1) := by decide +kernel
theorem dX12_height_0 : decode cX12_height 0 = .ok (.aload_n 0, 1) := by decide +kernel
theorem dX12_height_1 : decode cX12_height 1 = .ok (.invokevirtual 144, 3) := by decide +kernel
theorem dX12_height_4 : decode cX12_height 4 = .ok (.bipush 7, 2) := by decide +kernel
theorem dX12_height_6 : decode cX12_height 6 = .ok (.istore_n 1, 1) := by decide +kernel
theorem dX12_height_7 : decode cX12_height 7 = .ok (.iconst 0, 1) := by decide +kernel
theorem dX12_height_8 : decode cX12_height 8 = .ok (.istore_n 2, 1) := by decide +kernel
theorem dX12_height_9 : decode cX12_height 9 = .ok (.iload_n 2, 1) := by decide +kernel
theorem dX12_height_10 : decode cX12_height 10 = .ok (.aload_n 0, 1) := by decide +kernel
theorem dX12_height_11 : decode cX12_height 11 = .ok (.getfield 132, 3) := by decide +kernel
theorem dX12_height_14 : decode cX12_height 14 = .ok (.if_icmp .ge 30, 3) := by decide +kernel
theorem dX12_height_17 : decode cX12_height 17 = .ok (.aload_n 0, 1) := by decide +kernel
theorem dX12_height_18 : decode cX12_height 18 = .ok (.getfield 29, 3) := by decide +kernel
theorem dX12_height_21 : decode cX12_height 21 = .ok (.iload_n 2, 1) := by decide +kernel
theorem dX12_height_22 : decode cX12_height 22 = .ok (.iaload, 1) := by decide +kernel
theorem dX12_height_23 : decode cX12_height 23 = .ok (.invokestatic 109, 3) := by decide +kernel
theorem dX12_height_26 : decode cX12_height 26 = .ok (.istore_n 3, 1) := by decide +kernel
theorem dX12_height_27 : decode cX12_height 27 = .ok (.iload_n 3, 1) := by decide +kernel
theorem dX12_height_28 : decode cX12_height 28 = .ok (.iload_n 1, 1) := by decide +kernel
theorem dX12_height_29 : decode cX12_height 29 = .ok (.if_icmp .ge 7, 3) := by decide +kernel
theorem dX12_height_32 : decode cX12_height 32 = .ok (.iload_n 3, 1) := by decide +kernel
theorem dX12_height_33 : decode cX12_height 33 = .ok (.goto 4, 3) := by decide +kernel
theorem dX12_height_36 : decode cX12_height 36 = .ok (.iload_n 1, 1) := by decide +kernel
theorem dX12_height_37 : decode cX12_height 37 = .ok (.istore_n 1, 1) := by decide +kernel
theorem dX12_height_38 : decode cX12_height 38 = .ok (.iinc 2 1, 3) := by decide +kernel
theorem dX12_height_41 : decode cX12_height 41 = .ok (.goto (-32), 3) := by decide +kernel
theorem dX12_height_44 : decode cX12_height 44 = .ok (.iload_n 1, 1) := by decide +kernel
theorem dX12_height_45 : decode cX12_height 45 = .ok (.ireturn, 1) := by decide +kernel
theorem dX12_bigHeight_0 : decode cX12_bigHeight 0 = .ok (.aload_n 0, 1) := by decide +kernel
theorem dX12_bigHeight_1 : decode cX12_bigHeight 1 = .ok (.invokevirtual 144, 3) := by decide +kernel
theorem dX12_bigHeight_4 : decode cX12_bigHeight 4 = .ok (.iconst 0, 1) := by decide +kernel
theorem dX12_bigHeight_5 : decode cX12_bigHeight 5 = .ok (.istore_n 1, 1) := by decide +kernel
theorem dX12_bigHeight_6 : decode cX12_bigHeight 6 = .ok (.iconst 0, 1) := by decide +kernel
theorem dX12_bigHeight_7 : decode cX12_bigHeight 7 = .ok (.istore_n 2, 1) := by decide +kernel
theorem dX12_bigHeight_8 : decode cX12_bigHeight 8 = .ok (.iload_n 2, 1) := by decide +kernel
theorem dX12_bigHeight_9 : decode cX12_bigHeight 9 = .ok (.aload_n 0, 1) := by decide +kernel
theorem dX12_bigHeight_10 : decode cX12_bigHeight 10 = .ok (.getfield 132, 3) := by decide +kernel
theorem dX12_bigHeight_13 : decode cX12_bigHeight 13 = .ok (.if_icmp .ge 30, 3) := by decide +kernel
theorem dX12_bigHeight_16 : decode cX12_bigHeight 16 = .ok (.aload_n 0, 1) := by decide +kernel
theorem dX12_bigHeight_17 : decode cX12_bigHeight 17 = .ok (.getfield 29, 3) := by decide +kernel
theorem dX12_bigHeight_20 : decode cX12_bigHeight 20 = .ok (.iload_n 2, 1) := by decide +kernel
theorem dX12_bigHeight_21 : decode cX12_bigHeight 21 = .ok (.iaload, 1) := by decide +kernel
theorem dX12_bigHeight_22 : decode cX12_bigHeight 22 = .ok (.invokestatic 109, 3) := by decide +kernel
theorem dX12_bigHeight_25 : decode cX12_bigHeight 25 = .ok (.istore_n 3, 1) := by decide +kernel
theorem dX12_bigHeight_26 : decode cX12_bigHeight 26 = .ok (.iload_n 3, 1) := by decide +kernel
theorem dX12_bigHeight_27 : decode cX12_bigHeight 27 = .ok (.iload_n 1, 1) := by decide +kernel
theorem dX12_bigHeight_28 : decode cX12_bigHeight 28 = .ok (.if_icmp .le 7, 3) := by decide +kernel
theorem dX12_bigHeight_31 : decode cX12_bigHeight 31 = .ok (.iload_n 3, 1) := by decide +kernel
theorem dX12_bigHeight_32 : decode cX12_bigHeight 32 = .ok (.goto 4, 3) := by decide +kernel
theorem dX12_bigHeight_35 : decode cX12_bigHeight 35 = .ok (.iload_n 1, 1) := by decide +kernel
theorem dX12_bigHeight_36 : decode cX12_bigHeight 36 = .ok (.istore_n 1, 1) := by decide +kernel
theorem dX12_bigHeight_37 : decode cX12_bigHeight 37 = .ok (.iinc 2 1, 3) := by decide +kernel
theorem dX12_bigHeight_40 : decode cX12_bigHeight 40 = .ok (.goto (-32), 3) := by decide +kernel
theorem dX12_bigHeight_43 : decode cX12_bigHeight 43 = .ok (.iload_n 1, 1) := by decide +kernel
theorem dX12_bigHeight_44 : decode cX12_bigHeight 44 = .ok (.ireturn, 1) := by decide +kernel
theorem dX12_isAdjacentIn_0 : decode cX12_isAdjacentIn 0 = .ok (.iload_n 2, 1) := by decide +kernel
theorem dX12_isAdjacentIn_1 : decode cX12_isAdjacentIn 1 = .ok (.iload_n 3, 1) := by decide +kernel
theorem dX12_isAdjacentIn_2 : decode cX12_isAdjacentIn 2 = .ok (.if_icmp .eq 26, 3) := by decide +kernel
theorem dX12_isAdjacentIn_5 : decode cX12_isAdjacentIn 5 = .ok (.aload_n 0, 1) := by decide +kernel
theorem dX12_isAdjacentIn_6 : decode cX12_isAdjacentIn 6 = .ok (.iload_n 2, 1) := by decide +kernel
theorem dX12_isAdjacentIn_7 : decode cX12_isAdjacentIn 7 = .ok (.iload_n 3, 1) := by decide +kernel
theorem dX12_isAdjacentIn_8 : decode cX12_isAdjacentIn 8 = .ok (.invokevirtual 95, 3) := by decide +kernel
theorem dX12_isAdjacentIn_11 : decode cX12_isAdjacentIn 11 = .ok (.iload_n 1, 1) := by decide +kernel
theorem dX12_isAdjacentIn_12 : decode cX12_isAdjacentIn 12 = .ok (.iconst 1, 1) := by decide +kernel
theorem dX12_isAdjacentIn_13 : decode cX12_isAdjacentIn 13 = .ok (.if_icmp .ne 7, 3) := by decide +kernel
theorem dX12_isAdjacentIn_16 : decode cX12_isAdjacentIn 16 = .ok (.iconst 1, 1) := by decide +kernel
theorem dX12_isAdjacentIn_17 : decode cX12_isAdjacentIn 17 = .ok (.goto 4, 3) := by decide +kernel
theorem dX12_isAdjacentIn_20 : decode cX12_isAdjacentIn 20 = .ok (.iconst 0, 1) := by decide +kernel
theorem dX12_isAdjacentIn_21 : decode cX12_isAdjacentIn 21 = .ok (.if_icmp .eq 7, 3) := by decide +kernel
theorem dX12_isAdjacentIn_24 : decode cX12_isAdjacentIn 24 = .ok (.iconst 1, 1) := by decide +kernel
theorem dX12_isAdjacentIn_25 : decode cX12_isAdjacentIn 25 = .ok (.goto 4, 3) := by decide +kernel
theorem dX12_isAdjacentIn_28 : decode cX12_isAdjacentIn 28 = .ok (.iconst 0, 1) := by decide +kernel
theorem dX12_isAdjacentIn_29 : decode cX12_isAdjacentIn 29 = .ok (.ireturn, 1) := by decide +kernel
theorem dX12_isSimplicial_0 : decode cX12_isSimplicial 0 = .ok (.iconst 0, 1) := by decide +kernel
theorem dX12_isSimplicial_1 : decode cX12_isSimplicial 1 = .ok (.istore 4, 2) := by decide +kernel
theorem dX12_isSimplicial_3 : decode cX12_isSimplicial 3 = .ok (.iload 4, 2) := by decide +kernel
theorem dX12_isSimplicial_5 : decode cX12_isSimplicial 5 = .ok (.aload_n 0, 1) := by decide +kernel
theorem dX12_isSimplicial_6 : decode cX12_isSimplicial 6 = .ok (.getfield 9, 3) := by decide +kernel
theorem dX12_isSimplicial_9 : decode cX12_isSimplicial 9 = .ok (.if_icmp .ge 93, 3) := by decide +kernel
theorem dX12_isSimplicial_12 : decode cX12_isSimplicial 12 = .ok (.iload 4, 2) := by decide +kernel
theorem dX12_isSimplicial_14 : decode cX12_isSimplicial 14 = .ok (.iconst 1, 1) := by decide +kernel
theorem dX12_isSimplicial_15 : decode cX12_isSimplicial 15 = .ok (.iadd, 1) := by decide +kernel
theorem dX12_isSimplicial_16 : decode cX12_isSimplicial 16 = .ok (.istore 5, 2) := by decide +kernel
theorem dX12_isSimplicial_18 : decode cX12_isSimplicial 18 = .ok (.iload 5, 2) := by decide +kernel
theorem dX12_isSimplicial_20 : decode cX12_isSimplicial 20 = .ok (.aload_n 0, 1) := by decide +kernel
theorem dX12_isSimplicial_21 : decode cX12_isSimplicial 21 = .ok (.getfield 9, 3) := by decide +kernel
theorem dX12_isSimplicial_24 : decode cX12_isSimplicial 24 = .ok (.if_icmp .ge 72, 3) := by decide +kernel
theorem dX12_isSimplicial_27 : decode cX12_isSimplicial 27 = .ok (.iload_n 2, 1) := by decide +kernel
theorem dX12_isSimplicial_28 : decode cX12_isSimplicial 28 = .ok (.iload 4, 2) := by decide +kernel
theorem dX12_isSimplicial_30 : decode cX12_isSimplicial 30 = .ok (.ishr, 1) := by decide +kernel
theorem dX12_isSimplicial_31 : decode cX12_isSimplicial 31 = .ok (.iload_n 2, 1) := by decide +kernel
theorem dX12_isSimplicial_32 : decode cX12_isSimplicial 32 = .ok (.iload 5, 2) := by decide +kernel
theorem dX12_isSimplicial_34 : decode cX12_isSimplicial 34 = .ok (.ishr, 1) := by decide +kernel
theorem dX12_isSimplicial_35 : decode cX12_isSimplicial 35 = .ok (.iand, 1) := by decide +kernel
theorem dX12_isSimplicial_36 : decode cX12_isSimplicial 36 = .ok (.iconst 1, 1) := by decide +kernel
theorem dX12_isSimplicial_37 : decode cX12_isSimplicial 37 = .ok (.iand, 1) := by decide +kernel
theorem dX12_isSimplicial_38 : decode cX12_isSimplicial 38 = .ok (.iconst 1, 1) := by decide +kernel
theorem dX12_isSimplicial_39 : decode cX12_isSimplicial 39 = .ok (.if_icmp .ne 29, 3) := by decide +kernel
theorem dX12_isSimplicial_42 : decode cX12_isSimplicial 42 = .ok (.aload_n 0, 1) := by decide +kernel
theorem dX12_isSimplicial_43 : decode cX12_isSimplicial 43 = .ok (.iload_n 1, 1) := by decide +kernel
theorem dX12_isSimplicial_44 : decode cX12_isSimplicial 44 = .ok (.iload_n 3, 1) := by decide +kernel
theorem dX12_isSimplicial_45 : decode cX12_isSimplicial 45 = .ok (.iload 4, 2) := by decide +kernel
theorem dX12_isSimplicial_47 : decode cX12_isSimplicial 47 = .ok (.invokevirtual 147, 3) := by decide +kernel
theorem dX12_isSimplicial_50 : decode cX12_isSimplicial 50 = .ok (.ifCond .eq 18, 3) := by decide +kernel
theorem dX12_isSimplicial_53 : decode cX12_isSimplicial 53 = .ok (.aload_n 0, 1) := by decide +kernel
theorem dX12_isSimplicial_54 : decode cX12_isSimplicial 54 = .ok (.iload_n 1, 1) := by decide +kernel
theorem dX12_isSimplicial_55 : decode cX12_isSimplicial 55 = .ok (.iload_n 3, 1) := by decide +kernel
theorem dX12_isSimplicial_56 : decode cX12_isSimplicial 56 = .ok (.iload 5, 2) := by decide +kernel
theorem dX12_isSimplicial_58 : decode cX12_isSimplicial 58 = .ok (.invokevirtual 147, 3) := by decide +kernel
theorem dX12_isSimplicial_61 : decode cX12_isSimplicial 61 = .ok (.ifCond .eq 7, 3) := by decide +kernel
theorem dX12_isSimplicial_64 : decode cX12_isSimplicial 64 = .ok (.iconst 1, 1) := by decide +kernel
theorem dX12_isSimplicial_65 : decode cX12_isSimplicial 65 = .ok (.goto 4, 3) := by decide +kernel
theorem dX12_isSimplicial_68 : decode cX12_isSimplicial 68 = .ok (.iconst 0, 1) := by decide +kernel
theorem dX12_isSimplicial_69 : decode cX12_isSimplicial 69 = .ok (.istore 6, 2) := by decide +kernel
theorem dX12_isSimplicial_71 : decode cX12_isSimplicial 71 = .ok (.iload 6, 2) := by decide +kernel
theorem dX12_isSimplicial_73 : decode cX12_isSimplicial 73 = .ok (.ifCond .eq 17, 3) := by decide +kernel
theorem dX12_isSimplicial_76 : decode cX12_isSimplicial 76 = .ok (.aload_n 0, 1) := by decide +kernel
theorem dX12_isSimplicial_77 : decode cX12_isSimplicial 77 = .ok (.iload_n 1, 1) := by decide +kernel
theorem dX12_isSimplicial_78 : decode cX12_isSimplicial 78 = .ok (.iload 4, 2) := by decide +kernel
theorem dX12_isSimplicial_80 : decode cX12_isSimplicial 80 = .ok (.iload 5, 2) := by decide +kernel
theorem dX12_isSimplicial_82 : decode cX12_isSimplicial 82 = .ok (.invokevirtual 147, 3) := by decide +kernel
theorem dX12_isSimplicial_85 : decode cX12_isSimplicial 85 = .ok (.ifCond .ne 5, 3) := by decide +kernel
theorem dX12_isSimplicial_88 : decode cX12_isSimplicial 88 = .ok (.iconst 0, 1) := by decide +kernel
theorem dX12_isSimplicial_89 : decode cX12_isSimplicial 89 = .ok (.ireturn, 1) := by decide +kernel
theorem dX12_isSimplicial_90 : decode cX12_isSimplicial 90 = .ok (.iinc 5 1, 3) := by decide +kernel
theorem dX12_isSimplicial_93 : decode cX12_isSimplicial 93 = .ok (.goto (-75), 3) := by decide +kernel
theorem dX12_isSimplicial_96 : decode cX12_isSimplicial 96 = .ok (.iinc 4 1, 3) := by decide +kernel
theorem dX12_isSimplicial_99 : decode cX12_isSimplicial 99 = .ok (.goto (-96), 3) := by decide +kernel
theorem dX12_isSimplicial_102 : decode cX12_isSimplicial 102 = .ok (.iconst 1, 1) := by decide +kernel
theorem dX12_isSimplicial_103 : decode cX12_isSimplicial 103 = .ok (.ireturn, 1) := by decide +kernel
theorem dX12_eliminate_0 : decode cX12_eliminate 0 = .ok (.aload_n 0, 1) := by decide +kernel
theorem dX12_eliminate_1 : decode cX12_eliminate 1 = .ok (.iconst 0, 1) := by decide +kernel
theorem dX12_eliminate_2 : decode cX12_eliminate 2 = .ok (.putfield 150, 3) := by decide +kernel
theorem dX12_eliminate_5 : decode cX12_eliminate 5 = .ok (.aload_n 0, 1) := by decide +kernel
theorem dX12_eliminate_6 : decode cX12_eliminate 6 = .ok (.invokevirtual 116, 3) := by decide +kernel
theorem dX12_eliminate_9 : decode cX12_eliminate 9 = .ok (.istore_n 2, 1) := by decide +kernel
theorem dX12_eliminate_10 : decode cX12_eliminate 10 = .ok (.iconst 0, 1) := by decide +kernel
theorem dX12_eliminate_11 : decode cX12_eliminate 11 = .ok (.istore_n 3, 1) := by decide +kernel
theorem dX12_eliminate_12 : decode cX12_eliminate 12 = .ok (.iload_n 3, 1) := by decide +kernel
theorem dX12_eliminate_13 : decode cX12_eliminate 13 = .ok (.aload_n 0, 1) := by decide +kernel
theorem dX12_eliminate_14 : decode cX12_eliminate 14 = .ok (.getfield 9, 3) := by decide +kernel
theorem dX12_eliminate_17 : decode cX12_eliminate 17 = .ok (.if_icmp .ge 76, 3) := by decide +kernel
theorem dX12_eliminate_20 : decode cX12_eliminate 20 = .ok (.iconst 0, 1) := by decide +kernel
theorem dX12_eliminate_21 : decode cX12_eliminate 21 = .ok (.istore_n 3, 1) := by decide +kernel
theorem dX12_eliminate_22 : decode cX12_eliminate 22 = .ok (.iload_n 3, 1) := by decide +kernel
theorem dX12_eliminate_23 : decode cX12_eliminate 23 = .ok (.aload_n 0, 1) := by decide +kernel
theorem dX12_eliminate_24 : decode cX12_eliminate 24 = .ok (.getfield 9, 3) := by decide +kernel
theorem dX12_eliminate_27 : decode cX12_eliminate 27 = .ok (.if_icmp .ge 27, 3) := by decide +kernel
theorem dX12_eliminate_30 : decode cX12_eliminate 30 = .ok (.iload_n 2, 1) := by decide +kernel
theorem dX12_eliminate_31 : decode cX12_eliminate 31 = .ok (.iload_n 3, 1) := by decide +kernel
theorem dX12_eliminate_32 : decode cX12_eliminate 32 = .ok (.ishr, 1) := by decide +kernel
theorem dX12_eliminate_33 : decode cX12_eliminate 33 = .ok (.iconst 1, 1) := by decide +kernel
theorem dX12_eliminate_34 : decode cX12_eliminate 34 = .ok (.iand, 1) := by decide +kernel
theorem dX12_eliminate_35 : decode cX12_eliminate 35 = .ok (.ifCond .eq 13, 3) := by decide +kernel
theorem dX12_eliminate_38 : decode cX12_eliminate 38 = .ok (.aload_n 0, 1) := by decide +kernel
theorem dX12_eliminate_39 : decode cX12_eliminate 39 = .ok (.iload_n 1, 1) := by decide +kernel
theorem dX12_eliminate_40 : decode cX12_eliminate 40 = .ok (.iload_n 2, 1) := by decide +kernel
theorem dX12_eliminate_41 : decode cX12_eliminate 41 = .ok (.iload_n 3, 1) := by decide +kernel
theorem dX12_eliminate_42 : decode cX12_eliminate 42 = .ok (.invokevirtual 153, 3) := by decide +kernel
theorem dX12_eliminate_45 : decode cX12_eliminate 45 = .ok (.ifCond .ne 9, 3) := by decide +kernel
theorem dX12_eliminate_48 : decode cX12_eliminate 48 = .ok (.iinc 3 1, 3) := by decide +kernel
theorem dX12_eliminate_51 : decode cX12_eliminate 51 = .ok (.goto (-29), 3) := by decide +kernel
theorem dX12_eliminate_54 : decode cX12_eliminate 54 = .ok (.iload_n 3, 1) := by decide +kernel
theorem dX12_eliminate_55 : decode cX12_eliminate 55 = .ok (.aload_n 0, 1) := by decide +kernel
theorem dX12_eliminate_56 : decode cX12_eliminate 56 = .ok (.getfield 9, 3) := by decide +kernel
theorem dX12_eliminate_59 : decode cX12_eliminate 59 = .ok (.if_icmp .ge (-47), 3) := by decide +kernel
theorem dX12_eliminate_62 : decode cX12_eliminate 62 = .ok (.iload_n 2, 1) := by decide +kernel
theorem dX12_eliminate_63 : decode cX12_eliminate 63 = .ok (.iconst 1, 1) := by decide +kernel
theorem dX12_eliminate_64 : decode cX12_eliminate 64 = .ok (.iload_n 3, 1) := by decide +kernel
theorem dX12_eliminate_65 : decode cX12_eliminate 65 = .ok (.ishl, 1) := by decide +kernel
theorem dX12_eliminate_66 : decode cX12_eliminate 66 = .ok (.iconst (-1), 1) := by decide +kernel
theorem dX12_eliminate_67 : decode cX12_eliminate 67 = .ok (.ixor, 1) := by decide +kernel
theorem dX12_eliminate_68 : decode cX12_eliminate 68 = .ok (.iand, 1) := by decide +kernel
theorem dX12_eliminate_69 : decode cX12_eliminate 69 = .ok (.istore_n 2, 1) := by decide +kernel
theorem dX12_eliminate_70 : decode cX12_eliminate 70 = .ok (.aload_n 0, 1) := by decide +kernel
theorem dX12_eliminate_71 : decode cX12_eliminate 71 = .ok (.getfield 38, 3) := by decide +kernel
theorem dX12_eliminate_74 : decode cX12_eliminate 74 = .ok (.aload_n 0, 1) := by decide +kernel
theorem dX12_eliminate_75 : decode cX12_eliminate 75 = .ok (.getfield 150, 3) := by decide +kernel
theorem dX12_eliminate_78 : decode cX12_eliminate 78 = .ok (.iload_n 3, 1) := by decide +kernel
theorem dX12_eliminate_79 : decode cX12_eliminate 79 = .ok (.iastore, 1) := by decide +kernel
theorem dX12_eliminate_80 : decode cX12_eliminate 80 = .ok (.aload_n 0, 1) := by decide +kernel
theorem dX12_eliminate_81 : decode cX12_eliminate 81 = .ok (.dup, 1) := by decide +kernel
theorem dX12_eliminate_82 : decode cX12_eliminate 82 = .ok (.getfield 150, 3) := by decide +kernel
theorem dX12_eliminate_85 : decode cX12_eliminate 85 = .ok (.iconst 1, 1) := by decide +kernel
theorem dX12_eliminate_86 : decode cX12_eliminate 86 = .ok (.iadd, 1) := by decide +kernel
theorem dX12_eliminate_87 : decode cX12_eliminate 87 = .ok (.putfield 150, 3) := by decide +kernel
theorem dX12_eliminate_90 : decode cX12_eliminate 90 = .ok (.goto (-78), 3) := by decide +kernel
theorem dX12_eliminate_93 : decode cX12_eliminate 93 = .ok (.return_, 1) := by decide +kernel
theorem dX12_eliminationLength_0 : decode cX12_eliminationLength 0 = .ok (.iload_n 1, 1) := by decide +kernel
theorem dX12_eliminationLength_1 : decode cX12_eliminationLength 1 = .ok (.i2l, 1) := by decide +kernel
theorem dX12_eliminationLength_2 : decode cX12_eliminationLength 2 = .ok (.lconst 0, 1) := by decide +kernel
theorem dX12_eliminationLength_3 : decode cX12_eliminationLength 3 = .ok (.lconst 1, 1) := by decide +kernel
theorem dX12_eliminationLength_4 : decode cX12_eliminationLength 4 = .ok (.invokestatic 79, 3) := by decide +kernel
theorem dX12_eliminationLength_7 : decode cX12_eliminationLength 7 = .ok (.ifCond .ne 5, 3) := by decide +kernel
theorem dX12_eliminationLength_10 : decode cX12_eliminationLength 10 = .ok (.iconst (-1), 1) := by decide +kernel
theorem dX12_eliminationLength_11 : decode cX12_eliminationLength 11 = .ok (.ireturn, 1) := by decide +kernel
theorem dX12_eliminationLength_12 : decode cX12_eliminationLength 12 = .ok (.aload_n 0, 1) := by decide +kernel
theorem dX12_eliminationLength_13 : decode cX12_eliminationLength 13 = .ok (.iload_n 1, 1) := by decide +kernel
theorem dX12_eliminationLength_14 : decode cX12_eliminationLength 14 = .ok (.invokevirtual 156, 3) := by decide +kernel
theorem dX12_eliminationLength_17 : decode cX12_eliminationLength 17 = .ok (.aload_n 0, 1) := by decide +kernel
theorem dX12_eliminationLength_18 : decode cX12_eliminationLength 18 = .ok (.getfield 150, 3) := by decide +kernel
theorem dX12_eliminationLength_21 : decode cX12_eliminationLength 21 = .ok (.ireturn, 1) := by decide +kernel
theorem dX12_eliminated_0 : decode cX12_eliminated 0 = .ok (.iload_n 1, 1) := by decide +kernel
theorem dX12_eliminated_1 : decode cX12_eliminated 1 = .ok (.i2l, 1) := by decide +kernel
theorem dX12_eliminated_2 : decode cX12_eliminated 2 = .ok (.lconst 0, 1) := by decide +kernel
theorem dX12_eliminated_3 : decode cX12_eliminated 3 = .ok (.lconst 1, 1) := by decide +kernel
theorem dX12_eliminated_4 : decode cX12_eliminated 4 = .ok (.invokestatic 79, 3) := by decide +kernel
theorem dX12_eliminated_7 : decode cX12_eliminated 7 = .ok (.ifCond .eq 7, 3) := by decide +kernel
theorem dX12_eliminated_10 : decode cX12_eliminated 10 = .ok (.iload_n 2, 1) := by decide +kernel
theorem dX12_eliminated_11 : decode cX12_eliminated 11 = .ok (.ifCond .ge 5, 3) := by decide +kernel
theorem dX12_eliminated_14 : decode cX12_eliminated 14 = .ok (.iconst (-1), 1) := by decide +kernel
theorem dX12_eliminated_15 : decode cX12_eliminated 15 = .ok (.ireturn, 1) := by decide +kernel
theorem dX12_eliminated_16 : decode cX12_eliminated 16 = .ok (.aload_n 0, 1) := by decide +kernel
theorem dX12_eliminated_17 : decode cX12_eliminated 17 = .ok (.iload_n 1, 1) := by decide +kernel
theorem dX12_eliminated_18 : decode cX12_eliminated 18 = .ok (.invokevirtual 156, 3) := by decide +kernel
theorem dX12_eliminated_21 : decode cX12_eliminated 21 = .ok (.iload_n 2, 1) := by decide +kernel
theorem dX12_eliminated_22 : decode cX12_eliminated 22 = .ok (.aload_n 0, 1) := by decide +kernel
theorem dX12_eliminated_23 : decode cX12_eliminated 23 = .ok (.getfield 150, 3) := by decide +kernel
theorem dX12_eliminated_26 : decode cX12_eliminated 26 = .ok (.if_icmp .ge 12, 3) := by decide +kernel
theorem dX12_eliminated_29 : decode cX12_eliminated 29 = .ok (.aload_n 0, 1) := by decide +kernel
theorem dX12_eliminated_30 : decode cX12_eliminated 30 = .ok (.getfield 38, 3) := by decide +kernel
theorem dX12_eliminated_33 : decode cX12_eliminated 33 = .ok (.iload_n 2, 1) := by decide +kernel
theorem dX12_eliminated_34 : decode cX12_eliminated 34 = .ok (.iaload, 1) := by decide +kernel
theorem dX12_eliminated_35 : decode cX12_eliminated 35 = .ok (.goto 5, 3) := by decide +kernel
theorem dX12_eliminated_38 : decode cX12_eliminated 38 = .ok (.bipush (-2), 2) := by decide +kernel
theorem dX12_eliminated_40 : decode cX12_eliminated 40 = .ok (.ireturn, 1) := by decide +kernel
theorem dX12_isChordal_0 : decode cX12_isChordal 0 = .ok (.iload_n 1, 1) := by decide +kernel
theorem dX12_isChordal_1 : decode cX12_isChordal 1 = .ok (.i2l, 1) := by decide +kernel
theorem dX12_isChordal_2 : decode cX12_isChordal 2 = .ok (.lconst 0, 1) := by decide +kernel
theorem dX12_isChordal_3 : decode cX12_isChordal 3 = .ok (.lconst 1, 1) := by decide +kernel
theorem dX12_isChordal_4 : decode cX12_isChordal 4 = .ok (.invokestatic 79, 3) := by decide +kernel
theorem dX12_isChordal_7 : decode cX12_isChordal 7 = .ok (.ifCond .ne 5, 3) := by decide +kernel
theorem dX12_isChordal_10 : decode cX12_isChordal 10 = .ok (.iconst (-1), 1) := by decide +kernel
theorem dX12_isChordal_11 : decode cX12_isChordal 11 = .ok (.ireturn, 1) := by decide +kernel
theorem dX12_isChordal_12 : decode cX12_isChordal 12 = .ok (.aload_n 0, 1) := by decide +kernel
theorem dX12_isChordal_13 : decode cX12_isChordal 13 = .ok (.iload_n 1, 1) := by decide +kernel
theorem dX12_isChordal_14 : decode cX12_isChordal 14 = .ok (.invokevirtual 156, 3) := by decide +kernel
theorem dX12_isChordal_17 : decode cX12_isChordal 17 = .ok (.aload_n 0, 1) := by decide +kernel
theorem dX12_isChordal_18 : decode cX12_isChordal 18 = .ok (.getfield 150, 3) := by decide +kernel
theorem dX12_isChordal_21 : decode cX12_isChordal 21 = .ok (.aload_n 0, 1) := by decide +kernel
theorem dX12_isChordal_22 : decode cX12_isChordal 22 = .ok (.getfield 9, 3) := by decide +kernel
theorem dX12_isChordal_25 : decode cX12_isChordal 25 = .ok (.if_icmp .ne 7, 3) := by decide +kernel
theorem dX12_isChordal_28 : decode cX12_isChordal 28 = .ok (.iconst 1, 1) := by decide +kernel
theorem dX12_isChordal_29 : decode cX12_isChordal 29 = .ok (.goto 4, 3) := by decide +kernel
theorem dX12_isChordal_32 : decode cX12_isChordal 32 = .ok (.iconst 0, 1) := by decide +kernel
theorem dX12_isChordal_33 : decode cX12_isChordal 33 = .ok (.ireturn, 1) := by decide +kernel
theorem dX12_degreeOf_0 : decode cX12_degreeOf 0 = .ok (.iconst 0, 1) := by decide +kernel
theorem dX12_degreeOf_1 : decode cX12_degreeOf 1 = .ok (.istore_n 1, 1) := by decide +kernel
theorem dX12_degreeOf_2 : decode cX12_degreeOf 2 = .ok (.iconst 0, 1) := by decide +kernel
theorem dX12_degreeOf_3 : decode cX12_degreeOf 3 = .ok (.istore_n 2, 1) := by decide +kernel
theorem dX12_degreeOf_4 : decode cX12_degreeOf 4 = .ok (.iload_n 2, 1) := by decide +kernel
theorem dX12_degreeOf_5 : decode cX12_degreeOf 5 = .ok (.bipush 7, 2) := by decide +kernel
theorem dX12_degreeOf_7 : decode cX12_degreeOf 7 = .ok (.if_icmp .ge 17, 3) := by decide +kernel
theorem dX12_degreeOf_10 : decode cX12_degreeOf 10 = .ok (.iload_n 1, 1) := by decide +kernel
theorem dX12_degreeOf_11 : decode cX12_degreeOf 11 = .ok (.iload_n 0, 1) := by decide +kernel
theorem dX12_degreeOf_12 : decode cX12_degreeOf 12 = .ok (.iload_n 2, 1) := by decide +kernel
theorem dX12_degreeOf_13 : decode cX12_degreeOf 13 = .ok (.invokestatic 128, 3) := by decide +kernel
theorem dX12_degreeOf_16 : decode cX12_degreeOf 16 = .ok (.iadd, 1) := by decide +kernel
theorem dX12_degreeOf_17 : decode cX12_degreeOf 17 = .ok (.istore_n 1, 1) := by decide +kernel
theorem dX12_degreeOf_18 : decode cX12_degreeOf 18 = .ok (.iinc 2 1, 3) := by decide +kernel
theorem dX12_degreeOf_21 : decode cX12_degreeOf 21 = .ok (.goto (-17), 3) := by decide +kernel
theorem dX12_degreeOf_24 : decode cX12_degreeOf 24 = .ok (.iload_n 1, 1) := by decide +kernel
theorem dX12_degreeOf_25 : decode cX12_degreeOf 25 = .ok (.ireturn, 1) := by decide +kernel
theorem dX12_divides_0 : decode cX12_divides 0 = .ok (.iconst 0, 1) := by decide +kernel
theorem dX12_divides_1 : decode cX12_divides 1 = .ok (.istore_n 2, 1) := by decide +kernel
theorem dX12_divides_2 : decode cX12_divides 2 = .ok (.iload_n 2, 1) := by decide +kernel
theorem dX12_divides_3 : decode cX12_divides 3 = .ok (.bipush 7, 2) := by decide +kernel
theorem dX12_divides_5 : decode cX12_divides 5 = .ok (.if_icmp .ge 24, 3) := by decide +kernel
theorem dX12_divides_8 : decode cX12_divides 8 = .ok (.iload_n 0, 1) := by decide +kernel
theorem dX12_divides_9 : decode cX12_divides 9 = .ok (.iload_n 2, 1) := by decide +kernel
theorem dX12_divides_10 : decode cX12_divides 10 = .ok (.invokestatic 128, 3) := by decide +kernel
theorem dX12_divides_13 : decode cX12_divides 13 = .ok (.iload_n 1, 1) := by decide +kernel
theorem dX12_divides_14 : decode cX12_divides 14 = .ok (.iload_n 2, 1) := by decide +kernel
theorem dX12_divides_15 : decode cX12_divides 15 = .ok (.invokestatic 128, 3) := by decide +kernel
theorem dX12_divides_18 : decode cX12_divides 18 = .ok (.if_icmp .le 5, 3) := by decide +kernel
theorem dX12_divides_21 : decode cX12_divides 21 = .ok (.iconst 0, 1) := by decide +kernel
theorem dX12_divides_22 : decode cX12_divides 22 = .ok (.ireturn, 1) := by decide +kernel
theorem dX12_divides_23 : decode cX12_divides 23 = .ok (.iinc 2 1, 3) := by decide +kernel
theorem dX12_divides_26 : decode cX12_divides 26 = .ok (.goto (-24), 3) := by decide +kernel
theorem dX12_divides_29 : decode cX12_divides 29 = .ok (.iconst 1, 1) := by decide +kernel
theorem dX12_divides_30 : decode cX12_divides 30 = .ok (.ireturn, 1) := by decide +kernel
theorem dX12_degree_0 : decode cX12_degree 0 = .ok (.aload_n 0, 1) := by decide +kernel
end
section
theorem dX12_degree_1 : decode cX12_degree 1 = .ok (.iload_n 1, 1) := by decide +kernel
theorem dX12_degree_2 : decode cX12_degree 2 = .ok (.invokevirtual 160, 3) := by decide +kernel
theorem dX12_degree_5 : decode cX12_degree 5 = .ok (.ifCond .eq 10, 3) := by decide +kernel
theorem dX12_degree_8 : decode cX12_degree 8 = .ok (.iload_n 1, 1) := by decide +kernel
theorem dX12_degree_9 : decode cX12_degree 9 = .ok (.invokestatic 163, 3) := by decide +kernel
theorem dX12_degree_12 : decode cX12_degree 12 = .ok (.goto 4, 3) := by decide +kernel
theorem dX12_degree_15 : decode cX12_degree 15 = .ok (.iconst (-1), 1) := by decide +kernel
theorem dX12_degree_16 : decode cX12_degree 16 = .ok (.ireturn, 1) := by decide +kernel
theorem dX12_exponent_0 : decode cX12_exponent 0 = .ok (.aload_n 0, 1) := by decide +kernel
theorem dX12_exponent_1 : decode cX12_exponent 1 = .ok (.iload_n 1, 1) := by decide +kernel
theorem dX12_exponent_2 : decode cX12_exponent 2 = .ok (.invokevirtual 160, 3) := by decide +kernel
theorem dX12_exponent_5 : decode cX12_exponent 5 = .ok (.ifCond .eq 19, 3) := by decide +kernel
theorem dX12_exponent_8 : decode cX12_exponent 8 = .ok (.aload_n 0, 1) := by decide +kernel
theorem dX12_exponent_9 : decode cX12_exponent 9 = .ok (.iload_n 2, 1) := by decide +kernel
theorem dX12_exponent_10 : decode cX12_exponent 10 = .ok (.invokevirtual 88, 3) := by decide +kernel
theorem dX12_exponent_13 : decode cX12_exponent 13 = .ok (.ifCond .eq 11, 3) := by decide +kernel
theorem dX12_exponent_16 : decode cX12_exponent 16 = .ok (.iload_n 1, 1) := by decide +kernel
theorem dX12_exponent_17 : decode cX12_exponent 17 = .ok (.iload_n 2, 1) := by decide +kernel
theorem dX12_exponent_18 : decode cX12_exponent 18 = .ok (.invokestatic 128, 3) := by decide +kernel
theorem dX12_exponent_21 : decode cX12_exponent 21 = .ok (.goto 4, 3) := by decide +kernel
theorem dX12_exponent_24 : decode cX12_exponent 24 = .ok (.iconst (-1), 1) := by decide +kernel
theorem dX12_exponent_25 : decode cX12_exponent 25 = .ok (.ireturn, 1) := by decide +kernel
theorem dX12_powerOrder_0 : decode cX12_powerOrder 0 = .ok (.aload_n 0, 1) := by decide +kernel
theorem dX12_powerOrder_1 : decode cX12_powerOrder 1 = .ok (.invokevirtual 144, 3) := by decide +kernel
theorem dX12_powerOrder_4 : decode cX12_powerOrder 4 = .ok (.aload_n 0, 1) := by decide +kernel
theorem dX12_powerOrder_5 : decode cX12_powerOrder 5 = .ok (.iload_n 1, 1) := by decide +kernel
theorem dX12_powerOrder_6 : decode cX12_powerOrder 6 = .ok (.invokevirtual 160, 3) := by decide +kernel
theorem dX12_powerOrder_9 : decode cX12_powerOrder 9 = .ok (.ifCond .eq 12, 3) := by decide +kernel
theorem dX12_powerOrder_12 : decode cX12_powerOrder 12 = .ok (.aload_n 0, 1) := by decide +kernel
theorem dX12_powerOrder_13 : decode cX12_powerOrder 13 = .ok (.getfield 32, 3) := by decide +kernel
theorem dX12_powerOrder_16 : decode cX12_powerOrder 16 = .ok (.iload_n 1, 1) := by decide +kernel
theorem dX12_powerOrder_17 : decode cX12_powerOrder 17 = .ok (.iaload, 1) := by decide +kernel
theorem dX12_powerOrder_18 : decode cX12_powerOrder 18 = .ok (.goto 4, 3) := by decide +kernel
theorem dX12_powerOrder_21 : decode cX12_powerOrder 21 = .ok (.iconst (-1), 1) := by decide +kernel
theorem dX12_powerOrder_22 : decode cX12_powerOrder 22 = .ok (.ireturn, 1) := by decide +kernel
theorem dX12_symbolicOrder_0 : decode cX12_symbolicOrder 0 = .ok (.aload_n 0, 1) := by decide +kernel
theorem dX12_symbolicOrder_1 : decode cX12_symbolicOrder 1 = .ok (.invokevirtual 144, 3) := by decide +kernel
theorem dX12_symbolicOrder_4 : decode cX12_symbolicOrder 4 = .ok (.aload_n 0, 1) := by decide +kernel
theorem dX12_symbolicOrder_5 : decode cX12_symbolicOrder 5 = .ok (.iload_n 1, 1) := by decide +kernel
theorem dX12_symbolicOrder_6 : decode cX12_symbolicOrder 6 = .ok (.invokevirtual 160, 3) := by decide +kernel
theorem dX12_symbolicOrder_9 : decode cX12_symbolicOrder 9 = .ok (.ifCond .eq 12, 3) := by decide +kernel
theorem dX12_symbolicOrder_12 : decode cX12_symbolicOrder 12 = .ok (.aload_n 0, 1) := by decide +kernel
theorem dX12_symbolicOrder_13 : decode cX12_symbolicOrder 13 = .ok (.getfield 35, 3) := by decide +kernel
theorem dX12_symbolicOrder_16 : decode cX12_symbolicOrder 16 = .ok (.iload_n 1, 1) := by decide +kernel
theorem dX12_symbolicOrder_17 : decode cX12_symbolicOrder 17 = .ok (.iaload, 1) := by decide +kernel
theorem dX12_symbolicOrder_18 : decode cX12_symbolicOrder 18 = .ok (.goto 4, 3) := by decide +kernel
theorem dX12_symbolicOrder_21 : decode cX12_symbolicOrder 21 = .ok (.iconst (-1), 1) := by decide +kernel
theorem dX12_symbolicOrder_22 : decode cX12_symbolicOrder 22 = .ok (.ireturn, 1) := by decide +kernel
theorem dX12_multiply_0 : decode cX12_multiply 0 = .ok (.aload_n 0, 1) := by decide +kernel
theorem dX12_multiply_1 : decode cX12_multiply 1 = .ok (.iload_n 1, 1) := by decide +kernel
theorem dX12_multiply_2 : decode cX12_multiply 2 = .ok (.invokevirtual 160, 3) := by decide +kernel
theorem dX12_multiply_5 : decode cX12_multiply 5 = .ok (.ifCond .eq 11, 3) := by decide +kernel
theorem dX12_multiply_8 : decode cX12_multiply 8 = .ok (.aload_n 0, 1) := by decide +kernel
theorem dX12_multiply_9 : decode cX12_multiply 9 = .ok (.iload_n 2, 1) := by decide +kernel
theorem dX12_multiply_10 : decode cX12_multiply 10 = .ok (.invokevirtual 160, 3) := by decide +kernel
theorem dX12_multiply_13 : decode cX12_multiply 13 = .ok (.ifCond .ne 5, 3) := by decide +kernel
theorem dX12_multiply_16 : decode cX12_multiply 16 = .ok (.iconst (-1), 1) := by decide +kernel
theorem dX12_multiply_17 : decode cX12_multiply 17 = .ok (.ireturn, 1) := by decide +kernel
theorem dX12_multiply_18 : decode cX12_multiply 18 = .ok (.iconst 0, 1) := by decide +kernel
theorem dX12_multiply_19 : decode cX12_multiply 19 = .ok (.istore_n 3, 1) := by decide +kernel
theorem dX12_multiply_20 : decode cX12_multiply 20 = .ok (.iload_n 3, 1) := by decide +kernel
theorem dX12_multiply_21 : decode cX12_multiply 21 = .ok (.aload_n 0, 1) := by decide +kernel
theorem dX12_multiply_22 : decode cX12_multiply 22 = .ok (.getfield 9, 3) := by decide +kernel
theorem dX12_multiply_25 : decode cX12_multiply 25 = .ok (.if_icmp .ge 27, 3) := by decide +kernel
theorem dX12_multiply_28 : decode cX12_multiply 28 = .ok (.iload_n 1, 1) := by decide +kernel
theorem dX12_multiply_29 : decode cX12_multiply 29 = .ok (.iload_n 3, 1) := by decide +kernel
theorem dX12_multiply_30 : decode cX12_multiply 30 = .ok (.invokestatic 128, 3) := by decide +kernel
theorem dX12_multiply_33 : decode cX12_multiply 33 = .ok (.iload_n 2, 1) := by decide +kernel
theorem dX12_multiply_34 : decode cX12_multiply 34 = .ok (.iload_n 3, 1) := by decide +kernel
theorem dX12_multiply_35 : decode cX12_multiply 35 = .ok (.invokestatic 128, 3) := by decide +kernel
theorem dX12_multiply_38 : decode cX12_multiply 38 = .ok (.iadd, 1) := by decide +kernel
theorem dX12_multiply_39 : decode cX12_multiply 39 = .ok (.iconst 3, 1) := by decide +kernel
theorem dX12_multiply_40 : decode cX12_multiply 40 = .ok (.if_icmp .le 6, 3) := by decide +kernel
theorem dX12_multiply_43 : decode cX12_multiply 43 = .ok (.bipush (-3), 2) := by decide +kernel
theorem dX12_multiply_45 : decode cX12_multiply 45 = .ok (.ireturn, 1) := by decide +kernel
theorem dX12_multiply_46 : decode cX12_multiply 46 = .ok (.iinc 3 1, 3) := by decide +kernel
theorem dX12_multiply_49 : decode cX12_multiply 49 = .ok (.goto (-29), 3) := by decide +kernel
theorem dX12_multiply_52 : decode cX12_multiply 52 = .ok (.iload_n 1, 1) := by decide +kernel
theorem dX12_multiply_53 : decode cX12_multiply 53 = .ok (.iload_n 2, 1) := by decide +kernel
theorem dX12_multiply_54 : decode cX12_multiply 54 = .ok (.iadd, 1) := by decide +kernel
theorem dX12_multiply_55 : decode cX12_multiply 55 = .ok (.ireturn, 1) := by decide +kernel
theorem dX12_divide_0 : decode cX12_divide 0 = .ok (.aload_n 0, 1) := by decide +kernel
theorem dX12_divide_1 : decode cX12_divide 1 = .ok (.iload_n 1, 1) := by decide +kernel
theorem dX12_divide_2 : decode cX12_divide 2 = .ok (.invokevirtual 160, 3) := by decide +kernel
theorem dX12_divide_5 : decode cX12_divide 5 = .ok (.ifCond .eq 11, 3) := by decide +kernel
theorem dX12_divide_8 : decode cX12_divide 8 = .ok (.aload_n 0, 1) := by decide +kernel
theorem dX12_divide_9 : decode cX12_divide 9 = .ok (.iload_n 2, 1) := by decide +kernel
theorem dX12_divide_10 : decode cX12_divide 10 = .ok (.invokevirtual 160, 3) := by decide +kernel
theorem dX12_divide_13 : decode cX12_divide 13 = .ok (.ifCond .ne 5, 3) := by decide +kernel
theorem dX12_divide_16 : decode cX12_divide 16 = .ok (.iconst (-1), 1) := by decide +kernel
theorem dX12_divide_17 : decode cX12_divide 17 = .ok (.ireturn, 1) := by decide +kernel
theorem dX12_divide_18 : decode cX12_divide 18 = .ok (.iload_n 2, 1) := by decide +kernel
theorem dX12_divide_19 : decode cX12_divide 19 = .ok (.iload_n 1, 1) := by decide +kernel
theorem dX12_divide_20 : decode cX12_divide 20 = .ok (.invokestatic 166, 3) := by decide +kernel
theorem dX12_divide_23 : decode cX12_divide 23 = .ok (.ifCond .eq 9, 3) := by decide +kernel
theorem dX12_divide_26 : decode cX12_divide 26 = .ok (.iload_n 1, 1) := by decide +kernel
theorem dX12_divide_27 : decode cX12_divide 27 = .ok (.iload_n 2, 1) := by decide +kernel
theorem dX12_divide_28 : decode cX12_divide 28 = .ok (.isub, 1) := by decide +kernel
theorem dX12_divide_29 : decode cX12_divide 29 = .ok (.goto 5, 3) := by decide +kernel
theorem dX12_divide_32 : decode cX12_divide 32 = .ok (.bipush (-5), 2) := by decide +kernel
theorem dX12_divide_34 : decode cX12_divide 34 = .ok (.ireturn, 1) := by decide +kernel
theorem dX12_combined_0 : decode cX12_combined 0 = .ok (.aload_n 0, 1) := by decide +kernel
theorem dX12_combined_1 : decode cX12_combined 1 = .ok (.iload_n 1, 1) := by decide +kernel
theorem dX12_combined_2 : decode cX12_combined 2 = .ok (.invokevirtual 160, 3) := by decide +kernel
theorem dX12_combined_5 : decode cX12_combined 5 = .ok (.ifCond .eq 11, 3) := by decide +kernel
theorem dX12_combined_8 : decode cX12_combined 8 = .ok (.aload_n 0, 1) := by decide +kernel
theorem dX12_combined_9 : decode cX12_combined 9 = .ok (.iload_n 2, 1) := by decide +kernel
theorem dX12_combined_10 : decode cX12_combined 10 = .ok (.invokevirtual 160, 3) := by decide +kernel
theorem dX12_combined_13 : decode cX12_combined 13 = .ok (.ifCond .ne 5, 3) := by decide +kernel
theorem dX12_combined_16 : decode cX12_combined 16 = .ok (.iconst (-1), 1) := by decide +kernel
theorem dX12_combined_17 : decode cX12_combined 17 = .ok (.ireturn, 1) := by decide +kernel
theorem dX12_combined_18 : decode cX12_combined 18 = .ok (.iconst 0, 1) := by decide +kernel
theorem dX12_combined_19 : decode cX12_combined 19 = .ok (.istore 4, 2) := by decide +kernel
theorem dX12_combined_21 : decode cX12_combined 21 = .ok (.iconst 0, 1) := by decide +kernel
theorem dX12_combined_22 : decode cX12_combined 22 = .ok (.istore 5, 2) := by decide +kernel
theorem dX12_combined_24 : decode cX12_combined 24 = .ok (.iload 5, 2) := by decide +kernel
theorem dX12_combined_26 : decode cX12_combined 26 = .ok (.aload_n 0, 1) := by decide +kernel
theorem dX12_combined_27 : decode cX12_combined 27 = .ok (.getfield 9, 3) := by decide +kernel
theorem dX12_combined_30 : decode cX12_combined 30 = .ok (.if_icmp .ge 58, 3) := by decide +kernel
theorem dX12_combined_33 : decode cX12_combined 33 = .ok (.iload_n 1, 1) := by decide +kernel
theorem dX12_combined_34 : decode cX12_combined 34 = .ok (.iload 5, 2) := by decide +kernel
theorem dX12_combined_36 : decode cX12_combined 36 = .ok (.invokestatic 128, 3) := by decide +kernel
theorem dX12_combined_39 : decode cX12_combined 39 = .ok (.istore 6, 2) := by decide +kernel
theorem dX12_combined_41 : decode cX12_combined 41 = .ok (.iload_n 2, 1) := by decide +kernel
theorem dX12_combined_42 : decode cX12_combined 42 = .ok (.iload 5, 2) := by decide +kernel
theorem dX12_combined_44 : decode cX12_combined 44 = .ok (.invokestatic 128, 3) := by decide +kernel
theorem dX12_combined_47 : decode cX12_combined 47 = .ok (.istore 7, 2) := by decide +kernel
theorem dX12_combined_49 : decode cX12_combined 49 = .ok (.iload 4, 2) := by decide +kernel
theorem dX12_combined_51 : decode cX12_combined 51 = .ok (.iload 6, 2) := by decide +kernel
theorem dX12_combined_53 : decode cX12_combined 53 = .ok (.iload 7, 2) := by decide +kernel
theorem dX12_combined_55 : decode cX12_combined 55 = .ok (.if_icmp .le 7, 3) := by decide +kernel
theorem dX12_combined_58 : decode cX12_combined 58 = .ok (.iconst 1, 1) := by decide +kernel
theorem dX12_combined_59 : decode cX12_combined 59 = .ok (.goto 4, 3) := by decide +kernel
theorem dX12_combined_62 : decode cX12_combined 62 = .ok (.iconst 0, 1) := by decide +kernel
theorem dX12_combined_63 : decode cX12_combined 63 = .ok (.iload_n 3, 1) := by decide +kernel
theorem dX12_combined_64 : decode cX12_combined 64 = .ok (.if_icmp .ne 8, 3) := by decide +kernel
theorem dX12_combined_67 : decode cX12_combined 67 = .ok (.iload 6, 2) := by decide +kernel
theorem dX12_combined_69 : decode cX12_combined 69 = .ok (.goto 5, 3) := by decide +kernel
theorem dX12_combined_72 : decode cX12_combined 72 = .ok (.iload 7, 2) := by decide +kernel
theorem dX12_combined_74 : decode cX12_combined 74 = .ok (.iconst 2, 1) := by decide +kernel
theorem dX12_combined_75 : decode cX12_combined 75 = .ok (.iload 5, 2) := by decide +kernel
theorem dX12_combined_77 : decode cX12_combined 77 = .ok (.imul, 1) := by decide +kernel
theorem dX12_combined_78 : decode cX12_combined 78 = .ok (.ishl, 1) := by decide +kernel
theorem dX12_combined_79 : decode cX12_combined 79 = .ok (.ior, 1) := by decide +kernel
theorem dX12_combined_80 : decode cX12_combined 80 = .ok (.istore 4, 2) := by decide +kernel
theorem dX12_combined_82 : decode cX12_combined 82 = .ok (.iinc 5 1, 3) := by decide +kernel
theorem dX12_combined_85 : decode cX12_combined 85 = .ok (.goto (-61), 3) := by decide +kernel
theorem dX12_combined_88 : decode cX12_combined 88 = .ok (.iload 4, 2) := by decide +kernel
theorem dX12_combined_90 : decode cX12_combined 90 = .ok (.ireturn, 1) := by decide +kernel
theorem dX12_lcm_0 : decode cX12_lcm 0 = .ok (.aload_n 0, 1) := by decide +kernel
theorem dX12_lcm_1 : decode cX12_lcm 1 = .ok (.iload_n 1, 1) := by decide +kernel
theorem dX12_lcm_2 : decode cX12_lcm 2 = .ok (.iload_n 2, 1) := by decide +kernel
theorem dX12_lcm_3 : decode cX12_lcm 3 = .ok (.iconst 1, 1) := by decide +kernel
theorem dX12_lcm_4 : decode cX12_lcm 4 = .ok (.invokevirtual 169, 3) := by decide +kernel
theorem dX12_lcm_7 : decode cX12_lcm 7 = .ok (.ireturn, 1) := by decide +kernel
theorem dX12_gcd_0 : decode cX12_gcd 0 = .ok (.aload_n 0, 1) := by decide +kernel
theorem dX12_gcd_1 : decode cX12_gcd 1 = .ok (.iload_n 1, 1) := by decide +kernel
theorem dX12_gcd_2 : decode cX12_gcd 2 = .ok (.iload_n 2, 1) := by decide +kernel
theorem dX12_gcd_3 : decode cX12_gcd 3 = .ok (.iconst 0, 1) := by decide +kernel
theorem dX12_gcd_4 : decode cX12_gcd 4 = .ok (.invokevirtual 169, 3) := by decide +kernel
theorem dX12_gcd_7 : decode cX12_gcd 7 = .ok (.ireturn, 1) := by decide +kernel
theorem dX12_isIn_0 : decode cX12_isIn 0 = .ok (.iload_n 3, 1) := by decide +kernel
theorem dX12_isIn_1 : decode cX12_isIn 1 = .ok (.ifCond .eq 12, 3) := by decide +kernel
theorem dX12_isIn_4 : decode cX12_isIn 4 = .ok (.aload_n 0, 1) := by decide +kernel
theorem dX12_isIn_5 : decode cX12_isIn 5 = .ok (.getfield 35, 3) := by decide +kernel
theorem dX12_isIn_8 : decode cX12_isIn 8 = .ok (.iload_n 1, 1) := by decide +kernel
theorem dX12_isIn_9 : decode cX12_isIn 9 = .ok (.iaload, 1) := by decide +kernel
theorem dX12_isIn_10 : decode cX12_isIn 10 = .ok (.goto 9, 3) := by decide +kernel
theorem dX12_isIn_13 : decode cX12_isIn 13 = .ok (.aload_n 0, 1) := by decide +kernel
theorem dX12_isIn_14 : decode cX12_isIn 14 = .ok (.getfield 32, 3) := by decide +kernel
theorem dX12_isIn_17 : decode cX12_isIn 17 = .ok (.iload_n 1, 1) := by decide +kernel
theorem dX12_isIn_18 : decode cX12_isIn 18 = .ok (.iaload, 1) := by decide +kernel
theorem dX12_isIn_19 : decode cX12_isIn 19 = .ok (.iload_n 2, 1) := by decide +kernel
theorem dX12_isIn_20 : decode cX12_isIn 20 = .ok (.if_icmp .lt 7, 3) := by decide +kernel
theorem dX12_isIn_23 : decode cX12_isIn 23 = .ok (.iconst 1, 1) := by decide +kernel
theorem dX12_isIn_24 : decode cX12_isIn 24 = .ok (.goto 4, 3) := by decide +kernel
theorem dX12_isIn_27 : decode cX12_isIn 27 = .ok (.iconst 0, 1) := by decide +kernel
theorem dX12_isIn_28 : decode cX12_isIn 28 = .ok (.ireturn, 1) := by decide +kernel
theorem dX12_isGenerator_0 : decode cX12_isGenerator 0 = .ok (.aload_n 0, 1) := by decide +kernel
theorem dX12_isGenerator_1 : decode cX12_isGenerator 1 = .ok (.iload_n 1, 1) := by decide +kernel
theorem dX12_isGenerator_2 : decode cX12_isGenerator 2 = .ok (.iload_n 2, 1) := by decide +kernel
theorem dX12_isGenerator_3 : decode cX12_isGenerator 3 = .ok (.iload_n 3, 1) := by decide +kernel
theorem dX12_isGenerator_4 : decode cX12_isGenerator 4 = .ok (.invokevirtual 173, 3) := by decide +kernel
theorem dX12_isGenerator_7 : decode cX12_isGenerator 7 = .ok (.ifCond .ne 5, 3) := by decide +kernel
theorem dX12_isGenerator_10 : decode cX12_isGenerator 10 = .ok (.iconst 0, 1) := by decide +kernel
theorem dX12_isGenerator_11 : decode cX12_isGenerator 11 = .ok (.ireturn, 1) := by decide +kernel
theorem dX12_isGenerator_12 : decode cX12_isGenerator 12 = .ok (.iconst 0, 1) := by decide +kernel
theorem dX12_isGenerator_13 : decode cX12_isGenerator 13 = .ok (.istore 4, 2) := by decide +kernel
theorem dX12_isGenerator_15 : decode cX12_isGenerator 15 = .ok (.iload 4, 2) := by decide +kernel
theorem dX12_isGenerator_17 : decode cX12_isGenerator 17 = .ok (.aload_n 0, 1) := by decide +kernel
theorem dX12_isGenerator_18 : decode cX12_isGenerator 18 = .ok (.getfield 9, 3) := by decide +kernel
theorem dX12_isGenerator_21 : decode cX12_isGenerator 21 = .ok (.if_icmp .ge 37, 3) := by decide +kernel
theorem dX12_isGenerator_24 : decode cX12_isGenerator 24 = .ok (.iload_n 1, 1) := by decide +kernel
theorem dX12_isGenerator_25 : decode cX12_isGenerator 25 = .ok (.iload 4, 2) := by decide +kernel
theorem dX12_isGenerator_27 : decode cX12_isGenerator 27 = .ok (.invokestatic 128, 3) := by decide +kernel
theorem dX12_isGenerator_30 : decode cX12_isGenerator 30 = .ok (.ifCond .le 22, 3) := by decide +kernel
theorem dX12_isGenerator_33 : decode cX12_isGenerator 33 = .ok (.aload_n 0, 1) := by decide +kernel
theorem dX12_isGenerator_34 : decode cX12_isGenerator 34 = .ok (.iload_n 1, 1) := by decide +kernel
theorem dX12_isGenerator_35 : decode cX12_isGenerator 35 = .ok (.iconst 1, 1) := by decide +kernel
theorem dX12_isGenerator_36 : decode cX12_isGenerator 36 = .ok (.iconst 2, 1) := by decide +kernel
theorem dX12_isGenerator_37 : decode cX12_isGenerator 37 = .ok (.iload 4, 2) := by decide +kernel
theorem dX12_isGenerator_39 : decode cX12_isGenerator 39 = .ok (.imul, 1) := by decide +kernel
theorem dX12_isGenerator_40 : decode cX12_isGenerator 40 = .ok (.ishl, 1) := by decide +kernel
theorem dX12_isGenerator_41 : decode cX12_isGenerator 41 = .ok (.isub, 1) := by decide +kernel
theorem dX12_isGenerator_42 : decode cX12_isGenerator 42 = .ok (.iload_n 2, 1) := by decide +kernel
theorem dX12_isGenerator_43 : decode cX12_isGenerator 43 = .ok (.iload_n 3, 1) := by decide +kernel
theorem dX12_isGenerator_44 : decode cX12_isGenerator 44 = .ok (.invokevirtual 173, 3) := by decide +kernel
theorem dX12_isGenerator_47 : decode cX12_isGenerator 47 = .ok (.ifCond .eq 5, 3) := by decide +kernel
theorem dX12_isGenerator_50 : decode cX12_isGenerator 50 = .ok (.iconst 0, 1) := by decide +kernel
theorem dX12_isGenerator_51 : decode cX12_isGenerator 51 = .ok (.ireturn, 1) := by decide +kernel
theorem dX12_isGenerator_52 : decode cX12_isGenerator 52 = .ok (.iinc 4 1, 3) := by decide +kernel
theorem dX12_isGenerator_55 : decode cX12_isGenerator 55 = .ok (.goto (-40), 3) := by decide +kernel
theorem dX12_isGenerator_58 : decode cX12_isGenerator 58 = .ok (.iconst 1, 1) := by decide +kernel
theorem dX12_isGenerator_59 : decode cX12_isGenerator 59 = .ok (.ireturn, 1) := by decide +kernel
theorem dX12_findGenerators_0 : decode cX12_findGenerators 0 = .ok (.aload_n 0, 1) := by decide +kernel
theorem dX12_findGenerators_1 : decode cX12_findGenerators 1 = .ok (.invokevirtual 144, 3) := by decide +kernel
theorem dX12_findGenerators_4 : decode cX12_findGenerators 4 = .ok (.aload_n 0, 1) := by decide +kernel
theorem dX12_findGenerators_5 : decode cX12_findGenerators 5 = .ok (.iconst 0, 1) := by decide +kernel
theorem dX12_findGenerators_6 : decode cX12_findGenerators 6 = .ok (.putfield 177, 3) := by decide +kernel
theorem dX12_findGenerators_9 : decode cX12_findGenerators 9 = .ok (.aload_n 0, 1) := by decide +kernel
theorem dX12_findGenerators_10 : decode cX12_findGenerators 10 = .ok (.invokevirtual 125, 3) := by decide +kernel
theorem dX12_findGenerators_13 : decode cX12_findGenerators 13 = .ok (.iconst 1, 1) := by decide +kernel
theorem dX12_findGenerators_14 : decode cX12_findGenerators 14 = .ok (.isub, 1) := by decide +kernel
theorem dX12_findGenerators_15 : decode cX12_findGenerators 15 = .ok (.istore_n 3, 1) := by decide +kernel
theorem dX12_findGenerators_16 : decode cX12_findGenerators 16 = .ok (.iload_n 3, 1) := by decide +kernel
theorem dX12_findGenerators_17 : decode cX12_findGenerators 17 = .ok (.ifCond .lt 39, 3) := by decide +kernel
theorem dX12_findGenerators_20 : decode cX12_findGenerators 20 = .ok (.aload_n 0, 1) := by decide +kernel
theorem dX12_findGenerators_21 : decode cX12_findGenerators 21 = .ok (.iload_n 3, 1) := by decide +kernel
theorem dX12_findGenerators_22 : decode cX12_findGenerators 22 = .ok (.iload_n 1, 1) := by decide +kernel
theorem dX12_findGenerators_23 : decode cX12_findGenerators 23 = .ok (.iload_n 2, 1) := by decide +kernel
theorem dX12_findGenerators_24 : decode cX12_findGenerators 24 = .ok (.invokevirtual 180, 3) := by decide +kernel
theorem dX12_findGenerators_27 : decode cX12_findGenerators 27 = .ok (.ifCond .eq 23, 3) := by decide +kernel
theorem dX12_findGenerators_30 : decode cX12_findGenerators 30 = .ok (.aload_n 0, 1) := by decide +kernel
theorem dX12_findGenerators_31 : decode cX12_findGenerators 31 = .ok (.getfield 41, 3) := by decide +kernel
theorem dX12_findGenerators_34 : decode cX12_findGenerators 34 = .ok (.aload_n 0, 1) := by decide +kernel
theorem dX12_findGenerators_35 : decode cX12_findGenerators 35 = .ok (.getfield 177, 3) := by decide +kernel
theorem dX12_findGenerators_38 : decode cX12_findGenerators 38 = .ok (.iload_n 3, 1) := by decide +kernel
theorem dX12_findGenerators_39 : decode cX12_findGenerators 39 = .ok (.iastore, 1) := by decide +kernel
theorem dX12_findGenerators_40 : decode cX12_findGenerators 40 = .ok (.aload_n 0, 1) := by decide +kernel
theorem dX12_findGenerators_41 : decode cX12_findGenerators 41 = .ok (.dup, 1) := by decide +kernel
theorem dX12_findGenerators_42 : decode cX12_findGenerators 42 = .ok (.getfield 177, 3) := by decide +kernel
theorem dX12_findGenerators_45 : decode cX12_findGenerators 45 = .ok (.iconst 1, 1) := by decide +kernel
theorem dX12_findGenerators_46 : decode cX12_findGenerators 46 = .ok (.iadd, 1) := by decide +kernel
theorem dX12_findGenerators_47 : decode cX12_findGenerators 47 = .ok (.putfield 177, 3) := by decide +kernel
theorem dX12_findGenerators_50 : decode cX12_findGenerators 50 = .ok (.iinc 3 (-1), 3) := by decide +kernel
theorem dX12_findGenerators_53 : decode cX12_findGenerators 53 = .ok (.goto (-37), 3) := by decide +kernel
theorem dX12_findGenerators_56 : decode cX12_findGenerators 56 = .ok (.return_, 1) := by decide +kernel
theorem dX12_isPower_0 : decode cX12_isPower 0 = .ok (.iload_n 0, 1) := by decide +kernel
theorem dX12_isPower_1 : decode cX12_isPower 1 = .ok (.i2l, 1) := by decide +kernel
theorem dX12_isPower_2 : decode cX12_isPower 2 = .ok (.lconst 1, 1) := by decide +kernel
theorem dX12_isPower_3 : decode cX12_isPower 3 = .ok (.ldc2_w 183, 3) := by decide +kernel
theorem dX12_isPower_6 : decode cX12_isPower 6 = .ok (.invokestatic 79, 3) := by decide +kernel
theorem dX12_isPower_9 : decode cX12_isPower 9 = .ok (.ireturn, 1) := by decide +kernel
theorem dX12_countGenerators_0 : decode cX12_countGenerators 0 = .ok (.iload_n 1, 1) := by decide +kernel
theorem dX12_countGenerators_1 : decode cX12_countGenerators 1 = .ok (.invokestatic 185, 3) := by decide +kernel
theorem dX12_countGenerators_4 : decode cX12_countGenerators 4 = .ok (.ifCond .ne 5, 3) := by decide +kernel
theorem dX12_countGenerators_7 : decode cX12_countGenerators 7 = .ok (.iconst (-1), 1) := by decide +kernel
theorem dX12_countGenerators_8 : decode cX12_countGenerators 8 = .ok (.ireturn, 1) := by decide +kernel
theorem dX12_countGenerators_9 : decode cX12_countGenerators 9 = .ok (.aload_n 0, 1) := by decide +kernel
theorem dX12_countGenerators_10 : decode cX12_countGenerators 10 = .ok (.iload_n 1, 1) := by decide +kernel
theorem dX12_countGenerators_11 : decode cX12_countGenerators 11 = .ok (.iload_n 2, 1) := by decide +kernel
theorem dX12_countGenerators_12 : decode cX12_countGenerators 12 = .ok (.invokevirtual 188, 3) := by decide +kernel
theorem dX12_countGenerators_15 : decode cX12_countGenerators 15 = .ok (.aload_n 0, 1) := by decide +kernel
theorem dX12_countGenerators_16 : decode cX12_countGenerators 16 = .ok (.getfield 177, 3) := by decide +kernel
theorem dX12_countGenerators_19 : decode cX12_countGenerators 19 = .ok (.ireturn, 1) := by decide +kernel
theorem dX12_generatorAt_0 : decode cX12_generatorAt 0 = .ok (.iload_n 1, 1) := by decide +kernel
theorem dX12_generatorAt_1 : decode cX12_generatorAt 1 = .ok (.invokestatic 185, 3) := by decide +kernel
theorem dX12_generatorAt_4 : decode cX12_generatorAt 4 = .ok (.ifCond .eq 7, 3) := by decide +kernel
theorem dX12_generatorAt_7 : decode cX12_generatorAt 7 = .ok (.iload_n 3, 1) := by decide +kernel
theorem dX12_generatorAt_8 : decode cX12_generatorAt 8 = .ok (.ifCond .ge 5, 3) := by decide +kernel
theorem dX12_generatorAt_11 : decode cX12_generatorAt 11 = .ok (.iconst (-1), 1) := by decide +kernel
theorem dX12_generatorAt_12 : decode cX12_generatorAt 12 = .ok (.ireturn, 1) := by decide +kernel
theorem dX12_generatorAt_13 : decode cX12_generatorAt 13 = .ok (.aload_n 0, 1) := by decide +kernel
theorem dX12_generatorAt_14 : decode cX12_generatorAt 14 = .ok (.iload_n 1, 1) := by decide +kernel
theorem dX12_generatorAt_15 : decode cX12_generatorAt 15 = .ok (.iload_n 2, 1) := by decide +kernel
theorem dX12_generatorAt_16 : decode cX12_generatorAt 16 = .ok (.invokevirtual 188, 3) := by decide +kernel
theorem dX12_generatorAt_19 : decode cX12_generatorAt 19 = .ok (.iload_n 3, 1) := by decide +kernel
theorem dX12_generatorAt_20 : decode cX12_generatorAt 20 = .ok (.aload_n 0, 1) := by decide +kernel
theorem dX12_generatorAt_21 : decode cX12_generatorAt 21 = .ok (.getfield 177, 3) := by decide +kernel
theorem dX12_generatorAt_24 : decode cX12_generatorAt 24 = .ok (.if_icmp .ge 12, 3) := by decide +kernel
theorem dX12_generatorAt_27 : decode cX12_generatorAt 27 = .ok (.aload_n 0, 1) := by decide +kernel
theorem dX12_generatorAt_28 : decode cX12_generatorAt 28 = .ok (.getfield 41, 3) := by decide +kernel
theorem dX12_generatorAt_31 : decode cX12_generatorAt 31 = .ok (.iload_n 3, 1) := by decide +kernel
theorem dX12_generatorAt_32 : decode cX12_generatorAt 32 = .ok (.iaload, 1) := by decide +kernel
theorem dX12_generatorAt_33 : decode cX12_generatorAt 33 = .ok (.goto 5, 3) := by decide +kernel
theorem dX12_generatorAt_36 : decode cX12_generatorAt 36 = .ok (.bipush (-2), 2) := by decide +kernel
theorem dX12_generatorAt_38 : decode cX12_generatorAt 38 = .ok (.ireturn, 1) := by decide +kernel
theorem dX12_generatorCount_0 : decode cX12_generatorCount 0 = .ok (.aload_n 0, 1) := by decide +kernel
theorem dX12_generatorCount_1 : decode cX12_generatorCount 1 = .ok (.iload_n 1, 1) := by decide +kernel
theorem dX12_generatorCount_2 : decode cX12_generatorCount 2 = .ok (.iconst 0, 1) := by decide +kernel
theorem dX12_generatorCount_3 : decode cX12_generatorCount 3 = .ok (.invokevirtual 192, 3) := by decide +kernel
theorem dX12_generatorCount_6 : decode cX12_generatorCount 6 = .ok (.ireturn, 1) := by decide +kernel
theorem dX12_generator_0 : decode cX12_generator 0 = .ok (.aload_n 0, 1) := by decide +kernel
theorem dX12_generator_1 : decode cX12_generator 1 = .ok (.iload_n 1, 1) := by decide +kernel
theorem dX12_generator_2 : decode cX12_generator 2 = .ok (.iconst 0, 1) := by decide +kernel
theorem dX12_generator_3 : decode cX12_generator 3 = .ok (.iload_n 2, 1) := by decide +kernel
theorem dX12_generator_4 : decode cX12_generator 4 = .ok (.invokevirtual 196, 3) := by decide +kernel
theorem dX12_generator_7 : decode cX12_generator 7 = .ok (.ireturn, 1) := by decide +kernel
theorem dX12_symbolicGeneratorCount_0 : decode cX12_symbolicGeneratorCount 0 = .ok (.aload_n 0, 1) := by decide +kernel
theorem dX12_symbolicGeneratorCount_1 : decode cX12_symbolicGeneratorCount 1 = .ok (.iload_n 1, 1) := by decide +kernel
theorem dX12_symbolicGeneratorCount_2 : decode cX12_symbolicGeneratorCount 2 = .ok (.iconst 1, 1) := by decide +kernel
theorem dX12_symbolicGeneratorCount_3 : decode cX12_symbolicGeneratorCount 3 = .ok (.invokevirtual 192, 3) := by decide +kernel
theorem dX12_symbolicGeneratorCount_6 : decode cX12_symbolicGeneratorCount 6 = .ok (.ireturn, 1) := by decide +kernel
theorem dX12_symbolicGenerator_0 : decode cX12_symbolicGenerator 0 = .ok (.aload_n 0, 1) := by decide +kernel
theorem dX12_symbolicGenerator_1 : decode cX12_symbolicGenerator 1 = .ok (.iload_n 1, 1) := by decide +kernel
theorem dX12_symbolicGenerator_2 : decode cX12_symbolicGenerator 2 = .ok (.iconst 1, 1) := by decide +kernel
theorem dX12_symbolicGenerator_3 : decode cX12_symbolicGenerator 3 = .ok (.iload_n 2, 1) := by decide +kernel
theorem dX12_symbolicGenerator_4 : decode cX12_symbolicGenerator 4 = .ok (.invokevirtual 196, 3) := by decide +kernel
theorem dX12_symbolicGenerator_7 : decode cX12_symbolicGenerator 7 = .ok (.ireturn, 1) := by decide +kernel
theorem dX12_powersAgree_0 : decode cX12_powersAgree 0 = .ok (.iload_n 1, 1) := by decide +kernel
theorem dX12_powersAgree_1 : decode cX12_powersAgree 1 = .ok (.invokestatic 185, 3) := by decide +kernel
theorem dX12_powersAgree_4 : decode cX12_powersAgree 4 = .ok (.ifCond .ne 5, 3) := by decide +kernel
theorem dX12_powersAgree_7 : decode cX12_powersAgree 7 = .ok (.iconst (-1), 1) := by decide +kernel
theorem dX12_powersAgree_8 : decode cX12_powersAgree 8 = .ok (.ireturn, 1) := by decide +kernel
theorem dX12_powersAgree_9 : decode cX12_powersAgree 9 = .ok (.aload_n 0, 1) := by decide +kernel
theorem dX12_powersAgree_10 : decode cX12_powersAgree 10 = .ok (.invokevirtual 144, 3) := by decide +kernel
theorem dX12_powersAgree_13 : decode cX12_powersAgree 13 = .ok (.iconst 0, 1) := by decide +kernel
theorem dX12_powersAgree_14 : decode cX12_powersAgree 14 = .ok (.istore_n 2, 1) := by decide +kernel
theorem dX12_powersAgree_15 : decode cX12_powersAgree 15 = .ok (.iload_n 2, 1) := by decide +kernel
theorem dX12_powersAgree_16 : decode cX12_powersAgree 16 = .ok (.aload_n 0, 1) := by decide +kernel
theorem dX12_powersAgree_17 : decode cX12_powersAgree 17 = .ok (.invokevirtual 125, 3) := by decide +kernel
theorem dX12_powersAgree_20 : decode cX12_powersAgree 20 = .ok (.if_icmp .ge 28, 3) := by decide +kernel
theorem dX12_powersAgree_23 : decode cX12_powersAgree 23 = .ok (.aload_n 0, 1) := by decide +kernel
theorem dX12_powersAgree_24 : decode cX12_powersAgree 24 = .ok (.iload_n 2, 1) := by decide +kernel
theorem dX12_powersAgree_25 : decode cX12_powersAgree 25 = .ok (.iload_n 1, 1) := by decide +kernel
theorem dX12_powersAgree_26 : decode cX12_powersAgree 26 = .ok (.iconst 0, 1) := by decide +kernel
theorem dX12_powersAgree_27 : decode cX12_powersAgree 27 = .ok (.invokevirtual 180, 3) := by decide +kernel
theorem dX12_powersAgree_30 : decode cX12_powersAgree 30 = .ok (.aload_n 0, 1) := by decide +kernel
theorem dX12_powersAgree_31 : decode cX12_powersAgree 31 = .ok (.iload_n 2, 1) := by decide +kernel
theorem dX12_powersAgree_32 : decode cX12_powersAgree 32 = .ok (.iload_n 1, 1) := by decide +kernel
theorem dX12_powersAgree_33 : decode cX12_powersAgree 33 = .ok (.iconst 1, 1) := by decide +kernel
theorem dX12_powersAgree_34 : decode cX12_powersAgree 34 = .ok (.invokevirtual 180, 3) := by decide +kernel
theorem dX12_powersAgree_37 : decode cX12_powersAgree 37 = .ok (.if_icmp .eq 5, 3) := by decide +kernel
theorem dX12_powersAgree_40 : decode cX12_powersAgree 40 = .ok (.iconst 0, 1) := by decide +kernel
theorem dX12_powersAgree_41 : decode cX12_powersAgree 41 = .ok (.ireturn, 1) := by decide +kernel
theorem dX12_powersAgree_42 : decode cX12_powersAgree 42 = .ok (.iinc 2 1, 3) := by decide +kernel
theorem dX12_powersAgree_45 : decode cX12_powersAgree 45 = .ok (.goto (-30), 3) := by decide +kernel
theorem dX12_powersAgree_48 : decode cX12_powersAgree 48 = .ok (.iconst 1, 1) := by decide +kernel
theorem dX12_powersAgree_49 : decode cX12_powersAgree 49 = .ok (.ireturn, 1) := by decide +kernel
theorem dX12_firstDifference_0 : decode cX12_firstDifference 0 = .ok (.iload_n 1, 1) := by decide +kernel
theorem dX12_firstDifference_1 : decode cX12_firstDifference 1 = .ok (.invokestatic 185, 3) := by decide +kernel
theorem dX12_firstDifference_4 : decode cX12_firstDifference 4 = .ok (.ifCond .ne 5, 3) := by decide +kernel
theorem dX12_firstDifference_7 : decode cX12_firstDifference 7 = .ok (.iconst (-1), 1) := by decide +kernel
theorem dX12_firstDifference_8 : decode cX12_firstDifference 8 = .ok (.ireturn, 1) := by decide +kernel
theorem dX12_firstDifference_9 : decode cX12_firstDifference 9 = .ok (.aload_n 0, 1) := by decide +kernel
theorem dX12_firstDifference_10 : decode cX12_firstDifference 10 = .ok (.invokevirtual 144, 3) := by decide +kernel
theorem dX12_firstDifference_13 : decode cX12_firstDifference 13 = .ok (.iconst 0, 1) := by decide +kernel
theorem dX12_firstDifference_14 : decode cX12_firstDifference 14 = .ok (.istore_n 2, 1) := by decide +kernel
theorem dX12_firstDifference_15 : decode cX12_firstDifference 15 = .ok (.iload_n 2, 1) := by decide +kernel
theorem dX12_firstDifference_16 : decode cX12_firstDifference 16 = .ok (.aload_n 0, 1) := by decide +kernel
theorem dX12_firstDifference_17 : decode cX12_firstDifference 17 = .ok (.invokevirtual 125, 3) := by decide +kernel
theorem dX12_firstDifference_20 : decode cX12_firstDifference 20 = .ok (.if_icmp .ge 31, 3) := by decide +kernel
theorem dX12_firstDifference_23 : decode cX12_firstDifference 23 = .ok (.aload_n 0, 1) := by decide +kernel
theorem dX12_firstDifference_24 : decode cX12_firstDifference 24 = .ok (.iload_n 2, 1) := by decide +kernel
theorem dX12_firstDifference_25 : decode cX12_firstDifference 25 = .ok (.iload_n 1, 1) := by decide +kernel
theorem dX12_firstDifference_26 : decode cX12_firstDifference 26 = .ok (.iconst 1, 1) := by decide +kernel
theorem dX12_firstDifference_27 : decode cX12_firstDifference 27 = .ok (.invokevirtual 180, 3) := by decide +kernel
theorem dX12_firstDifference_30 : decode cX12_firstDifference 30 = .ok (.ifCond .eq 15, 3) := by decide +kernel
theorem dX12_firstDifference_33 : decode cX12_firstDifference 33 = .ok (.aload_n 0, 1) := by decide +kernel
theorem dX12_firstDifference_34 : decode cX12_firstDifference 34 = .ok (.iload_n 2, 1) := by decide +kernel
theorem dX12_firstDifference_35 : decode cX12_firstDifference 35 = .ok (.iload_n 1, 1) := by decide +kernel
theorem dX12_firstDifference_36 : decode cX12_firstDifference 36 = .ok (.iconst 0, 1) := by decide +kernel
theorem dX12_firstDifference_37 : decode cX12_firstDifference 37 = .ok (.invokevirtual 173, 3) := by decide +kernel
theorem dX12_firstDifference_40 : decode cX12_firstDifference 40 = .ok (.ifCond .ne 5, 3) := by decide +kernel
theorem dX12_firstDifference_43 : decode cX12_firstDifference 43 = .ok (.iload_n 2, 1) := by decide +kernel
theorem dX12_firstDifference_44 : decode cX12_firstDifference 44 = .ok (.ireturn, 1) := by decide +kernel
theorem dX12_firstDifference_45 : decode cX12_firstDifference 45 = .ok (.iinc 2 1, 3) := by decide +kernel
theorem dX12_firstDifference_48 : decode cX12_firstDifference 48 = .ok (.goto (-33), 3) := by decide +kernel
theorem dX12_firstDifference_51 : decode cX12_firstDifference 51 = .ok (.bipush (-2), 2) := by decide +kernel
theorem dX12_firstDifference_53 : decode cX12_firstDifference 53 = .ok (.ireturn, 1) := by decide +kernel
theorem dX12_countIn_0 : decode cX12_countIn 0 = .ok (.iload_n 1, 1) := by decide +kernel
theorem dX12_countIn_1 : decode cX12_countIn 1 = .ok (.invokestatic 185, 3) := by decide +kernel
theorem dX12_countIn_4 : decode cX12_countIn 4 = .ok (.ifCond .eq 15, 3) := by decide +kernel
theorem dX12_countIn_7 : decode cX12_countIn 7 = .ok (.iload_n 2, 1) := by decide +kernel
theorem dX12_countIn_8 : decode cX12_countIn 8 = .ok (.i2l, 1) := by decide +kernel
theorem dX12_countIn_9 : decode cX12_countIn 9 = .ok (.lconst 0, 1) := by decide +kernel
theorem dX12_countIn_10 : decode cX12_countIn 10 = .ok (.ldc2_w 200, 3) := by decide +kernel
theorem dX12_countIn_13 : decode cX12_countIn 13 = .ok (.invokestatic 79, 3) := by decide +kernel
theorem dX12_countIn_16 : decode cX12_countIn 16 = .ok (.ifCond .ne 5, 3) := by decide +kernel
theorem dX12_countIn_19 : decode cX12_countIn 19 = .ok (.iconst (-1), 1) := by decide +kernel
theorem dX12_countIn_20 : decode cX12_countIn 20 = .ok (.ireturn, 1) := by decide +kernel
theorem dX12_countIn_21 : decode cX12_countIn 21 = .ok (.aload_n 0, 1) := by decide +kernel
theorem dX12_countIn_22 : decode cX12_countIn 22 = .ok (.invokevirtual 144, 3) := by decide +kernel
theorem dX12_countIn_25 : decode cX12_countIn 25 = .ok (.iconst 0, 1) := by decide +kernel
theorem dX12_countIn_26 : decode cX12_countIn 26 = .ok (.istore 4, 2) := by decide +kernel
theorem dX12_countIn_28 : decode cX12_countIn 28 = .ok (.iconst 0, 1) := by decide +kernel
theorem dX12_countIn_29 : decode cX12_countIn 29 = .ok (.istore 5, 2) := by decide +kernel
theorem dX12_countIn_31 : decode cX12_countIn 31 = .ok (.iload 5, 2) := by decide +kernel
theorem dX12_countIn_33 : decode cX12_countIn 33 = .ok (.aload_n 0, 1) := by decide +kernel
theorem dX12_countIn_34 : decode cX12_countIn 34 = .ok (.invokevirtual 125, 3) := by decide +kernel
theorem dX12_countIn_37 : decode cX12_countIn 37 = .ok (.if_icmp .ge 39, 3) := by decide +kernel
theorem dX12_countIn_40 : decode cX12_countIn 40 = .ok (.iload 4, 2) := by decide +kernel
theorem dX12_countIn_42 : decode cX12_countIn 42 = .ok (.iload 5, 2) := by decide +kernel
theorem dX12_countIn_44 : decode cX12_countIn 44 = .ok (.invokestatic 163, 3) := by decide +kernel
theorem dX12_countIn_47 : decode cX12_countIn 47 = .ok (.iload_n 2, 1) := by decide +kernel
theorem dX12_countIn_48 : decode cX12_countIn 48 = .ok (.if_icmp .ne 18, 3) := by decide +kernel
theorem dX12_countIn_51 : decode cX12_countIn 51 = .ok (.aload_n 0, 1) := by decide +kernel
theorem dX12_countIn_52 : decode cX12_countIn 52 = .ok (.iload 5, 2) := by decide +kernel
theorem dX12_countIn_54 : decode cX12_countIn 54 = .ok (.iload_n 1, 1) := by decide +kernel
theorem dX12_countIn_55 : decode cX12_countIn 55 = .ok (.iload_n 3, 1) := by decide +kernel
theorem dX12_countIn_56 : decode cX12_countIn 56 = .ok (.invokevirtual 173, 3) := by decide +kernel
theorem dX12_countIn_59 : decode cX12_countIn 59 = .ok (.ifCond .eq 7, 3) := by decide +kernel
theorem dX12_countIn_62 : decode cX12_countIn 62 = .ok (.iconst 1, 1) := by decide +kernel
theorem dX12_countIn_63 : decode cX12_countIn 63 = .ok (.goto 4, 3) := by decide +kernel
theorem dX12_countIn_66 : decode cX12_countIn 66 = .ok (.iconst 0, 1) := by decide +kernel
theorem dX12_countIn_67 : decode cX12_countIn 67 = .ok (.iadd, 1) := by decide +kernel
theorem dX12_countIn_68 : decode cX12_countIn 68 = .ok (.istore 4, 2) := by decide +kernel
theorem dX12_countIn_70 : decode cX12_countIn 70 = .ok (.iinc 5 1, 3) := by decide +kernel
theorem dX12_countIn_73 : decode cX12_countIn 73 = .ok (.goto (-42), 3) := by decide +kernel
theorem dX12_countIn_76 : decode cX12_countIn 76 = .ok (.iload 4, 2) := by decide +kernel
theorem dX12_countIn_78 : decode cX12_countIn 78 = .ok (.ireturn, 1) := by decide +kernel
theorem dX12_countInPower_0 : decode cX12_countInPower 0 = .ok (.aload_n 0, 1) := by decide +kernel
theorem dX12_countInPower_1 : decode cX12_countInPower 1 = .ok (.iload_n 1, 1) := by decide +kernel
theorem dX12_countInPower_2 : decode cX12_countInPower 2 = .ok (.iload_n 2, 1) := by decide +kernel
theorem dX12_countInPower_3 : decode cX12_countInPower 3 = .ok (.iconst 0, 1) := by decide +kernel
theorem dX12_countInPower_4 : decode cX12_countInPower 4 = .ok (.invokevirtual 202, 3) := by decide +kernel
theorem dX12_countInPower_7 : decode cX12_countInPower 7 = .ok (.ireturn, 1) := by decide +kernel
theorem dX12_countInSymbolicPower_0 : decode cX12_countInSymbolicPower 0 = .ok (.aload_n 0, 1) := by decide +kernel
theorem dX12_countInSymbolicPower_1 : decode cX12_countInSymbolicPower 1 = .ok (.iload_n 1, 1) := by decide +kernel
theorem dX12_countInSymbolicPower_2 : decode cX12_countInSymbolicPower 2 = .ok (.iload_n 2, 1) := by decide +kernel
theorem dX12_countInSymbolicPower_3 : decode cX12_countInSymbolicPower 3 = .ok (.iconst 1, 1) := by decide +kernel
theorem dX12_countInSymbolicPower_4 : decode cX12_countInSymbolicPower 4 = .ok (.invokevirtual 202, 3) := by decide +kernel
theorem dX12_countInSymbolicPower_7 : decode cX12_countInSymbolicPower 7 = .ok (.ireturn, 1) := by decide +kernel
theorem dX12_readOrder_0 : decode cX12_readOrder 0 = .ok (.iconst 0, 1) := by decide +kernel
theorem dX12_readOrder_1 : decode cX12_readOrder 1 = .ok (.istore_n 2, 1) := by decide +kernel
theorem dX12_readOrder_2 : decode cX12_readOrder 2 = .ok (.iload_n 1, 1) := by decide +kernel
theorem dX12_readOrder_3 : decode cX12_readOrder 3 = .ok (.istore_n 3, 1) := by decide +kernel
theorem dX12_readOrder_4 : decode cX12_readOrder 4 = .ok (.aload_n 0, 1) := by decide +kernel
theorem dX12_readOrder_5 : decode cX12_readOrder 5 = .ok (.getfield 9, 3) := by decide +kernel
theorem dX12_readOrder_8 : decode cX12_readOrder 8 = .ok (.iconst 1, 1) := by decide +kernel
theorem dX12_readOrder_9 : decode cX12_readOrder 9 = .ok (.isub, 1) := by decide +kernel
theorem dX12_readOrder_10 : decode cX12_readOrder 10 = .ok (.istore 4, 2) := by decide +kernel
theorem dX12_readOrder_12 : decode cX12_readOrder 12 = .ok (.iload 4, 2) := by decide +kernel
theorem dX12_readOrder_14 : decode cX12_readOrder 14 = .ok (.ifCond .lt 59, 3) := by decide +kernel
theorem dX12_readOrder_17 : decode cX12_readOrder 17 = .ok (.iload_n 3, 1) := by decide +kernel
theorem dX12_readOrder_18 : decode cX12_readOrder 18 = .ok (.bipush 10, 2) := by decide +kernel
theorem dX12_readOrder_20 : decode cX12_readOrder 20 = .ok (.irem, 1) := by decide +kernel
theorem dX12_readOrder_21 : decode cX12_readOrder 21 = .ok (.iconst 1, 1) := by decide +kernel
theorem dX12_readOrder_22 : decode cX12_readOrder 22 = .ok (.isub, 1) := by decide +kernel
theorem dX12_readOrder_23 : decode cX12_readOrder 23 = .ok (.istore 5, 2) := by decide +kernel
theorem dX12_readOrder_25 : decode cX12_readOrder 25 = .ok (.aload_n 0, 1) := by decide +kernel
theorem dX12_readOrder_26 : decode cX12_readOrder 26 = .ok (.iload 5, 2) := by decide +kernel
theorem dX12_readOrder_28 : decode cX12_readOrder 28 = .ok (.invokevirtual 88, 3) := by decide +kernel
theorem dX12_readOrder_31 : decode cX12_readOrder 31 = .ok (.ifCond .eq 13, 3) := by decide +kernel
theorem dX12_readOrder_34 : decode cX12_readOrder 34 = .ok (.iload_n 2, 1) := by decide +kernel
theorem dX12_readOrder_35 : decode cX12_readOrder 35 = .ok (.iload 5, 2) := by decide +kernel
theorem dX12_readOrder_37 : decode cX12_readOrder 37 = .ok (.ishr, 1) := by decide +kernel
theorem dX12_readOrder_38 : decode cX12_readOrder 38 = .ok (.iconst 1, 1) := by decide +kernel
theorem dX12_readOrder_39 : decode cX12_readOrder 39 = .ok (.iand, 1) := by decide +kernel
theorem dX12_readOrder_40 : decode cX12_readOrder 40 = .ok (.iconst 1, 1) := by decide +kernel
theorem dX12_readOrder_41 : decode cX12_readOrder 41 = .ok (.if_icmp .ne 5, 3) := by decide +kernel
theorem dX12_readOrder_44 : decode cX12_readOrder 44 = .ok (.iconst 0, 1) := by decide +kernel
theorem dX12_readOrder_45 : decode cX12_readOrder 45 = .ok (.ireturn, 1) := by decide +kernel
theorem dX12_readOrder_46 : decode cX12_readOrder 46 = .ok (.iload_n 2, 1) := by decide +kernel
theorem dX12_readOrder_47 : decode cX12_readOrder 47 = .ok (.iconst 1, 1) := by decide +kernel
theorem dX12_readOrder_48 : decode cX12_readOrder 48 = .ok (.iload 5, 2) := by decide +kernel
theorem dX12_readOrder_50 : decode cX12_readOrder 50 = .ok (.ishl, 1) := by decide +kernel
theorem dX12_readOrder_51 : decode cX12_readOrder 51 = .ok (.ior, 1) := by decide +kernel
theorem dX12_readOrder_52 : decode cX12_readOrder 52 = .ok (.istore_n 2, 1) := by decide +kernel
theorem dX12_readOrder_53 : decode cX12_readOrder 53 = .ok (.aload_n 0, 1) := by decide +kernel
theorem dX12_readOrder_54 : decode cX12_readOrder 54 = .ok (.getfield 44, 3) := by decide +kernel
theorem dX12_readOrder_57 : decode cX12_readOrder 57 = .ok (.iload 4, 2) := by decide +kernel
theorem dX12_readOrder_59 : decode cX12_readOrder 59 = .ok (.iload 5, 2) := by decide +kernel
theorem dX12_readOrder_61 : decode cX12_readOrder 61 = .ok (.iastore, 1) := by decide +kernel
theorem dX12_readOrder_62 : decode cX12_readOrder 62 = .ok (.iload_n 3, 1) := by decide +kernel
theorem dX12_readOrder_63 : decode cX12_readOrder 63 = .ok (.bipush 10, 2) := by decide +kernel
theorem dX12_readOrder_65 : decode cX12_readOrder 65 = .ok (.idiv, 1) := by decide +kernel
theorem dX12_readOrder_66 : decode cX12_readOrder 66 = .ok (.istore_n 3, 1) := by decide +kernel
theorem dX12_readOrder_67 : decode cX12_readOrder 67 = .ok (.iinc 4 (-1), 3) := by decide +kernel
theorem dX12_readOrder_70 : decode cX12_readOrder 70 = .ok (.goto (-58), 3) := by decide +kernel
theorem dX12_readOrder_73 : decode cX12_readOrder 73 = .ok (.iload_n 3, 1) := by decide +kernel
theorem dX12_readOrder_74 : decode cX12_readOrder 74 = .ok (.ifCond .ne 7, 3) := by decide +kernel
theorem dX12_readOrder_77 : decode cX12_readOrder 77 = .ok (.iconst 1, 1) := by decide +kernel
theorem dX12_readOrder_78 : decode cX12_readOrder 78 = .ok (.goto 4, 3) := by decide +kernel
theorem dX12_readOrder_81 : decode cX12_readOrder 81 = .ok (.iconst 0, 1) := by decide +kernel
theorem dX12_readOrder_82 : decode cX12_readOrder 82 = .ok (.ireturn, 1) := by decide +kernel
theorem dX12_isBefore_0 : decode cX12_isBefore 0 = .ok (.iconst 0, 1) := by decide +kernel
theorem dX12_isBefore_1 : decode cX12_isBefore 1 = .ok (.istore_n 3, 1) := by decide +kernel
theorem dX12_isBefore_2 : decode cX12_isBefore 2 = .ok (.iload_n 3, 1) := by decide +kernel
theorem dX12_isBefore_3 : decode cX12_isBefore 3 = .ok (.aload_n 0, 1) := by decide +kernel
theorem dX12_isBefore_4 : decode cX12_isBefore 4 = .ok (.getfield 9, 3) := by decide +kernel
theorem dX12_isBefore_7 : decode cX12_isBefore 7 = .ok (.if_icmp .ge 48, 3) := by decide +kernel
theorem dX12_isBefore_10 : decode cX12_isBefore 10 = .ok (.iload_n 1, 1) := by decide +kernel
theorem dX12_isBefore_11 : decode cX12_isBefore 11 = .ok (.aload_n 0, 1) := by decide +kernel
theorem dX12_isBefore_12 : decode cX12_isBefore 12 = .ok (.getfield 44, 3) := by decide +kernel
theorem dX12_isBefore_15 : decode cX12_isBefore 15 = .ok (.iload_n 3, 1) := by decide +kernel
theorem dX12_isBefore_16 : decode cX12_isBefore 16 = .ok (.iaload, 1) := by decide +kernel
theorem dX12_isBefore_17 : decode cX12_isBefore 17 = .ok (.invokestatic 128, 3) := by decide +kernel
theorem dX12_isBefore_20 : decode cX12_isBefore 20 = .ok (.iload_n 2, 1) := by decide +kernel
theorem dX12_isBefore_21 : decode cX12_isBefore 21 = .ok (.aload_n 0, 1) := by decide +kernel
theorem dX12_isBefore_22 : decode cX12_isBefore 22 = .ok (.getfield 44, 3) := by decide +kernel
theorem dX12_isBefore_25 : decode cX12_isBefore 25 = .ok (.iload_n 3, 1) := by decide +kernel
theorem dX12_isBefore_26 : decode cX12_isBefore 26 = .ok (.iaload, 1) := by decide +kernel
theorem dX12_isBefore_27 : decode cX12_isBefore 27 = .ok (.invokestatic 128, 3) := by decide +kernel
theorem dX12_isBefore_30 : decode cX12_isBefore 30 = .ok (.isub, 1) := by decide +kernel
theorem dX12_isBefore_31 : decode cX12_isBefore 31 = .ok (.istore 4, 2) := by decide +kernel
theorem dX12_isBefore_33 : decode cX12_isBefore 33 = .ok (.iload 4, 2) := by decide +kernel
theorem dX12_isBefore_35 : decode cX12_isBefore 35 = .ok (.ifCond .eq 14, 3) := by decide +kernel
theorem dX12_isBefore_38 : decode cX12_isBefore 38 = .ok (.iload 4, 2) := by decide +kernel
theorem dX12_isBefore_40 : decode cX12_isBefore 40 = .ok (.ifCond .le 7, 3) := by decide +kernel
theorem dX12_isBefore_43 : decode cX12_isBefore 43 = .ok (.iconst 1, 1) := by decide +kernel
theorem dX12_isBefore_44 : decode cX12_isBefore 44 = .ok (.goto 4, 3) := by decide +kernel
theorem dX12_isBefore_47 : decode cX12_isBefore 47 = .ok (.iconst 0, 1) := by decide +kernel
theorem dX12_isBefore_48 : decode cX12_isBefore 48 = .ok (.ireturn, 1) := by decide +kernel
theorem dX12_isBefore_49 : decode cX12_isBefore 49 = .ok (.iinc 3 1, 3) := by decide +kernel
theorem dX12_isBefore_52 : decode cX12_isBefore 52 = .ok (.goto (-50), 3) := by decide +kernel
theorem dX12_isBefore_55 : decode cX12_isBefore 55 = .ok (.iconst 0, 1) := by decide +kernel
theorem dX12_isBefore_56 : decode cX12_isBefore 56 = .ok (.ireturn, 1) := by decide +kernel
theorem dX12_sortGenerators_0 : decode cX12_sortGenerators 0 = .ok (.aload_n 0, 1) := by decide +kernel
theorem dX12_sortGenerators_1 : decode cX12_sortGenerators 1 = .ok (.iload_n 1, 1) := by decide +kernel
theorem dX12_sortGenerators_2 : decode cX12_sortGenerators 2 = .ok (.iconst 0, 1) := by decide +kernel
theorem dX12_sortGenerators_3 : decode cX12_sortGenerators 3 = .ok (.invokevirtual 188, 3) := by decide +kernel
theorem dX12_sortGenerators_6 : decode cX12_sortGenerators 6 = .ok (.iconst 1, 1) := by decide +kernel
theorem dX12_sortGenerators_7 : decode cX12_sortGenerators 7 = .ok (.istore_n 2, 1) := by decide +kernel
theorem dX12_sortGenerators_8 : decode cX12_sortGenerators 8 = .ok (.iload_n 2, 1) := by decide +kernel
theorem dX12_sortGenerators_9 : decode cX12_sortGenerators 9 = .ok (.aload_n 0, 1) := by decide +kernel
theorem dX12_sortGenerators_10 : decode cX12_sortGenerators 10 = .ok (.getfield 177, 3) := by decide +kernel
theorem dX12_sortGenerators_13 : decode cX12_sortGenerators 13 = .ok (.if_icmp .ge 71, 3) := by decide +kernel
theorem dX12_sortGenerators_16 : decode cX12_sortGenerators 16 = .ok (.aload_n 0, 1) := by decide +kernel
theorem dX12_sortGenerators_17 : decode cX12_sortGenerators 17 = .ok (.getfield 41, 3) := by decide +kernel
theorem dX12_sortGenerators_20 : decode cX12_sortGenerators 20 = .ok (.iload_n 2, 1) := by decide +kernel
theorem dX12_sortGenerators_21 : decode cX12_sortGenerators 21 = .ok (.iaload, 1) := by decide +kernel
theorem dX12_sortGenerators_22 : decode cX12_sortGenerators 22 = .ok (.istore_n 3, 1) := by decide +kernel
theorem dX12_sortGenerators_23 : decode cX12_sortGenerators 23 = .ok (.iload_n 2, 1) := by decide +kernel
theorem dX12_sortGenerators_24 : decode cX12_sortGenerators 24 = .ok (.istore 4, 2) := by decide +kernel
theorem dX12_sortGenerators_26 : decode cX12_sortGenerators 26 = .ok (.iload 4, 2) := by decide +kernel
theorem dX12_sortGenerators_28 : decode cX12_sortGenerators 28 = .ok (.ifCond .le 42, 3) := by decide +kernel
theorem dX12_sortGenerators_31 : decode cX12_sortGenerators 31 = .ok (.aload_n 0, 1) := by decide +kernel
theorem dX12_sortGenerators_32 : decode cX12_sortGenerators 32 = .ok (.iload_n 3, 1) := by decide +kernel
theorem dX12_sortGenerators_33 : decode cX12_sortGenerators 33 = .ok (.aload_n 0, 1) := by decide +kernel
theorem dX12_sortGenerators_34 : decode cX12_sortGenerators 34 = .ok (.getfield 41, 3) := by decide +kernel
theorem dX12_sortGenerators_37 : decode cX12_sortGenerators 37 = .ok (.iload 4, 2) := by decide +kernel
theorem dX12_sortGenerators_39 : decode cX12_sortGenerators 39 = .ok (.iconst 1, 1) := by decide +kernel
theorem dX12_sortGenerators_40 : decode cX12_sortGenerators 40 = .ok (.isub, 1) := by decide +kernel
theorem dX12_sortGenerators_41 : decode cX12_sortGenerators 41 = .ok (.iaload, 1) := by decide +kernel
theorem dX12_sortGenerators_42 : decode cX12_sortGenerators 42 = .ok (.invokevirtual 205, 3) := by decide +kernel
theorem dX12_sortGenerators_45 : decode cX12_sortGenerators 45 = .ok (.ifCond .eq 25, 3) := by decide +kernel
theorem dX12_sortGenerators_48 : decode cX12_sortGenerators 48 = .ok (.aload_n 0, 1) := by decide +kernel
theorem dX12_sortGenerators_49 : decode cX12_sortGenerators 49 = .ok (.getfield 41, 3) := by decide +kernel
theorem dX12_sortGenerators_52 : decode cX12_sortGenerators 52 = .ok (.iload 4, 2) := by decide +kernel
theorem dX12_sortGenerators_54 : decode cX12_sortGenerators 54 = .ok (.aload_n 0, 1) := by decide +kernel
theorem dX12_sortGenerators_55 : decode cX12_sortGenerators 55 = .ok (.getfield 41, 3) := by decide +kernel
theorem dX12_sortGenerators_58 : decode cX12_sortGenerators 58 = .ok (.iload 4, 2) := by decide +kernel
theorem dX12_sortGenerators_60 : decode cX12_sortGenerators 60 = .ok (.iconst 1, 1) := by decide +kernel
theorem dX12_sortGenerators_61 : decode cX12_sortGenerators 61 = .ok (.isub, 1) := by decide +kernel
theorem dX12_sortGenerators_62 : decode cX12_sortGenerators 62 = .ok (.iaload, 1) := by decide +kernel
theorem dX12_sortGenerators_63 : decode cX12_sortGenerators 63 = .ok (.iastore, 1) := by decide +kernel
theorem dX12_sortGenerators_64 : decode cX12_sortGenerators 64 = .ok (.iinc 4 (-1), 3) := by decide +kernel
theorem dX12_sortGenerators_67 : decode cX12_sortGenerators 67 = .ok (.goto (-41), 3) := by decide +kernel
theorem dX12_sortGenerators_70 : decode cX12_sortGenerators 70 = .ok (.aload_n 0, 1) := by decide +kernel
theorem dX12_sortGenerators_71 : decode cX12_sortGenerators 71 = .ok (.getfield 41, 3) := by decide +kernel
theorem dX12_sortGenerators_74 : decode cX12_sortGenerators 74 = .ok (.iload 4, 2) := by decide +kernel
theorem dX12_sortGenerators_76 : decode cX12_sortGenerators 76 = .ok (.iload_n 3, 1) := by decide +kernel
theorem dX12_sortGenerators_77 : decode cX12_sortGenerators 77 = .ok (.iastore, 1) := by decide +kernel
theorem dX12_sortGenerators_78 : decode cX12_sortGenerators 78 = .ok (.iinc 2 1, 3) := by decide +kernel
theorem dX12_sortGenerators_81 : decode cX12_sortGenerators 81 = .ok (.goto (-73), 3) := by decide +kernel
theorem dX12_sortGenerators_84 : decode cX12_sortGenerators 84 = .ok (.return_, 1) := by decide +kernel
theorem dX12_singleStep_0 : decode cX12_singleStep 0 = .ok (.bipush (-2), 2) := by decide +kernel
theorem dX12_singleStep_2 : decode cX12_singleStep 2 = .ok (.istore_n 3, 1) := by decide +kernel
theorem dX12_singleStep_3 : decode cX12_singleStep 3 = .ok (.iconst 0, 1) := by decide +kernel
theorem dX12_singleStep_4 : decode cX12_singleStep 4 = .ok (.istore 4, 2) := by decide +kernel
theorem dX12_singleStep_6 : decode cX12_singleStep 6 = .ok (.iload 4, 2) := by decide +kernel
theorem dX12_singleStep_8 : decode cX12_singleStep 8 = .ok (.aload_n 0, 1) := by decide +kernel
theorem dX12_singleStep_9 : decode cX12_singleStep 9 = .ok (.getfield 9, 3) := by decide +kernel
theorem dX12_singleStep_12 : decode cX12_singleStep 12 = .ok (.if_icmp .ge 58, 3) := by decide +kernel
theorem dX12_singleStep_15 : decode cX12_singleStep 15 = .ok (.iload_n 1, 1) := by decide +kernel
theorem dX12_singleStep_16 : decode cX12_singleStep 16 = .ok (.iload 4, 2) := by decide +kernel
theorem dX12_singleStep_18 : decode cX12_singleStep 18 = .ok (.invokestatic 128, 3) := by decide +kernel
theorem dX12_singleStep_21 : decode cX12_singleStep 21 = .ok (.iload_n 2, 1) := by decide +kernel
theorem dX12_singleStep_22 : decode cX12_singleStep 22 = .ok (.iload 4, 2) := by decide +kernel
theorem dX12_singleStep_24 : decode cX12_singleStep 24 = .ok (.invokestatic 128, 3) := by decide +kernel
theorem dX12_singleStep_27 : decode cX12_singleStep 27 = .ok (.isub, 1) := by decide +kernel
theorem dX12_singleStep_28 : decode cX12_singleStep 28 = .ok (.istore 5, 2) := by decide +kernel
theorem dX12_singleStep_30 : decode cX12_singleStep 30 = .ok (.iload 5, 2) := by decide +kernel
theorem dX12_singleStep_32 : decode cX12_singleStep 32 = .ok (.iconst 1, 1) := by decide +kernel
theorem dX12_singleStep_33 : decode cX12_singleStep 33 = .ok (.if_icmp .gt 15, 3) := by decide +kernel
theorem dX12_singleStep_36 : decode cX12_singleStep 36 = .ok (.iload 5, 2) := by decide +kernel
theorem dX12_singleStep_38 : decode cX12_singleStep 38 = .ok (.iconst 1, 1) := by decide +kernel
theorem dX12_singleStep_39 : decode cX12_singleStep 39 = .ok (.if_icmp .ne 12, 3) := by decide +kernel
theorem dX12_singleStep_42 : decode cX12_singleStep 42 = .ok (.iload_n 3, 1) := by decide +kernel
theorem dX12_singleStep_43 : decode cX12_singleStep 43 = .ok (.bipush (-2), 2) := by decide +kernel
theorem dX12_singleStep_45 : decode cX12_singleStep 45 = .ok (.if_icmp .eq 6, 3) := by decide +kernel
theorem dX12_singleStep_48 : decode cX12_singleStep 48 = .ok (.bipush (-2), 2) := by decide +kernel
theorem dX12_singleStep_50 : decode cX12_singleStep 50 = .ok (.ireturn, 1) := by decide +kernel
theorem dX12_singleStep_51 : decode cX12_singleStep 51 = .ok (.iload 5, 2) := by decide +kernel
theorem dX12_singleStep_53 : decode cX12_singleStep 53 = .ok (.iconst 1, 1) := by decide +kernel
theorem dX12_singleStep_54 : decode cX12_singleStep 54 = .ok (.if_icmp .ne 8, 3) := by decide +kernel
theorem dX12_singleStep_57 : decode cX12_singleStep 57 = .ok (.iload 4, 2) := by decide +kernel
theorem dX12_singleStep_59 : decode cX12_singleStep 59 = .ok (.goto 4, 3) := by decide +kernel
theorem dX12_singleStep_62 : decode cX12_singleStep 62 = .ok (.iload_n 3, 1) := by decide +kernel
theorem dX12_singleStep_63 : decode cX12_singleStep 63 = .ok (.istore_n 3, 1) := by decide +kernel
theorem dX12_singleStep_64 : decode cX12_singleStep 64 = .ok (.iinc 4 1, 3) := by decide +kernel
theorem dX12_singleStep_67 : decode cX12_singleStep 67 = .ok (.goto (-61), 3) := by decide +kernel
theorem dX12_singleStep_70 : decode cX12_singleStep 70 = .ok (.iload_n 3, 1) := by decide +kernel
theorem dX12_singleStep_71 : decode cX12_singleStep 71 = .ok (.ireturn, 1) := by decide +kernel
theorem dX12_colonSet_0 : decode cX12_colonSet 0 = .ok (.iconst 0, 1) := by decide +kernel
theorem dX12_colonSet_1 : decode cX12_colonSet 1 = .ok (.istore_n 2, 1) := by decide +kernel
theorem dX12_colonSet_2 : decode cX12_colonSet 2 = .ok (.iconst 0, 1) := by decide +kernel
theorem dX12_colonSet_3 : decode cX12_colonSet 3 = .ok (.istore_n 3, 1) := by decide +kernel
theorem dX12_colonSet_4 : decode cX12_colonSet 4 = .ok (.iload_n 3, 1) := by decide +kernel
theorem dX12_colonSet_5 : decode cX12_colonSet 5 = .ok (.iload_n 1, 1) := by decide +kernel
theorem dX12_colonSet_6 : decode cX12_colonSet 6 = .ok (.if_icmp .ge 45, 3) := by decide +kernel
theorem dX12_colonSet_9 : decode cX12_colonSet 9 = .ok (.aload_n 0, 1) := by decide +kernel
theorem dX12_colonSet_10 : decode cX12_colonSet 10 = .ok (.aload_n 0, 1) := by decide +kernel
theorem dX12_colonSet_11 : decode cX12_colonSet 11 = .ok (.getfield 41, 3) := by decide +kernel
theorem dX12_colonSet_14 : decode cX12_colonSet 14 = .ok (.iload_n 3, 1) := by decide +kernel
theorem dX12_colonSet_15 : decode cX12_colonSet 15 = .ok (.iaload, 1) := by decide +kernel
theorem dX12_colonSet_16 : decode cX12_colonSet 16 = .ok (.aload_n 0, 1) := by decide +kernel
theorem dX12_colonSet_17 : decode cX12_colonSet 17 = .ok (.getfield 41, 3) := by decide +kernel
theorem dX12_colonSet_20 : decode cX12_colonSet 20 = .ok (.iload_n 1, 1) := by decide +kernel
theorem dX12_colonSet_21 : decode cX12_colonSet 21 = .ok (.iaload, 1) := by decide +kernel
theorem dX12_colonSet_22 : decode cX12_colonSet 22 = .ok (.invokevirtual 208, 3) := by decide +kernel
theorem dX12_colonSet_25 : decode cX12_colonSet 25 = .ok (.istore 4, 2) := by decide +kernel
theorem dX12_colonSet_27 : decode cX12_colonSet 27 = .ok (.iload_n 2, 1) := by decide +kernel
theorem dX12_colonSet_28 : decode cX12_colonSet 28 = .ok (.iload 4, 2) := by decide +kernel
theorem dX12_colonSet_30 : decode cX12_colonSet 30 = .ok (.bipush (-2), 2) := by decide +kernel
theorem dX12_colonSet_32 : decode cX12_colonSet 32 = .ok (.if_icmp .ne 7, 3) := by decide +kernel
theorem dX12_colonSet_35 : decode cX12_colonSet 35 = .ok (.iconst 0, 1) := by decide +kernel
theorem dX12_colonSet_36 : decode cX12_colonSet 36 = .ok (.goto 7, 3) := by decide +kernel
theorem dX12_colonSet_39 : decode cX12_colonSet 39 = .ok (.iconst 1, 1) := by decide +kernel
theorem dX12_colonSet_40 : decode cX12_colonSet 40 = .ok (.iload 4, 2) := by decide +kernel
theorem dX12_colonSet_42 : decode cX12_colonSet 42 = .ok (.ishl, 1) := by decide +kernel
theorem dX12_colonSet_43 : decode cX12_colonSet 43 = .ok (.ior, 1) := by decide +kernel
theorem dX12_colonSet_44 : decode cX12_colonSet 44 = .ok (.istore_n 2, 1) := by decide +kernel
theorem dX12_colonSet_45 : decode cX12_colonSet 45 = .ok (.iinc 3 1, 3) := by decide +kernel
theorem dX12_colonSet_48 : decode cX12_colonSet 48 = .ok (.goto (-44), 3) := by decide +kernel
theorem dX12_colonSet_51 : decode cX12_colonSet 51 = .ok (.iload_n 2, 1) := by decide +kernel
theorem dX12_colonSet_52 : decode cX12_colonSet 52 = .ok (.ireturn, 1) := by decide +kernel
theorem dX12_isLinear_0 : decode cX12_isLinear 0 = .ok (.aload_n 0, 1) := by decide +kernel
theorem dX12_isLinear_1 : decode cX12_isLinear 1 = .ok (.iload_n 1, 1) := by decide +kernel
theorem dX12_isLinear_2 : decode cX12_isLinear 2 = .ok (.invokevirtual 211, 3) := by decide +kernel
theorem dX12_isLinear_5 : decode cX12_isLinear 5 = .ok (.istore_n 2, 1) := by decide +kernel
theorem dX12_isLinear_6 : decode cX12_isLinear 6 = .ok (.iconst 0, 1) := by decide +kernel
theorem dX12_isLinear_7 : decode cX12_isLinear 7 = .ok (.istore_n 3, 1) := by decide +kernel
theorem dX12_isLinear_8 : decode cX12_isLinear 8 = .ok (.iload_n 3, 1) := by decide +kernel
theorem dX12_isLinear_9 : decode cX12_isLinear 9 = .ok (.iload_n 1, 1) := by decide +kernel
theorem dX12_isLinear_10 : decode cX12_isLinear 10 = .ok (.if_icmp .ge 82, 3) := by decide +kernel
theorem dX12_isLinear_13 : decode cX12_isLinear 13 = .ok (.iconst 0, 1) := by decide +kernel
theorem dX12_isLinear_14 : decode cX12_isLinear 14 = .ok (.istore 4, 2) := by decide +kernel
theorem dX12_isLinear_16 : decode cX12_isLinear 16 = .ok (.iconst 0, 1) := by decide +kernel
theorem dX12_isLinear_17 : decode cX12_isLinear 17 = .ok (.istore 5, 2) := by decide +kernel
theorem dX12_isLinear_19 : decode cX12_isLinear 19 = .ok (.iload 5, 2) := by decide +kernel
theorem dX12_isLinear_21 : decode cX12_isLinear 21 = .ok (.aload_n 0, 1) := by decide +kernel
theorem dX12_isLinear_22 : decode cX12_isLinear 22 = .ok (.getfield 9, 3) := by decide +kernel
theorem dX12_isLinear_25 : decode cX12_isLinear 25 = .ok (.if_icmp .ge 54, 3) := by decide +kernel
theorem dX12_isLinear_28 : decode cX12_isLinear 28 = .ok (.iload 4, 2) := by decide +kernel
theorem dX12_isLinear_30 : decode cX12_isLinear 30 = .ok (.iload_n 2, 1) := by decide +kernel
theorem dX12_isLinear_31 : decode cX12_isLinear 31 = .ok (.iload 5, 2) := by decide +kernel
theorem dX12_isLinear_33 : decode cX12_isLinear 33 = .ok (.ishr, 1) := by decide +kernel
theorem dX12_isLinear_34 : decode cX12_isLinear 34 = .ok (.iconst 1, 1) := by decide +kernel
theorem dX12_isLinear_35 : decode cX12_isLinear 35 = .ok (.iand, 1) := by decide +kernel
theorem dX12_isLinear_36 : decode cX12_isLinear 36 = .ok (.iconst 1, 1) := by decide +kernel
theorem dX12_isLinear_37 : decode cX12_isLinear 37 = .ok (.if_icmp .ne 32, 3) := by decide +kernel
theorem dX12_isLinear_40 : decode cX12_isLinear 40 = .ok (.aload_n 0, 1) := by decide +kernel
theorem dX12_isLinear_41 : decode cX12_isLinear 41 = .ok (.getfield 41, 3) := by decide +kernel
theorem dX12_isLinear_44 : decode cX12_isLinear 44 = .ok (.iload_n 3, 1) := by decide +kernel
theorem dX12_isLinear_45 : decode cX12_isLinear 45 = .ok (.iaload, 1) := by decide +kernel
theorem dX12_isLinear_46 : decode cX12_isLinear 46 = .ok (.iload 5, 2) := by decide +kernel
theorem dX12_isLinear_48 : decode cX12_isLinear 48 = .ok (.invokestatic 128, 3) := by decide +kernel
theorem dX12_isLinear_51 : decode cX12_isLinear 51 = .ok (.aload_n 0, 1) := by decide +kernel
theorem dX12_isLinear_52 : decode cX12_isLinear 52 = .ok (.getfield 41, 3) := by decide +kernel
theorem dX12_isLinear_55 : decode cX12_isLinear 55 = .ok (.iload_n 1, 1) := by decide +kernel
theorem dX12_isLinear_56 : decode cX12_isLinear 56 = .ok (.iaload, 1) := by decide +kernel
theorem dX12_isLinear_57 : decode cX12_isLinear 57 = .ok (.iload 5, 2) := by decide +kernel
theorem dX12_isLinear_59 : decode cX12_isLinear 59 = .ok (.invokestatic 128, 3) := by decide +kernel
theorem dX12_isLinear_62 : decode cX12_isLinear 62 = .ok (.if_icmp .le 7, 3) := by decide +kernel
theorem dX12_isLinear_65 : decode cX12_isLinear 65 = .ok (.iconst 1, 1) := by decide +kernel
theorem dX12_isLinear_66 : decode cX12_isLinear 66 = .ok (.goto 4, 3) := by decide +kernel
theorem dX12_isLinear_69 : decode cX12_isLinear 69 = .ok (.iconst 0, 1) := by decide +kernel
theorem dX12_isLinear_70 : decode cX12_isLinear 70 = .ok (.ior, 1) := by decide +kernel
theorem dX12_isLinear_71 : decode cX12_isLinear 71 = .ok (.istore 4, 2) := by decide +kernel
theorem dX12_isLinear_73 : decode cX12_isLinear 73 = .ok (.iinc 5 1, 3) := by decide +kernel
theorem dX12_isLinear_76 : decode cX12_isLinear 76 = .ok (.goto (-57), 3) := by decide +kernel
theorem dX12_isLinear_79 : decode cX12_isLinear 79 = .ok (.iload 4, 2) := by decide +kernel
theorem dX12_isLinear_81 : decode cX12_isLinear 81 = .ok (.ifCond .ne 5, 3) := by decide +kernel
theorem dX12_isLinear_84 : decode cX12_isLinear 84 = .ok (.iconst 0, 1) := by decide +kernel
theorem dX12_isLinear_85 : decode cX12_isLinear 85 = .ok (.ireturn, 1) := by decide +kernel
theorem dX12_isLinear_86 : decode cX12_isLinear 86 = .ok (.iinc 3 1, 3) := by decide +kernel
theorem dX12_isLinear_89 : decode cX12_isLinear 89 = .ok (.goto (-81), 3) := by decide +kernel
theorem dX12_isLinear_92 : decode cX12_isLinear 92 = .ok (.iconst 1, 1) := by decide +kernel
theorem dX12_isLinear_93 : decode cX12_isLinear 93 = .ok (.ireturn, 1) := by decide +kernel
theorem dX12_orderError_0 : decode cX12_orderError 0 = .ok (.iload_n 1, 1) := by decide +kernel
theorem dX12_orderError_1 : decode cX12_orderError 1 = .ok (.invokestatic 185, 3) := by decide +kernel
theorem dX12_orderError_4 : decode cX12_orderError 4 = .ok (.ifCond .eq 15, 3) := by decide +kernel
theorem dX12_orderError_7 : decode cX12_orderError 7 = .ok (.aload_n 0, 1) := by decide +kernel
theorem dX12_orderError_8 : decode cX12_orderError 8 = .ok (.iload_n 2, 1) := by decide +kernel
theorem dX12_orderError_9 : decode cX12_orderError 9 = .ok (.invokevirtual 214, 3) := by decide +kernel
theorem dX12_orderError_12 : decode cX12_orderError 12 = .ok (.ifCond .eq 7, 3) := by decide +kernel
theorem dX12_orderError_15 : decode cX12_orderError 15 = .ok (.iload_n 3, 1) := by decide +kernel
theorem dX12_orderError_16 : decode cX12_orderError 16 = .ok (.ifCond .ge 5, 3) := by decide +kernel
theorem dX12_orderError_19 : decode cX12_orderError 19 = .ok (.iconst (-1), 1) := by decide +kernel
theorem dX12_orderError_20 : decode cX12_orderError 20 = .ok (.ireturn, 1) := by decide +kernel
theorem dX12_orderError_21 : decode cX12_orderError 21 = .ok (.aload_n 0, 1) := by decide +kernel
theorem dX12_orderError_22 : decode cX12_orderError 22 = .ok (.iload_n 1, 1) := by decide +kernel
theorem dX12_orderError_23 : decode cX12_orderError 23 = .ok (.invokevirtual 217, 3) := by decide +kernel
theorem dX12_orderError_26 : decode cX12_orderError 26 = .ok (.iload_n 3, 1) := by decide +kernel
theorem dX12_orderError_27 : decode cX12_orderError 27 = .ok (.aload_n 0, 1) := by decide +kernel
theorem dX12_orderError_28 : decode cX12_orderError 28 = .ok (.getfield 177, 3) := by decide +kernel
theorem dX12_orderError_31 : decode cX12_orderError 31 = .ok (.if_icmp .ge 7, 3) := by decide +kernel
theorem dX12_orderError_34 : decode cX12_orderError 34 = .ok (.iconst 0, 1) := by decide +kernel
theorem dX12_orderError_35 : decode cX12_orderError 35 = .ok (.goto 5, 3) := by decide +kernel
theorem dX12_orderError_38 : decode cX12_orderError 38 = .ok (.bipush (-2), 2) := by decide +kernel
theorem dX12_orderError_40 : decode cX12_orderError 40 = .ok (.ireturn, 1) := by decide +kernel
theorem dX12_orderedGenerator_0 : decode cX12_orderedGenerator 0 = .ok (.aload_n 0, 1) := by decide +kernel
theorem dX12_orderedGenerator_1 : decode cX12_orderedGenerator 1 = .ok (.iload_n 1, 1) := by decide +kernel
theorem dX12_orderedGenerator_2 : decode cX12_orderedGenerator 2 = .ok (.iload_n 2, 1) := by decide +kernel
theorem dX12_orderedGenerator_3 : decode cX12_orderedGenerator 3 = .ok (.iload_n 3, 1) := by decide +kernel
theorem dX12_orderedGenerator_4 : decode cX12_orderedGenerator 4 = .ok (.invokevirtual 220, 3) := by decide +kernel
theorem dX12_orderedGenerator_7 : decode cX12_orderedGenerator 7 = .ok (.istore 4, 2) := by decide +kernel
theorem dX12_orderedGenerator_9 : decode cX12_orderedGenerator 9 = .ok (.iload 4, 2) := by decide +kernel
theorem dX12_orderedGenerator_11 : decode cX12_orderedGenerator 11 = .ok (.ifCond .eq 8, 3) := by decide +kernel
theorem dX12_orderedGenerator_14 : decode cX12_orderedGenerator 14 = .ok (.iload 4, 2) := by decide +kernel
theorem dX12_orderedGenerator_16 : decode cX12_orderedGenerator 16 = .ok (.goto 9, 3) := by decide +kernel
theorem dX12_orderedGenerator_19 : decode cX12_orderedGenerator 19 = .ok (.aload_n 0, 1) := by decide +kernel
theorem dX12_orderedGenerator_20 : decode cX12_orderedGenerator 20 = .ok (.getfield 41, 3) := by decide +kernel
theorem dX12_orderedGenerator_23 : decode cX12_orderedGenerator 23 = .ok (.iload_n 3, 1) := by decide +kernel
theorem dX12_orderedGenerator_24 : decode cX12_orderedGenerator 24 = .ok (.iaload, 1) := by decide +kernel
theorem dX12_orderedGenerator_25 : decode cX12_orderedGenerator 25 = .ok (.ireturn, 1) := by decide +kernel
theorem dX12_colonVariables_0 : decode cX12_colonVariables 0 = .ok (.aload_n 0, 1) := by decide +kernel
theorem dX12_colonVariables_1 : decode cX12_colonVariables 1 = .ok (.iload_n 1, 1) := by decide +kernel
theorem dX12_colonVariables_2 : decode cX12_colonVariables 2 = .ok (.iload_n 2, 1) := by decide +kernel
theorem dX12_colonVariables_3 : decode cX12_colonVariables 3 = .ok (.iload_n 3, 1) := by decide +kernel
theorem dX12_colonVariables_4 : decode cX12_colonVariables 4 = .ok (.invokevirtual 220, 3) := by decide +kernel
theorem dX12_colonVariables_7 : decode cX12_colonVariables 7 = .ok (.istore 4, 2) := by decide +kernel
theorem dX12_colonVariables_9 : decode cX12_colonVariables 9 = .ok (.iload 4, 2) := by decide +kernel
theorem dX12_colonVariables_11 : decode cX12_colonVariables 11 = .ok (.ifCond .eq 8, 3) := by decide +kernel
theorem dX12_colonVariables_14 : decode cX12_colonVariables 14 = .ok (.iload 4, 2) := by decide +kernel
theorem dX12_colonVariables_16 : decode cX12_colonVariables 16 = .ok (.goto 8, 3) := by decide +kernel
theorem dX12_colonVariables_19 : decode cX12_colonVariables 19 = .ok (.aload_n 0, 1) := by decide +kernel
theorem dX12_colonVariables_20 : decode cX12_colonVariables 20 = .ok (.iload_n 3, 1) := by decide +kernel
theorem dX12_colonVariables_21 : decode cX12_colonVariables 21 = .ok (.invokevirtual 211, 3) := by decide +kernel
theorem dX12_colonVariables_24 : decode cX12_colonVariables 24 = .ok (.ireturn, 1) := by decide +kernel
theorem dX12_isLinearStep_0 : decode cX12_isLinearStep 0 = .ok (.aload_n 0, 1) := by decide +kernel
theorem dX12_isLinearStep_1 : decode cX12_isLinearStep 1 = .ok (.iload_n 1, 1) := by decide +kernel
theorem dX12_isLinearStep_2 : decode cX12_isLinearStep 2 = .ok (.iload_n 2, 1) := by decide +kernel
theorem dX12_isLinearStep_3 : decode cX12_isLinearStep 3 = .ok (.iload_n 3, 1) := by decide +kernel
theorem dX12_isLinearStep_4 : decode cX12_isLinearStep 4 = .ok (.invokevirtual 220, 3) := by decide +kernel
theorem dX12_isLinearStep_7 : decode cX12_isLinearStep 7 = .ok (.istore 4, 2) := by decide +kernel
theorem dX12_isLinearStep_9 : decode cX12_isLinearStep 9 = .ok (.iload 4, 2) := by decide +kernel
theorem dX12_isLinearStep_11 : decode cX12_isLinearStep 11 = .ok (.ifCond .eq 8, 3) := by decide +kernel
theorem dX12_isLinearStep_14 : decode cX12_isLinearStep 14 = .ok (.iload 4, 2) := by decide +kernel
theorem dX12_isLinearStep_16 : decode cX12_isLinearStep 16 = .ok (.goto 16, 3) := by decide +kernel
theorem dX12_isLinearStep_19 : decode cX12_isLinearStep 19 = .ok (.aload_n 0, 1) := by decide +kernel
theorem dX12_isLinearStep_20 : decode cX12_isLinearStep 20 = .ok (.iload_n 3, 1) := by decide +kernel
theorem dX12_isLinearStep_21 : decode cX12_isLinearStep 21 = .ok (.invokevirtual 224, 3) := by decide +kernel
theorem dX12_isLinearStep_24 : decode cX12_isLinearStep 24 = .ok (.ifCond .eq 7, 3) := by decide +kernel
theorem dX12_isLinearStep_27 : decode cX12_isLinearStep 27 = .ok (.iconst 1, 1) := by decide +kernel
theorem dX12_isLinearStep_28 : decode cX12_isLinearStep 28 = .ok (.goto 4, 3) := by decide +kernel
theorem dX12_isLinearStep_31 : decode cX12_isLinearStep 31 = .ok (.iconst 0, 1) := by decide +kernel
theorem dX12_isLinearStep_32 : decode cX12_isLinearStep 32 = .ok (.ireturn, 1) := by decide +kernel
theorem dX12_firstNonLinear_0 : decode cX12_firstNonLinear 0 = .ok (.iconst 0, 1) := by decide +kernel
theorem dX12_firstNonLinear_1 : decode cX12_firstNonLinear 1 = .ok (.istore_n 1, 1) := by decide +kernel
theorem dX12_firstNonLinear_2 : decode cX12_firstNonLinear 2 = .ok (.iload_n 1, 1) := by decide +kernel
theorem dX12_firstNonLinear_3 : decode cX12_firstNonLinear 3 = .ok (.aload_n 0, 1) := by decide +kernel
theorem dX12_firstNonLinear_4 : decode cX12_firstNonLinear 4 = .ok (.getfield 177, 3) := by decide +kernel
theorem dX12_firstNonLinear_7 : decode cX12_firstNonLinear 7 = .ok (.if_icmp .ge 19, 3) := by decide +kernel
theorem dX12_firstNonLinear_10 : decode cX12_firstNonLinear 10 = .ok (.aload_n 0, 1) := by decide +kernel
theorem dX12_firstNonLinear_11 : decode cX12_firstNonLinear 11 = .ok (.iload_n 1, 1) := by decide +kernel
theorem dX12_firstNonLinear_12 : decode cX12_firstNonLinear 12 = .ok (.invokevirtual 224, 3) := by decide +kernel
theorem dX12_firstNonLinear_15 : decode cX12_firstNonLinear 15 = .ok (.ifCond .ne 5, 3) := by decide +kernel
theorem dX12_firstNonLinear_18 : decode cX12_firstNonLinear 18 = .ok (.iload_n 1, 1) := by decide +kernel
theorem dX12_firstNonLinear_19 : decode cX12_firstNonLinear 19 = .ok (.ireturn, 1) := by decide +kernel
theorem dX12_firstNonLinear_20 : decode cX12_firstNonLinear 20 = .ok (.iinc 1 1, 3) := by decide +kernel
theorem dX12_firstNonLinear_23 : decode cX12_firstNonLinear 23 = .ok (.goto (-21), 3) := by decide +kernel
theorem dX12_firstNonLinear_26 : decode cX12_firstNonLinear 26 = .ok (.bipush (-2), 2) := by decide +kernel
theorem dX12_firstNonLinear_28 : decode cX12_firstNonLinear 28 = .ok (.ireturn, 1) := by decide +kernel
theorem dX12_firstNonLinearStep_0 : decode cX12_firstNonLinearStep 0 = .ok (.aload_n 0, 1) := by decide +kernel
theorem dX12_firstNonLinearStep_1 : decode cX12_firstNonLinearStep 1 = .ok (.iload_n 1, 1) := by decide +kernel
theorem dX12_firstNonLinearStep_2 : decode cX12_firstNonLinearStep 2 = .ok (.iload_n 2, 1) := by decide +kernel
theorem dX12_firstNonLinearStep_3 : decode cX12_firstNonLinearStep 3 = .ok (.iconst 0, 1) := by decide +kernel
theorem dX12_firstNonLinearStep_4 : decode cX12_firstNonLinearStep 4 = .ok (.invokevirtual 220, 3) := by decide +kernel
theorem dX12_firstNonLinearStep_7 : decode cX12_firstNonLinearStep 7 = .ok (.iconst (-1), 1) := by decide +kernel
theorem dX12_firstNonLinearStep_8 : decode cX12_firstNonLinearStep 8 = .ok (.if_icmp .ne 5, 3) := by decide +kernel
theorem dX12_firstNonLinearStep_11 : decode cX12_firstNonLinearStep 11 = .ok (.iconst (-1), 1) := by decide +kernel
theorem dX12_firstNonLinearStep_12 : decode cX12_firstNonLinearStep 12 = .ok (.ireturn, 1) := by decide +kernel
theorem dX12_firstNonLinearStep_13 : decode cX12_firstNonLinearStep 13 = .ok (.aload_n 0, 1) := by decide +kernel
theorem dX12_firstNonLinearStep_14 : decode cX12_firstNonLinearStep 14 = .ok (.invokevirtual 227, 3) := by decide +kernel
theorem dX12_firstNonLinearStep_17 : decode cX12_firstNonLinearStep 17 = .ok (.ireturn, 1) := by decide +kernel
theorem dX12_choose_0 : decode cX12_choose 0 = .ok (.lconst 1, 1) := by decide +kernel
theorem dX12_choose_1 : decode cX12_choose 1 = .ok (.lstore_n 2, 1) := by decide +kernel
theorem dX12_choose_2 : decode cX12_choose 2 = .ok (.iconst 0, 1) := by decide +kernel
theorem dX12_choose_3 : decode cX12_choose 3 = .ok (.istore 4, 2) := by decide +kernel
theorem dX12_choose_5 : decode cX12_choose 5 = .ok (.iload 4, 2) := by decide +kernel
theorem dX12_choose_7 : decode cX12_choose 7 = .ok (.iload_n 1, 1) := by decide +kernel
theorem dX12_choose_8 : decode cX12_choose 8 = .ok (.if_icmp .ge 23, 3) := by decide +kernel
theorem dX12_choose_11 : decode cX12_choose 11 = .ok (.lload_n 2, 1) := by decide +kernel
theorem dX12_choose_12 : decode cX12_choose 12 = .ok (.iload_n 0, 1) := by decide +kernel
theorem dX12_choose_13 : decode cX12_choose 13 = .ok (.iload 4, 2) := by decide +kernel
theorem dX12_choose_15 : decode cX12_choose 15 = .ok (.isub, 1) := by decide +kernel
theorem dX12_choose_16 : decode cX12_choose 16 = .ok (.i2l, 1) := by decide +kernel
theorem dX12_choose_17 : decode cX12_choose 17 = .ok (.lmul, 1) := by decide +kernel
theorem dX12_choose_18 : decode cX12_choose 18 = .ok (.iload 4, 2) := by decide +kernel
theorem dX12_choose_20 : decode cX12_choose 20 = .ok (.iconst 1, 1) := by decide +kernel
theorem dX12_choose_21 : decode cX12_choose 21 = .ok (.iadd, 1) := by decide +kernel
theorem dX12_choose_22 : decode cX12_choose 22 = .ok (.i2l, 1) := by decide +kernel
theorem dX12_choose_23 : decode cX12_choose 23 = .ok (.ldiv, 1) := by decide +kernel
theorem dX12_choose_24 : decode cX12_choose 24 = .ok (.lstore_n 2, 1) := by decide +kernel
theorem dX12_choose_25 : decode cX12_choose 25 = .ok (.iinc 4 1, 3) := by decide +kernel
theorem dX12_choose_28 : decode cX12_choose 28 = .ok (.goto (-23), 3) := by decide +kernel
theorem dX12_choose_31 : decode cX12_choose 31 = .ok (.lload_n 2, 1) := by decide +kernel
theorem dX12_choose_32 : decode cX12_choose 32 = .ok (.lreturn, 1) := by decide +kernel
theorem dX12_bettiNumber_0 : decode cX12_bettiNumber 0 = .ok (.iload_n 3, 1) := by decide +kernel
theorem dX12_bettiNumber_1 : decode cX12_bettiNumber 1 = .ok (.i2l, 1) := by decide +kernel
theorem dX12_bettiNumber_2 : decode cX12_bettiNumber 2 = .ok (.lconst 0, 1) := by decide +kernel
theorem dX12_bettiNumber_3 : decode cX12_bettiNumber 3 = .ok (.ldc2_w 86, 3) := by decide +kernel
theorem dX12_bettiNumber_6 : decode cX12_bettiNumber 6 = .ok (.invokestatic 79, 3) := by decide +kernel
theorem dX12_bettiNumber_9 : decode cX12_bettiNumber 9 = .ok (.ifCond .eq 23, 3) := by decide +kernel
theorem dX12_bettiNumber_12 : decode cX12_bettiNumber 12 = .ok (.aload_n 0, 1) := by decide +kernel
theorem dX12_bettiNumber_13 : decode cX12_bettiNumber 13 = .ok (.iload_n 1, 1) := by decide +kernel
theorem dX12_bettiNumber_14 : decode cX12_bettiNumber 14 = .ok (.iload_n 2, 1) := by decide +kernel
theorem dX12_bettiNumber_15 : decode cX12_bettiNumber 15 = .ok (.iconst 0, 1) := by decide +kernel
theorem dX12_bettiNumber_16 : decode cX12_bettiNumber 16 = .ok (.invokevirtual 220, 3) := by decide +kernel
theorem dX12_bettiNumber_19 : decode cX12_bettiNumber 19 = .ok (.iconst (-1), 1) := by decide +kernel
theorem dX12_bettiNumber_20 : decode cX12_bettiNumber 20 = .ok (.if_icmp .eq 12, 3) := by decide +kernel
theorem dX12_bettiNumber_23 : decode cX12_bettiNumber 23 = .ok (.aload_n 0, 1) := by decide +kernel
theorem dX12_bettiNumber_24 : decode cX12_bettiNumber 24 = .ok (.invokevirtual 227, 3) := by decide +kernel
theorem dX12_bettiNumber_27 : decode cX12_bettiNumber 27 = .ok (.bipush (-2), 2) := by decide +kernel
theorem dX12_bettiNumber_29 : decode cX12_bettiNumber 29 = .ok (.if_icmp .eq 7, 3) := by decide +kernel
theorem dX12_bettiNumber_32 : decode cX12_bettiNumber 32 = .ok (.ldc2_w 230, 3) := by decide +kernel
theorem dX12_bettiNumber_35 : decode cX12_bettiNumber 35 = .ok (.lreturn, 1) := by decide +kernel
theorem dX12_bettiNumber_36 : decode cX12_bettiNumber 36 = .ok (.lconst 0, 1) := by decide +kernel
theorem dX12_bettiNumber_37 : decode cX12_bettiNumber 37 = .ok (.lstore 4, 2) := by decide +kernel
theorem dX12_bettiNumber_39 : decode cX12_bettiNumber 39 = .ok (.iconst 0, 1) := by decide +kernel
theorem dX12_bettiNumber_40 : decode cX12_bettiNumber 40 = .ok (.istore 6, 2) := by decide +kernel
theorem dX12_bettiNumber_42 : decode cX12_bettiNumber 42 = .ok (.iload 6, 2) := by decide +kernel
theorem dX12_bettiNumber_44 : decode cX12_bettiNumber 44 = .ok (.aload_n 0, 1) := by decide +kernel
theorem dX12_bettiNumber_45 : decode cX12_bettiNumber 45 = .ok (.getfield 177, 3) := by decide +kernel
theorem dX12_bettiNumber_48 : decode cX12_bettiNumber 48 = .ok (.if_icmp .ge 41, 3) := by decide +kernel
theorem dX12_bettiNumber_51 : decode cX12_bettiNumber 51 = .ok (.aload_n 0, 1) := by decide +kernel
theorem dX12_bettiNumber_52 : decode cX12_bettiNumber 52 = .ok (.iload 6, 2) := by decide +kernel
theorem dX12_bettiNumber_54 : decode cX12_bettiNumber 54 = .ok (.invokevirtual 211, 3) := by decide +kernel
theorem dX12_bettiNumber_57 : decode cX12_bettiNumber 57 = .ok (.invokestatic 109, 3) := by decide +kernel
theorem dX12_bettiNumber_60 : decode cX12_bettiNumber 60 = .ok (.istore 7, 2) := by decide +kernel
theorem dX12_bettiNumber_62 : decode cX12_bettiNumber 62 = .ok (.lload 4, 2) := by decide +kernel
theorem dX12_bettiNumber_64 : decode cX12_bettiNumber 64 = .ok (.iload_n 3, 1) := by decide +kernel
theorem dX12_bettiNumber_65 : decode cX12_bettiNumber 65 = .ok (.iload 7, 2) := by decide +kernel
theorem dX12_bettiNumber_67 : decode cX12_bettiNumber 67 = .ok (.if_icmp .gt 12, 3) := by decide +kernel
theorem dX12_bettiNumber_70 : decode cX12_bettiNumber 70 = .ok (.iload 7, 2) := by decide +kernel
theorem dX12_bettiNumber_72 : decode cX12_bettiNumber 72 = .ok (.iload_n 3, 1) := by decide +kernel
theorem dX12_bettiNumber_73 : decode cX12_bettiNumber 73 = .ok (.invokestatic 232, 3) := by decide +kernel
theorem dX12_bettiNumber_76 : decode cX12_bettiNumber 76 = .ok (.goto 4, 3) := by decide +kernel
theorem dX12_bettiNumber_79 : decode cX12_bettiNumber 79 = .ok (.lconst 0, 1) := by decide +kernel
theorem dX12_bettiNumber_80 : decode cX12_bettiNumber 80 = .ok (.ladd, 1) := by decide +kernel
theorem dX12_bettiNumber_81 : decode cX12_bettiNumber 81 = .ok (.lstore 4, 2) := by decide +kernel
theorem dX12_bettiNumber_83 : decode cX12_bettiNumber 83 = .ok (.iinc 6 1, 3) := by decide +kernel
theorem dX12_bettiNumber_86 : decode cX12_bettiNumber 86 = .ok (.goto (-44), 3) := by decide +kernel
theorem dX12_bettiNumber_89 : decode cX12_bettiNumber 89 = .ok (.lload 4, 2) := by decide +kernel
theorem dX12_bettiNumber_91 : decode cX12_bettiNumber 91 = .ok (.lreturn, 1) := by decide +kernel
theorem dX12_addTest_0 : decode cX12_addTest 0 = .ok (.iload_n 1, 1) := by decide +kernel
theorem dX12_addTest_1 : decode cX12_addTest 1 = .ok (.ifCond .ne 5, 3) := by decide +kernel
theorem dX12_addTest_4 : decode cX12_addTest 4 = .ok (.iconst (-1), 1) := by decide +kernel
theorem dX12_addTest_5 : decode cX12_addTest 5 = .ok (.ireturn, 1) := by decide +kernel
theorem dX12_addTest_6 : decode cX12_addTest 6 = .ok (.aload_n 0, 1) := by decide +kernel
theorem dX12_addTest_7 : decode cX12_addTest 7 = .ok (.getfield 236, 3) := by decide +kernel
theorem dX12_addTest_10 : decode cX12_addTest 10 = .ok (.bipush 8, 2) := by decide +kernel
theorem dX12_addTest_12 : decode cX12_addTest 12 = .ok (.if_icmp .ne 6, 3) := by decide +kernel
theorem dX12_addTest_15 : decode cX12_addTest 15 = .ok (.bipush (-3), 2) := by decide +kernel
theorem dX12_addTest_17 : decode cX12_addTest 17 = .ok (.ireturn, 1) := by decide +kernel
theorem dX12_addTest_18 : decode cX12_addTest 18 = .ok (.aload_n 0, 1) := by decide +kernel
theorem dX12_addTest_19 : decode cX12_addTest 19 = .ok (.getfield 47, 3) := by decide +kernel
theorem dX12_addTest_22 : decode cX12_addTest 22 = .ok (.iconst 3, 1) := by decide +kernel
theorem dX12_addTest_23 : decode cX12_addTest 23 = .ok (.aload_n 0, 1) := by decide +kernel
theorem dX12_addTest_24 : decode cX12_addTest 24 = .ok (.getfield 236, 3) := by decide +kernel
theorem dX12_addTest_27 : decode cX12_addTest 27 = .ok (.imul, 1) := by decide +kernel
theorem dX12_addTest_28 : decode cX12_addTest 28 = .ok (.iload_n 2, 1) := by decide +kernel
theorem dX12_addTest_29 : decode cX12_addTest 29 = .ok (.iastore, 1) := by decide +kernel
theorem dX12_addTest_30 : decode cX12_addTest 30 = .ok (.aload_n 0, 1) := by decide +kernel
theorem dX12_addTest_31 : decode cX12_addTest 31 = .ok (.getfield 47, 3) := by decide +kernel
theorem dX12_addTest_34 : decode cX12_addTest 34 = .ok (.iconst 3, 1) := by decide +kernel
theorem dX12_addTest_35 : decode cX12_addTest 35 = .ok (.aload_n 0, 1) := by decide +kernel
theorem dX12_addTest_36 : decode cX12_addTest 36 = .ok (.getfield 236, 3) := by decide +kernel
theorem dX12_addTest_39 : decode cX12_addTest 39 = .ok (.imul, 1) := by decide +kernel
theorem dX12_addTest_40 : decode cX12_addTest 40 = .ok (.iconst 1, 1) := by decide +kernel
theorem dX12_addTest_41 : decode cX12_addTest 41 = .ok (.iadd, 1) := by decide +kernel
theorem dX12_addTest_42 : decode cX12_addTest 42 = .ok (.iload_n 3, 1) := by decide +kernel
theorem dX12_addTest_43 : decode cX12_addTest 43 = .ok (.iastore, 1) := by decide +kernel
theorem dX12_addTest_44 : decode cX12_addTest 44 = .ok (.aload_n 0, 1) := by decide +kernel
theorem dX12_addTest_45 : decode cX12_addTest 45 = .ok (.getfield 47, 3) := by decide +kernel
theorem dX12_addTest_48 : decode cX12_addTest 48 = .ok (.iconst 3, 1) := by decide +kernel
theorem dX12_addTest_49 : decode cX12_addTest 49 = .ok (.aload_n 0, 1) := by decide +kernel
theorem dX12_addTest_50 : decode cX12_addTest 50 = .ok (.getfield 236, 3) := by decide +kernel
theorem dX12_addTest_53 : decode cX12_addTest 53 = .ok (.imul, 1) := by decide +kernel
theorem dX12_addTest_54 : decode cX12_addTest 54 = .ok (.iconst 2, 1) := by decide +kernel
theorem dX12_addTest_55 : decode cX12_addTest 55 = .ok (.iadd, 1) := by decide +kernel
theorem dX12_addTest_56 : decode cX12_addTest 56 = .ok (.iload 4, 2) := by decide +kernel
theorem dX12_addTest_58 : decode cX12_addTest 58 = .ok (.iastore, 1) := by decide +kernel
theorem dX12_addTest_59 : decode cX12_addTest 59 = .ok (.aload_n 0, 1) := by decide +kernel
theorem dX12_addTest_60 : decode cX12_addTest 60 = .ok (.dup, 1) := by decide +kernel
theorem dX12_addTest_61 : decode cX12_addTest 61 = .ok (.getfield 236, 3) := by decide +kernel
theorem dX12_addTest_64 : decode cX12_addTest 64 = .ok (.iconst 1, 1) := by decide +kernel
theorem dX12_addTest_65 : decode cX12_addTest 65 = .ok (.iadd, 1) := by decide +kernel
theorem dX12_addTest_66 : decode cX12_addTest 66 = .ok (.putfield 236, 3) := by decide +kernel
theorem dX12_addTest_69 : decode cX12_addTest 69 = .ok (.aload_n 0, 1) := by decide +kernel
theorem dX12_addTest_70 : decode cX12_addTest 70 = .ok (.getfield 236, 3) := by decide +kernel
theorem dX12_addTest_73 : decode cX12_addTest 73 = .ok (.iconst 1, 1) := by decide +kernel
theorem dX12_addTest_74 : decode cX12_addTest 74 = .ok (.isub, 1) := by decide +kernel
theorem dX12_addTest_75 : decode cX12_addTest 75 = .ok (.ireturn, 1) := by decide +kernel
theorem dX12_isTest_0 : decode cX12_isTest 0 = .ok (.iload_n 1, 1) := by decide +kernel
theorem dX12_isTest_1 : decode cX12_isTest 1 = .ok (.i2l, 1) := by decide +kernel
theorem dX12_isTest_2 : decode cX12_isTest 2 = .ok (.lconst 0, 1) := by decide +kernel
theorem dX12_isTest_3 : decode cX12_isTest 3 = .ok (.aload_n 0, 1) := by decide +kernel
theorem dX12_isTest_4 : decode cX12_isTest 4 = .ok (.getfield 236, 3) := by decide +kernel
theorem dX12_isTest_7 : decode cX12_isTest 7 = .ok (.iconst 1, 1) := by decide +kernel
theorem dX12_isTest_8 : decode cX12_isTest 8 = .ok (.isub, 1) := by decide +kernel
theorem dX12_isTest_9 : decode cX12_isTest 9 = .ok (.i2l, 1) := by decide +kernel
theorem dX12_isTest_10 : decode cX12_isTest 10 = .ok (.invokestatic 79, 3) := by decide +kernel
theorem dX12_isTest_13 : decode cX12_isTest 13 = .ok (.ireturn, 1) := by decide +kernel
theorem dX12_addDegreeTest_0 : decode cX12_addDegreeTest 0 = .ok (.aload_n 0, 1) := by decide +kernel
theorem dX12_addDegreeTest_1 : decode cX12_addDegreeTest 1 = .ok (.iload_n 1, 1) := by decide +kernel
theorem dX12_addDegreeTest_2 : decode cX12_addDegreeTest 2 = .ok (.i2l, 1) := by decide +kernel
theorem dX12_addDegreeTest_3 : decode cX12_addDegreeTest 3 = .ok (.lconst 0, 1) := by decide +kernel
theorem dX12_addDegreeTest_4 : decode cX12_addDegreeTest 4 = .ok (.ldc2_w 200, 3) := by decide +kernel
theorem dX12_addDegreeTest_7 : decode cX12_addDegreeTest 7 = .ok (.invokestatic 79, 3) := by decide +kernel
theorem dX12_addDegreeTest_10 : decode cX12_addDegreeTest 10 = .ok (.iconst 0, 1) := by decide +kernel
theorem dX12_addDegreeTest_11 : decode cX12_addDegreeTest 11 = .ok (.iload_n 1, 1) := by decide +kernel
theorem dX12_addDegreeTest_12 : decode cX12_addDegreeTest 12 = .ok (.iconst 0, 1) := by decide +kernel
theorem dX12_addDegreeTest_13 : decode cX12_addDegreeTest 13 = .ok (.invokevirtual 239, 3) := by decide +kernel
theorem dX12_addDegreeTest_16 : decode cX12_addDegreeTest 16 = .ok (.ireturn, 1) := by decide +kernel
theorem dX12_addExponentTest_0 : decode cX12_addExponentTest 0 = .ok (.aload_n 0, 1) := by decide +kernel
theorem dX12_addExponentTest_1 : decode cX12_addExponentTest 1 = .ok (.iload_n 1, 1) := by decide +kernel
theorem dX12_addExponentTest_2 : decode cX12_addExponentTest 2 = .ok (.i2l, 1) := by decide +kernel
theorem dX12_addExponentTest_3 : decode cX12_addExponentTest 3 = .ok (.lconst 0, 1) := by decide +kernel
theorem dX12_addExponentTest_4 : decode cX12_addExponentTest 4 = .ok (.ldc2_w 243, 3) := by decide +kernel
theorem dX12_addExponentTest_7 : decode cX12_addExponentTest 7 = .ok (.invokestatic 79, 3) := by decide +kernel
theorem dX12_addExponentTest_10 : decode cX12_addExponentTest 10 = .ok (.ifCond .eq 19, 3) := by decide +kernel
theorem dX12_addExponentTest_13 : decode cX12_addExponentTest 13 = .ok (.iload_n 2, 1) := by decide +kernel
theorem dX12_addExponentTest_14 : decode cX12_addExponentTest 14 = .ok (.i2l, 1) := by decide +kernel
theorem dX12_addExponentTest_15 : decode cX12_addExponentTest 15 = .ok (.lconst 0, 1) := by decide +kernel
theorem dX12_addExponentTest_16 : decode cX12_addExponentTest 16 = .ok (.ldc2_w 183, 3) := by decide +kernel
theorem dX12_addExponentTest_19 : decode cX12_addExponentTest 19 = .ok (.invokestatic 79, 3) := by decide +kernel
theorem dX12_addExponentTest_22 : decode cX12_addExponentTest 22 = .ok (.ifCond .eq 7, 3) := by decide +kernel
theorem dX12_addExponentTest_25 : decode cX12_addExponentTest 25 = .ok (.iconst 1, 1) := by decide +kernel
theorem dX12_addExponentTest_26 : decode cX12_addExponentTest 26 = .ok (.goto 4, 3) := by decide +kernel
theorem dX12_addExponentTest_29 : decode cX12_addExponentTest 29 = .ok (.iconst 0, 1) := by decide +kernel
theorem dX12_addExponentTest_30 : decode cX12_addExponentTest 30 = .ok (.iconst 1, 1) := by decide +kernel
theorem dX12_addExponentTest_31 : decode cX12_addExponentTest 31 = .ok (.iload_n 1, 1) := by decide +kernel
theorem dX12_addExponentTest_32 : decode cX12_addExponentTest 32 = .ok (.iload_n 2, 1) := by decide +kernel
theorem dX12_addExponentTest_33 : decode cX12_addExponentTest 33 = .ok (.invokevirtual 239, 3) := by decide +kernel
theorem dX12_addExponentTest_36 : decode cX12_addExponentTest 36 = .ok (.ireturn, 1) := by decide +kernel
theorem dX12_addSquareFreeTest_0 : decode cX12_addSquareFreeTest 0 = .ok (.aload_n 0, 1) := by decide +kernel
theorem dX12_addSquareFreeTest_1 : decode cX12_addSquareFreeTest 1 = .ok (.iconst 1, 1) := by decide +kernel
theorem dX12_addSquareFreeTest_2 : decode cX12_addSquareFreeTest 2 = .ok (.iconst 2, 1) := by decide +kernel
theorem dX12_addSquareFreeTest_3 : decode cX12_addSquareFreeTest 3 = .ok (.iconst 0, 1) := by decide +kernel
theorem dX12_addSquareFreeTest_4 : decode cX12_addSquareFreeTest 4 = .ok (.iconst 0, 1) := by decide +kernel
theorem dX12_addSquareFreeTest_5 : decode cX12_addSquareFreeTest 5 = .ok (.invokevirtual 239, 3) := by decide +kernel
theorem dX12_addSquareFreeTest_8 : decode cX12_addSquareFreeTest 8 = .ok (.ireturn, 1) := by decide +kernel
theorem dX12_addPowerTest_0 : decode cX12_addPowerTest 0 = .ok (.aload_n 0, 1) := by decide +kernel
theorem dX12_addPowerTest_1 : decode cX12_addPowerTest 1 = .ok (.iload_n 1, 1) := by decide +kernel
theorem dX12_addPowerTest_2 : decode cX12_addPowerTest 2 = .ok (.invokestatic 185, 3) := by decide +kernel
theorem dX12_addPowerTest_5 : decode cX12_addPowerTest 5 = .ok (.iconst 3, 1) := by decide +kernel
theorem dX12_addPowerTest_6 : decode cX12_addPowerTest 6 = .ok (.iload_n 1, 1) := by decide +kernel
theorem dX12_addPowerTest_7 : decode cX12_addPowerTest 7 = .ok (.iconst 0, 1) := by decide +kernel
theorem dX12_addPowerTest_8 : decode cX12_addPowerTest 8 = .ok (.invokevirtual 239, 3) := by decide +kernel
theorem dX12_addPowerTest_11 : decode cX12_addPowerTest 11 = .ok (.ireturn, 1) := by decide +kernel
theorem dX12_addSymbolicTest_0 : decode cX12_addSymbolicTest 0 = .ok (.aload_n 0, 1) := by decide +kernel
theorem dX12_addSymbolicTest_1 : decode cX12_addSymbolicTest 1 = .ok (.iload_n 1, 1) := by decide +kernel
theorem dX12_addSymbolicTest_2 : decode cX12_addSymbolicTest 2 = .ok (.invokestatic 185, 3) := by decide +kernel
theorem dX12_addSymbolicTest_5 : decode cX12_addSymbolicTest 5 = .ok (.iconst 4, 1) := by decide +kernel
theorem dX12_addSymbolicTest_6 : decode cX12_addSymbolicTest 6 = .ok (.iload_n 1, 1) := by decide +kernel
theorem dX12_addSymbolicTest_7 : decode cX12_addSymbolicTest 7 = .ok (.iconst 0, 1) := by decide +kernel
theorem dX12_addSymbolicTest_8 : decode cX12_addSymbolicTest 8 = .ok (.invokevirtual 239, 3) := by decide +kernel
theorem dX12_addSymbolicTest_11 : decode cX12_addSymbolicTest 11 = .ok (.ireturn, 1) := by decide +kernel
theorem dX12_addAndTest_0 : decode cX12_addAndTest 0 = .ok (.aload_n 0, 1) := by decide +kernel
theorem dX12_addAndTest_1 : decode cX12_addAndTest 1 = .ok (.aload_n 0, 1) := by decide +kernel
theorem dX12_addAndTest_2 : decode cX12_addAndTest 2 = .ok (.iload_n 1, 1) := by decide +kernel
theorem dX12_addAndTest_3 : decode cX12_addAndTest 3 = .ok (.invokevirtual 245, 3) := by decide +kernel
theorem dX12_addAndTest_6 : decode cX12_addAndTest 6 = .ok (.ifCond .eq 15, 3) := by decide +kernel
theorem dX12_addAndTest_9 : decode cX12_addAndTest 9 = .ok (.aload_n 0, 1) := by decide +kernel
theorem dX12_addAndTest_10 : decode cX12_addAndTest 10 = .ok (.iload_n 2, 1) := by decide +kernel
theorem dX12_addAndTest_11 : decode cX12_addAndTest 11 = .ok (.invokevirtual 245, 3) := by decide +kernel
theorem dX12_addAndTest_14 : decode cX12_addAndTest 14 = .ok (.ifCond .eq 7, 3) := by decide +kernel
theorem dX12_addAndTest_17 : decode cX12_addAndTest 17 = .ok (.iconst 1, 1) := by decide +kernel
theorem dX12_addAndTest_18 : decode cX12_addAndTest 18 = .ok (.goto 4, 3) := by decide +kernel
theorem dX12_addAndTest_21 : decode cX12_addAndTest 21 = .ok (.iconst 0, 1) := by decide +kernel
theorem dX12_addAndTest_22 : decode cX12_addAndTest 22 = .ok (.iconst 5, 1) := by decide +kernel
theorem dX12_addAndTest_23 : decode cX12_addAndTest 23 = .ok (.iload_n 1, 1) := by decide +kernel
theorem dX12_addAndTest_24 : decode cX12_addAndTest 24 = .ok (.iload_n 2, 1) := by decide +kernel
theorem dX12_addAndTest_25 : decode cX12_addAndTest 25 = .ok (.invokevirtual 239, 3) := by decide +kernel
theorem dX12_addAndTest_28 : decode cX12_addAndTest 28 = .ok (.ireturn, 1) := by decide +kernel
theorem dX12_addOrTest_0 : decode cX12_addOrTest 0 = .ok (.aload_n 0, 1) := by decide +kernel
theorem dX12_addOrTest_1 : decode cX12_addOrTest 1 = .ok (.aload_n 0, 1) := by decide +kernel
theorem dX12_addOrTest_2 : decode cX12_addOrTest 2 = .ok (.iload_n 1, 1) := by decide +kernel
theorem dX12_addOrTest_3 : decode cX12_addOrTest 3 = .ok (.invokevirtual 245, 3) := by decide +kernel
theorem dX12_addOrTest_6 : decode cX12_addOrTest 6 = .ok (.ifCond .eq 15, 3) := by decide +kernel
theorem dX12_addOrTest_9 : decode cX12_addOrTest 9 = .ok (.aload_n 0, 1) := by decide +kernel
theorem dX12_addOrTest_10 : decode cX12_addOrTest 10 = .ok (.iload_n 2, 1) := by decide +kernel
theorem dX12_addOrTest_11 : decode cX12_addOrTest 11 = .ok (.invokevirtual 245, 3) := by decide +kernel
theorem dX12_addOrTest_14 : decode cX12_addOrTest 14 = .ok (.ifCond .eq 7, 3) := by decide +kernel
theorem dX12_addOrTest_17 : decode cX12_addOrTest 17 = .ok (.iconst 1, 1) := by decide +kernel
theorem dX12_addOrTest_18 : decode cX12_addOrTest 18 = .ok (.goto 4, 3) := by decide +kernel
theorem dX12_addOrTest_21 : decode cX12_addOrTest 21 = .ok (.iconst 0, 1) := by decide +kernel
theorem dX12_addOrTest_22 : decode cX12_addOrTest 22 = .ok (.bipush 6, 2) := by decide +kernel
theorem dX12_addOrTest_24 : decode cX12_addOrTest 24 = .ok (.iload_n 1, 1) := by decide +kernel
theorem dX12_addOrTest_25 : decode cX12_addOrTest 25 = .ok (.iload_n 2, 1) := by decide +kernel
theorem dX12_addOrTest_26 : decode cX12_addOrTest 26 = .ok (.invokevirtual 239, 3) := by decide +kernel
theorem dX12_addOrTest_29 : decode cX12_addOrTest 29 = .ok (.ireturn, 1) := by decide +kernel
theorem dX12_addNotTest_0 : decode cX12_addNotTest 0 = .ok (.aload_n 0, 1) := by decide +kernel
theorem dX12_addNotTest_1 : decode cX12_addNotTest 1 = .ok (.aload_n 0, 1) := by decide +kernel
theorem dX12_addNotTest_2 : decode cX12_addNotTest 2 = .ok (.iload_n 1, 1) := by decide +kernel
theorem dX12_addNotTest_3 : decode cX12_addNotTest 3 = .ok (.invokevirtual 245, 3) := by decide +kernel
theorem dX12_addNotTest_6 : decode cX12_addNotTest 6 = .ok (.bipush 7, 2) := by decide +kernel
theorem dX12_addNotTest_8 : decode cX12_addNotTest 8 = .ok (.iload_n 1, 1) := by decide +kernel
theorem dX12_addNotTest_9 : decode cX12_addNotTest 9 = .ok (.iconst 0, 1) := by decide +kernel
theorem dX12_addNotTest_10 : decode cX12_addNotTest 10 = .ok (.invokevirtual 239, 3) := by decide +kernel
theorem dX12_addNotTest_13 : decode cX12_addNotTest 13 = .ok (.ireturn, 1) := by decide +kernel
theorem dX12_testCount_0 : decode cX12_testCount 0 = .ok (.aload_n 0, 1) := by decide +kernel
theorem dX12_testCount_1 : decode cX12_testCount 1 = .ok (.getfield 236, 3) := by decide +kernel
theorem dX12_testCount_4 : decode cX12_testCount 4 = .ok (.ireturn, 1) := by decide +kernel
theorem dX12_isPassed_0 : decode cX12_isPassed 0 = .ok (.aload_n 0, 1) := by decide +kernel
theorem dX12_isPassed_1 : decode cX12_isPassed 1 = .ok (.getfield 47, 3) := by decide +kernel
theorem dX12_isPassed_4 : decode cX12_isPassed 4 = .ok (.iconst 3, 1) := by decide +kernel
theorem dX12_isPassed_5 : decode cX12_isPassed 5 = .ok (.iload_n 1, 1) := by decide +kernel
theorem dX12_isPassed_6 : decode cX12_isPassed 6 = .ok (.imul, 1) := by decide +kernel
theorem dX12_isPassed_7 : decode cX12_isPassed 7 = .ok (.iconst 1, 1) := by decide +kernel
theorem dX12_isPassed_8 : decode cX12_isPassed 8 = .ok (.iadd, 1) := by decide +kernel
theorem dX12_isPassed_9 : decode cX12_isPassed 9 = .ok (.iaload, 1) := by decide +kernel
theorem dX12_isPassed_10 : decode cX12_isPassed 10 = .ok (.istore_n 3, 1) := by decide +kernel
theorem dX12_isPassed_11 : decode cX12_isPassed 11 = .ok (.aload_n 0, 1) := by decide +kernel
theorem dX12_isPassed_12 : decode cX12_isPassed 12 = .ok (.getfield 47, 3) := by decide +kernel
theorem dX12_isPassed_15 : decode cX12_isPassed 15 = .ok (.iconst 3, 1) := by decide +kernel
theorem dX12_isPassed_16 : decode cX12_isPassed 16 = .ok (.iload_n 1, 1) := by decide +kernel
theorem dX12_isPassed_17 : decode cX12_isPassed 17 = .ok (.imul, 1) := by decide +kernel
theorem dX12_isPassed_18 : decode cX12_isPassed 18 = .ok (.iconst 2, 1) := by decide +kernel
theorem dX12_isPassed_19 : decode cX12_isPassed 19 = .ok (.iadd, 1) := by decide +kernel
theorem dX12_isPassed_20 : decode cX12_isPassed 20 = .ok (.iaload, 1) := by decide +kernel
theorem dX12_isPassed_21 : decode cX12_isPassed 21 = .ok (.istore 4, 2) := by decide +kernel
theorem dX12_isPassed_23 : decode cX12_isPassed 23 = .ok (.aload_n 0, 1) := by decide +kernel
theorem dX12_isPassed_24 : decode cX12_isPassed 24 = .ok (.getfield 47, 3) := by decide +kernel
theorem dX12_isPassed_27 : decode cX12_isPassed 27 = .ok (.iconst 3, 1) := by decide +kernel
theorem dX12_isPassed_28 : decode cX12_isPassed 28 = .ok (.iload_n 1, 1) := by decide +kernel
theorem dX12_isPassed_29 : decode cX12_isPassed 29 = .ok (.imul, 1) := by decide +kernel
theorem dX12_isPassed_30 : decode cX12_isPassed 30 = .ok (.iaload, 1) := by decide +kernel
theorem dX12_isPassed_31 : decode cX12_isPassed 31 = .ok (.tableswitch 167 0 6 #[41, 55, 71, 85, 101, 117, 142], 41) := by decide +kernel
theorem dX12_isPassed_72 : decode cX12_isPassed 72 = .ok (.iload_n 2, 1) := by decide +kernel
theorem dX12_isPassed_73 : decode cX12_isPassed 73 = .ok (.invokestatic 163, 3) := by decide +kernel
theorem dX12_isPassed_76 : decode cX12_isPassed 76 = .ok (.iload_n 3, 1) := by decide +kernel
theorem dX12_isPassed_77 : decode cX12_isPassed 77 = .ok (.if_icmp .ne 7, 3) := by decide +kernel
theorem dX12_isPassed_80 : decode cX12_isPassed 80 = .ok (.iconst 1, 1) := by decide +kernel
theorem dX12_isPassed_81 : decode cX12_isPassed 81 = .ok (.goto 4, 3) := by decide +kernel
theorem dX12_isPassed_84 : decode cX12_isPassed 84 = .ok (.iconst 0, 1) := by decide +kernel
theorem dX12_isPassed_85 : decode cX12_isPassed 85 = .ok (.ireturn, 1) := by decide +kernel
theorem dX12_isPassed_86 : decode cX12_isPassed 86 = .ok (.iload_n 2, 1) := by decide +kernel
theorem dX12_isPassed_87 : decode cX12_isPassed 87 = .ok (.iload_n 3, 1) := by decide +kernel
theorem dX12_isPassed_88 : decode cX12_isPassed 88 = .ok (.invokestatic 128, 3) := by decide +kernel
theorem dX12_isPassed_91 : decode cX12_isPassed 91 = .ok (.iload 4, 2) := by decide +kernel
theorem dX12_isPassed_93 : decode cX12_isPassed 93 = .ok (.if_icmp .lt 7, 3) := by decide +kernel
theorem dX12_isPassed_96 : decode cX12_isPassed 96 = .ok (.iconst 1, 1) := by decide +kernel
theorem dX12_isPassed_97 : decode cX12_isPassed 97 = .ok (.goto 4, 3) := by decide +kernel
theorem dX12_isPassed_100 : decode cX12_isPassed 100 = .ok (.iconst 0, 1) := by decide +kernel
theorem dX12_isPassed_101 : decode cX12_isPassed 101 = .ok (.ireturn, 1) := by decide +kernel
theorem dX12_isPassed_102 : decode cX12_isPassed 102 = .ok (.iload_n 2, 1) := by decide +kernel
theorem dX12_isPassed_103 : decode cX12_isPassed 103 = .ok (.sipush 10922, 3) := by decide +kernel
theorem dX12_isPassed_106 : decode cX12_isPassed 106 = .ok (.iand, 1) := by decide +kernel
theorem dX12_isPassed_107 : decode cX12_isPassed 107 = .ok (.ifCond .ne 7, 3) := by decide +kernel
theorem dX12_isPassed_110 : decode cX12_isPassed 110 = .ok (.iconst 1, 1) := by decide +kernel
theorem dX12_isPassed_111 : decode cX12_isPassed 111 = .ok (.goto 4, 3) := by decide +kernel
theorem dX12_isPassed_114 : decode cX12_isPassed 114 = .ok (.iconst 0, 1) := by decide +kernel
theorem dX12_isPassed_115 : decode cX12_isPassed 115 = .ok (.ireturn, 1) := by decide +kernel
theorem dX12_isPassed_116 : decode cX12_isPassed 116 = .ok (.aload_n 0, 1) := by decide +kernel
theorem dX12_isPassed_117 : decode cX12_isPassed 117 = .ok (.getfield 32, 3) := by decide +kernel
theorem dX12_isPassed_120 : decode cX12_isPassed 120 = .ok (.iload_n 2, 1) := by decide +kernel
theorem dX12_isPassed_121 : decode cX12_isPassed 121 = .ok (.iaload, 1) := by decide +kernel
theorem dX12_isPassed_122 : decode cX12_isPassed 122 = .ok (.iload_n 3, 1) := by decide +kernel
theorem dX12_isPassed_123 : decode cX12_isPassed 123 = .ok (.if_icmp .lt 7, 3) := by decide +kernel
theorem dX12_isPassed_126 : decode cX12_isPassed 126 = .ok (.iconst 1, 1) := by decide +kernel
theorem dX12_isPassed_127 : decode cX12_isPassed 127 = .ok (.goto 4, 3) := by decide +kernel
theorem dX12_isPassed_130 : decode cX12_isPassed 130 = .ok (.iconst 0, 1) := by decide +kernel
theorem dX12_isPassed_131 : decode cX12_isPassed 131 = .ok (.ireturn, 1) := by decide +kernel
theorem dX12_isPassed_132 : decode cX12_isPassed 132 = .ok (.aload_n 0, 1) := by decide +kernel
theorem dX12_isPassed_133 : decode cX12_isPassed 133 = .ok (.getfield 35, 3) := by decide +kernel
theorem dX12_isPassed_136 : decode cX12_isPassed 136 = .ok (.iload_n 2, 1) := by decide +kernel
theorem dX12_isPassed_137 : decode cX12_isPassed 137 = .ok (.iaload, 1) := by decide +kernel
theorem dX12_isPassed_138 : decode cX12_isPassed 138 = .ok (.iload_n 3, 1) := by decide +kernel
theorem dX12_isPassed_139 : decode cX12_isPassed 139 = .ok (.if_icmp .lt 7, 3) := by decide +kernel
theorem dX12_isPassed_142 : decode cX12_isPassed 142 = .ok (.iconst 1, 1) := by decide +kernel
theorem dX12_isPassed_143 : decode cX12_isPassed 143 = .ok (.goto 4, 3) := by decide +kernel
theorem dX12_isPassed_146 : decode cX12_isPassed 146 = .ok (.iconst 0, 1) := by decide +kernel
theorem dX12_isPassed_147 : decode cX12_isPassed 147 = .ok (.ireturn, 1) := by decide +kernel
theorem dX12_isPassed_148 : decode cX12_isPassed 148 = .ok (.aload_n 0, 1) := by decide +kernel
theorem dX12_isPassed_149 : decode cX12_isPassed 149 = .ok (.iload_n 3, 1) := by decide +kernel
theorem dX12_isPassed_150 : decode cX12_isPassed 150 = .ok (.iload_n 2, 1) := by decide +kernel
theorem dX12_isPassed_151 : decode cX12_isPassed 151 = .ok (.invokevirtual 248, 3) := by decide +kernel
theorem dX12_isPassed_154 : decode cX12_isPassed 154 = .ok (.ifCond .eq 17, 3) := by decide +kernel
theorem dX12_isPassed_157 : decode cX12_isPassed 157 = .ok (.aload_n 0, 1) := by decide +kernel
theorem dX12_isPassed_158 : decode cX12_isPassed 158 = .ok (.iload 4, 2) := by decide +kernel
theorem dX12_isPassed_160 : decode cX12_isPassed 160 = .ok (.iload_n 2, 1) := by decide +kernel
theorem dX12_isPassed_161 : decode cX12_isPassed 161 = .ok (.invokevirtual 248, 3) := by decide +kernel
theorem dX12_isPassed_164 : decode cX12_isPassed 164 = .ok (.ifCond .eq 7, 3) := by decide +kernel
theorem dX12_isPassed_167 : decode cX12_isPassed 167 = .ok (.iconst 1, 1) := by decide +kernel
theorem dX12_isPassed_168 : decode cX12_isPassed 168 = .ok (.goto 4, 3) := by decide +kernel
theorem dX12_isPassed_171 : decode cX12_isPassed 171 = .ok (.iconst 0, 1) := by decide +kernel
theorem dX12_isPassed_172 : decode cX12_isPassed 172 = .ok (.ireturn, 1) := by decide +kernel
theorem dX12_isPassed_173 : decode cX12_isPassed 173 = .ok (.aload_n 0, 1) := by decide +kernel
theorem dX12_isPassed_174 : decode cX12_isPassed 174 = .ok (.iload_n 3, 1) := by decide +kernel
theorem dX12_isPassed_175 : decode cX12_isPassed 175 = .ok (.iload_n 2, 1) := by decide +kernel
theorem dX12_isPassed_176 : decode cX12_isPassed 176 = .ok (.invokevirtual 248, 3) := by decide +kernel
theorem dX12_isPassed_179 : decode cX12_isPassed 179 = .ok (.ifCond .ne 13, 3) := by decide +kernel
theorem dX12_isPassed_182 : decode cX12_isPassed 182 = .ok (.aload_n 0, 1) := by decide +kernel
theorem dX12_isPassed_183 : decode cX12_isPassed 183 = .ok (.iload 4, 2) := by decide +kernel
theorem dX12_isPassed_185 : decode cX12_isPassed 185 = .ok (.iload_n 2, 1) := by decide +kernel
theorem dX12_isPassed_186 : decode cX12_isPassed 186 = .ok (.invokevirtual 248, 3) := by decide +kernel
theorem dX12_isPassed_189 : decode cX12_isPassed 189 = .ok (.ifCond .eq 7, 3) := by decide +kernel
theorem dX12_isPassed_192 : decode cX12_isPassed 192 = .ok (.iconst 1, 1) := by decide +kernel
theorem dX12_isPassed_193 : decode cX12_isPassed 193 = .ok (.goto 4, 3) := by decide +kernel
theorem dX12_isPassed_196 : decode cX12_isPassed 196 = .ok (.iconst 0, 1) := by decide +kernel
theorem dX12_isPassed_197 : decode cX12_isPassed 197 = .ok (.ireturn, 1) := by decide +kernel
theorem dX12_isPassed_198 : decode cX12_isPassed 198 = .ok (.aload_n 0, 1) := by decide +kernel
theorem dX12_isPassed_199 : decode cX12_isPassed 199 = .ok (.iload_n 3, 1) := by decide +kernel
theorem dX12_isPassed_200 : decode cX12_isPassed 200 = .ok (.iload_n 2, 1) := by decide +kernel
theorem dX12_isPassed_201 : decode cX12_isPassed 201 = .ok (.invokevirtual 248, 3) := by decide +kernel
theorem dX12_isPassed_204 : decode cX12_isPassed 204 = .ok (.ifCond .ne 7, 3) := by decide +kernel
theorem dX12_isPassed_207 : decode cX12_isPassed 207 = .ok (.iconst 1, 1) := by decide +kernel
theorem dX12_isPassed_208 : decode cX12_isPassed 208 = .ok (.goto 4, 3) := by decide +kernel
theorem dX12_isPassed_211 : decode cX12_isPassed 211 = .ok (.iconst 0, 1) := by decide +kernel
theorem dX12_isPassed_212 : decode cX12_isPassed 212 = .ok (.ireturn, 1) := by decide +kernel
theorem dX12_passes_0 : decode cX12_passes 0 = .ok (.aload_n 0, 1) := by decide +kernel
theorem dX12_passes_1 : decode cX12_passes 1 = .ok (.invokevirtual 144, 3) := by decide +kernel
theorem dX12_passes_4 : decode cX12_passes 4 = .ok (.aload_n 0, 1) := by decide +kernel
theorem dX12_passes_5 : decode cX12_passes 5 = .ok (.iload_n 1, 1) := by decide +kernel
theorem dX12_passes_6 : decode cX12_passes 6 = .ok (.invokevirtual 245, 3) := by decide +kernel
theorem dX12_passes_9 : decode cX12_passes 9 = .ok (.ifCond .eq 28, 3) := by decide +kernel
theorem dX12_passes_12 : decode cX12_passes 12 = .ok (.aload_n 0, 1) := by decide +kernel
theorem dX12_passes_13 : decode cX12_passes 13 = .ok (.iload_n 2, 1) := by decide +kernel
theorem dX12_passes_14 : decode cX12_passes 14 = .ok (.invokevirtual 160, 3) := by decide +kernel
theorem dX12_passes_17 : decode cX12_passes 17 = .ok (.ifCond .eq 20, 3) := by decide +kernel
theorem dX12_passes_20 : decode cX12_passes 20 = .ok (.aload_n 0, 1) := by decide +kernel
theorem dX12_passes_21 : decode cX12_passes 21 = .ok (.iload_n 1, 1) := by decide +kernel
theorem dX12_passes_22 : decode cX12_passes 22 = .ok (.iload_n 2, 1) := by decide +kernel
theorem dX12_passes_23 : decode cX12_passes 23 = .ok (.invokevirtual 248, 3) := by decide +kernel
theorem dX12_passes_26 : decode cX12_passes 26 = .ok (.ifCond .eq 7, 3) := by decide +kernel
theorem dX12_passes_29 : decode cX12_passes 29 = .ok (.iconst 1, 1) := by decide +kernel
theorem dX12_passes_30 : decode cX12_passes 30 = .ok (.goto 8, 3) := by decide +kernel
theorem dX12_passes_33 : decode cX12_passes 33 = .ok (.iconst 0, 1) := by decide +kernel
theorem dX12_passes_34 : decode cX12_passes 34 = .ok (.goto 4, 3) := by decide +kernel
theorem dX12_passes_37 : decode cX12_passes 37 = .ok (.iconst (-1), 1) := by decide +kernel
theorem dX12_passes_38 : decode cX12_passes 38 = .ok (.ireturn, 1) := by decide +kernel
theorem dX12_passCount_0 : decode cX12_passCount 0 = .ok (.aload_n 0, 1) := by decide +kernel
theorem dX12_passCount_1 : decode cX12_passCount 1 = .ok (.iload_n 1, 1) := by decide +kernel
theorem dX12_passCount_2 : decode cX12_passCount 2 = .ok (.invokevirtual 245, 3) := by decide +kernel
theorem dX12_passCount_5 : decode cX12_passCount 5 = .ok (.ifCond .ne 5, 3) := by decide +kernel
theorem dX12_passCount_8 : decode cX12_passCount 8 = .ok (.iconst (-1), 1) := by decide +kernel
theorem dX12_passCount_9 : decode cX12_passCount 9 = .ok (.ireturn, 1) := by decide +kernel
theorem dX12_passCount_10 : decode cX12_passCount 10 = .ok (.aload_n 0, 1) := by decide +kernel
theorem dX12_passCount_11 : decode cX12_passCount 11 = .ok (.invokevirtual 144, 3) := by decide +kernel
theorem dX12_passCount_14 : decode cX12_passCount 14 = .ok (.iconst 0, 1) := by decide +kernel
theorem dX12_passCount_15 : decode cX12_passCount 15 = .ok (.istore_n 2, 1) := by decide +kernel
theorem dX12_passCount_16 : decode cX12_passCount 16 = .ok (.iconst 0, 1) := by decide +kernel
theorem dX12_passCount_17 : decode cX12_passCount 17 = .ok (.istore_n 3, 1) := by decide +kernel
theorem dX12_passCount_18 : decode cX12_passCount 18 = .ok (.iload_n 3, 1) := by decide +kernel
theorem dX12_passCount_19 : decode cX12_passCount 19 = .ok (.aload_n 0, 1) := by decide +kernel
theorem dX12_passCount_20 : decode cX12_passCount 20 = .ok (.invokevirtual 125, 3) := by decide +kernel
theorem dX12_passCount_23 : decode cX12_passCount 23 = .ok (.if_icmp .ge 26, 3) := by decide +kernel
theorem dX12_passCount_26 : decode cX12_passCount 26 = .ok (.iload_n 2, 1) := by decide +kernel
theorem dX12_passCount_27 : decode cX12_passCount 27 = .ok (.aload_n 0, 1) := by decide +kernel
theorem dX12_passCount_28 : decode cX12_passCount 28 = .ok (.iload_n 1, 1) := by decide +kernel
theorem dX12_passCount_29 : decode cX12_passCount 29 = .ok (.iload_n 3, 1) := by decide +kernel
theorem dX12_passCount_30 : decode cX12_passCount 30 = .ok (.invokevirtual 248, 3) := by decide +kernel
theorem dX12_passCount_33 : decode cX12_passCount 33 = .ok (.ifCond .eq 7, 3) := by decide +kernel
theorem dX12_passCount_36 : decode cX12_passCount 36 = .ok (.iconst 1, 1) := by decide +kernel
theorem dX12_passCount_37 : decode cX12_passCount 37 = .ok (.goto 4, 3) := by decide +kernel
theorem dX12_passCount_40 : decode cX12_passCount 40 = .ok (.iconst 0, 1) := by decide +kernel
theorem dX12_passCount_41 : decode cX12_passCount 41 = .ok (.iadd, 1) := by decide +kernel
theorem dX12_passCount_42 : decode cX12_passCount 42 = .ok (.istore_n 2, 1) := by decide +kernel
theorem dX12_passCount_43 : decode cX12_passCount 43 = .ok (.iinc 3 1, 3) := by decide +kernel
theorem dX12_passCount_46 : decode cX12_passCount 46 = .ok (.goto (-28), 3) := by decide +kernel
theorem dX12_passCount_49 : decode cX12_passCount 49 = .ok (.iload_n 2, 1) := by decide +kernel
theorem dX12_passCount_50 : decode cX12_passCount 50 = .ok (.ireturn, 1) := by decide +kernel
theorem dX12_passing_0 : decode cX12_passing 0 = .ok (.aload_n 0, 1) := by decide +kernel
theorem dX12_passing_1 : decode cX12_passing 1 = .ok (.iload_n 1, 1) := by decide +kernel
theorem dX12_passing_2 : decode cX12_passing 2 = .ok (.invokevirtual 245, 3) := by decide +kernel
theorem dX12_passing_5 : decode cX12_passing 5 = .ok (.ifCond .eq 7, 3) := by decide +kernel
theorem dX12_passing_8 : decode cX12_passing 8 = .ok (.iload_n 2, 1) := by decide +kernel
theorem dX12_passing_9 : decode cX12_passing 9 = .ok (.ifCond .ge 5, 3) := by decide +kernel
theorem dX12_passing_12 : decode cX12_passing 12 = .ok (.iconst (-1), 1) := by decide +kernel
theorem dX12_passing_13 : decode cX12_passing 13 = .ok (.ireturn, 1) := by decide +kernel
theorem dX12_passing_14 : decode cX12_passing 14 = .ok (.aload_n 0, 1) := by decide +kernel
theorem dX12_passing_15 : decode cX12_passing 15 = .ok (.invokevirtual 144, 3) := by decide +kernel
theorem dX12_passing_18 : decode cX12_passing 18 = .ok (.iconst 0, 1) := by decide +kernel
theorem dX12_passing_19 : decode cX12_passing 19 = .ok (.istore_n 3, 1) := by decide +kernel
theorem dX12_passing_20 : decode cX12_passing 20 = .ok (.iconst 0, 1) := by decide +kernel
theorem dX12_passing_21 : decode cX12_passing 21 = .ok (.istore 4, 2) := by decide +kernel
theorem dX12_passing_23 : decode cX12_passing 23 = .ok (.iload 4, 2) := by decide +kernel
theorem dX12_passing_25 : decode cX12_passing 25 = .ok (.aload_n 0, 1) := by decide +kernel
theorem dX12_passing_26 : decode cX12_passing 26 = .ok (.invokevirtual 125, 3) := by decide +kernel
theorem dX12_passing_29 : decode cX12_passing 29 = .ok (.if_icmp .ge 30, 3) := by decide +kernel
theorem dX12_passing_32 : decode cX12_passing 32 = .ok (.aload_n 0, 1) := by decide +kernel
theorem dX12_passing_33 : decode cX12_passing 33 = .ok (.iload_n 1, 1) := by decide +kernel
theorem dX12_passing_34 : decode cX12_passing 34 = .ok (.iload 4, 2) := by decide +kernel
theorem dX12_passing_36 : decode cX12_passing 36 = .ok (.invokevirtual 248, 3) := by decide +kernel
theorem dX12_passing_39 : decode cX12_passing 39 = .ok (.ifCond .eq 14, 3) := by decide +kernel
theorem dX12_passing_42 : decode cX12_passing 42 = .ok (.iload_n 3, 1) := by decide +kernel
theorem dX12_passing_43 : decode cX12_passing 43 = .ok (.iload_n 2, 1) := by decide +kernel
theorem dX12_passing_44 : decode cX12_passing 44 = .ok (.if_icmp .ne 6, 3) := by decide +kernel
theorem dX12_passing_47 : decode cX12_passing 47 = .ok (.iload 4, 2) := by decide +kernel
theorem dX12_passing_49 : decode cX12_passing 49 = .ok (.ireturn, 1) := by decide +kernel
theorem dX12_passing_50 : decode cX12_passing 50 = .ok (.iinc 3 1, 3) := by decide +kernel
theorem dX12_passing_53 : decode cX12_passing 53 = .ok (.iinc 4 1, 3) := by decide +kernel
theorem dX12_passing_56 : decode cX12_passing 56 = .ok (.goto (-33), 3) := by decide +kernel
theorem dX12_passing_59 : decode cX12_passing 59 = .ok (.bipush (-2), 2) := by decide +kernel
theorem dX12_passing_61 : decode cX12_passing 61 = .ok (.ireturn, 1) := by decide +kernel
theorem dX12_append_0 : decode cX12_append 0 = .ok (.aload_n 0, 1) := by decide +kernel
theorem dX12_append_1 : decode cX12_append 1 = .ok (.iload_n 1, 1) := by decide +kernel
theorem dX12_append_2 : decode cX12_append 2 = .ok (.invokevirtual 160, 3) := by decide +kernel
theorem dX12_append_5 : decode cX12_append 5 = .ok (.ifCond .ne 5, 3) := by decide +kernel
theorem dX12_append_8 : decode cX12_append 8 = .ok (.iconst (-1), 1) := by decide +kernel
theorem dX12_append_9 : decode cX12_append 9 = .ok (.ireturn, 1) := by decide +kernel
theorem dX12_append_10 : decode cX12_append 10 = .ok (.aload_n 0, 1) := by decide +kernel
theorem dX12_append_11 : decode cX12_append 11 = .ok (.getfield 251, 3) := by decide +kernel
theorem dX12_append_14 : decode cX12_append 14 = .ok (.bipush 24, 2) := by decide +kernel
theorem dX12_append_16 : decode cX12_append 16 = .ok (.if_icmp .ne 6, 3) := by decide +kernel
theorem dX12_append_19 : decode cX12_append 19 = .ok (.bipush (-3), 2) := by decide +kernel
theorem dX12_append_21 : decode cX12_append 21 = .ok (.ireturn, 1) := by decide +kernel
theorem dX12_append_22 : decode cX12_append 22 = .ok (.aload_n 0, 1) := by decide +kernel
theorem dX12_append_23 : decode cX12_append 23 = .ok (.getfield 50, 3) := by decide +kernel
theorem dX12_append_26 : decode cX12_append 26 = .ok (.aload_n 0, 1) := by decide +kernel
theorem dX12_append_27 : decode cX12_append 27 = .ok (.getfield 251, 3) := by decide +kernel
theorem dX12_append_30 : decode cX12_append 30 = .ok (.iload_n 1, 1) := by decide +kernel
theorem dX12_append_31 : decode cX12_append 31 = .ok (.iastore, 1) := by decide +kernel
theorem dX12_append_32 : decode cX12_append 32 = .ok (.aload_n 0, 1) := by decide +kernel
theorem dX12_append_33 : decode cX12_append 33 = .ok (.dup, 1) := by decide +kernel
theorem dX12_append_34 : decode cX12_append 34 = .ok (.getfield 251, 3) := by decide +kernel
theorem dX12_append_37 : decode cX12_append 37 = .ok (.iconst 1, 1) := by decide +kernel
theorem dX12_append_38 : decode cX12_append 38 = .ok (.iadd, 1) := by decide +kernel
theorem dX12_append_39 : decode cX12_append 39 = .ok (.putfield 251, 3) := by decide +kernel
theorem dX12_append_42 : decode cX12_append 42 = .ok (.aload_n 0, 1) := by decide +kernel
theorem dX12_append_43 : decode cX12_append 43 = .ok (.getfield 251, 3) := by decide +kernel
theorem dX12_append_46 : decode cX12_append 46 = .ok (.ireturn, 1) := by decide +kernel
theorem dX12_fill_0 : decode cX12_fill 0 = .ok (.aload_n 0, 1) := by decide +kernel
theorem dX12_fill_1 : decode cX12_fill 1 = .ok (.iload_n 1, 1) := by decide +kernel
theorem dX12_fill_2 : decode cX12_fill 2 = .ok (.iload_n 2, 1) := by decide +kernel
theorem dX12_fill_3 : decode cX12_fill 3 = .ok (.invokevirtual 192, 3) := by decide +kernel
theorem dX12_fill_6 : decode cX12_fill 6 = .ok (.istore_n 3, 1) := by decide +kernel
theorem dX12_fill_7 : decode cX12_fill 7 = .ok (.iload_n 3, 1) := by decide +kernel
theorem dX12_fill_8 : decode cX12_fill 8 = .ok (.ifCond .ge 5, 3) := by decide +kernel
theorem dX12_fill_11 : decode cX12_fill 11 = .ok (.iload_n 3, 1) := by decide +kernel
theorem dX12_fill_12 : decode cX12_fill 12 = .ok (.ireturn, 1) := by decide +kernel
theorem dX12_fill_13 : decode cX12_fill 13 = .ok (.iload_n 3, 1) := by decide +kernel
theorem dX12_fill_14 : decode cX12_fill 14 = .ok (.bipush 24, 2) := by decide +kernel
theorem dX12_fill_16 : decode cX12_fill 16 = .ok (.if_icmp .le 6, 3) := by decide +kernel
theorem dX12_fill_19 : decode cX12_fill 19 = .ok (.bipush (-3), 2) := by decide +kernel
theorem dX12_fill_21 : decode cX12_fill 21 = .ok (.ireturn, 1) := by decide +kernel
theorem dX12_fill_22 : decode cX12_fill 22 = .ok (.aload_n 0, 1) := by decide +kernel
theorem dX12_fill_23 : decode cX12_fill 23 = .ok (.iload_n 3, 1) := by decide +kernel
theorem dX12_fill_24 : decode cX12_fill 24 = .ok (.putfield 251, 3) := by decide +kernel
theorem dX12_fill_27 : decode cX12_fill 27 = .ok (.iconst 0, 1) := by decide +kernel
theorem dX12_fill_28 : decode cX12_fill 28 = .ok (.istore 4, 2) := by decide +kernel
theorem dX12_fill_30 : decode cX12_fill 30 = .ok (.iload 4, 2) := by decide +kernel
theorem dX12_fill_32 : decode cX12_fill 32 = .ok (.aload_n 0, 1) := by decide +kernel
theorem dX12_fill_33 : decode cX12_fill 33 = .ok (.getfield 251, 3) := by decide +kernel
theorem dX12_fill_36 : decode cX12_fill 36 = .ok (.if_icmp .ge 23, 3) := by decide +kernel
theorem dX12_fill_39 : decode cX12_fill 39 = .ok (.aload_n 0, 1) := by decide +kernel
theorem dX12_fill_40 : decode cX12_fill 40 = .ok (.getfield 50, 3) := by decide +kernel
theorem dX12_fill_43 : decode cX12_fill 43 = .ok (.iload 4, 2) := by decide +kernel
theorem dX12_fill_45 : decode cX12_fill 45 = .ok (.aload_n 0, 1) := by decide +kernel
theorem dX12_fill_46 : decode cX12_fill 46 = .ok (.getfield 41, 3) := by decide +kernel
theorem dX12_fill_49 : decode cX12_fill 49 = .ok (.iload 4, 2) := by decide +kernel
theorem dX12_fill_51 : decode cX12_fill 51 = .ok (.iaload, 1) := by decide +kernel
theorem dX12_fill_52 : decode cX12_fill 52 = .ok (.iastore, 1) := by decide +kernel
theorem dX12_fill_53 : decode cX12_fill 53 = .ok (.iinc 4 1, 3) := by decide +kernel
theorem dX12_fill_56 : decode cX12_fill 56 = .ok (.goto (-26), 3) := by decide +kernel
theorem dX12_fill_59 : decode cX12_fill 59 = .ok (.aload_n 0, 1) := by decide +kernel
theorem dX12_fill_60 : decode cX12_fill 60 = .ok (.getfield 251, 3) := by decide +kernel
theorem dX12_fill_63 : decode cX12_fill 63 = .ok (.ireturn, 1) := by decide +kernel
theorem dX12_fillWithGenerators_0 : decode cX12_fillWithGenerators 0 = .ok (.aload_n 0, 1) := by decide +kernel
theorem dX12_fillWithGenerators_1 : decode cX12_fillWithGenerators 1 = .ok (.iload_n 1, 1) := by decide +kernel
theorem dX12_fillWithGenerators_2 : decode cX12_fillWithGenerators 2 = .ok (.iconst 0, 1) := by decide +kernel
theorem dX12_fillWithGenerators_3 : decode cX12_fillWithGenerators 3 = .ok (.invokevirtual 254, 3) := by decide +kernel
theorem dX12_fillWithGenerators_6 : decode cX12_fillWithGenerators 6 = .ok (.ireturn, 1) := by decide +kernel
theorem dX12_fillWithSymbolicGenerators_0 : decode cX12_fillWithSymbolicGenerators 0 = .ok (.aload_n 0, 1) := by decide +kernel
theorem dX12_fillWithSymbolicGenerators_1 : decode cX12_fillWithSymbolicGenerators 1 = .ok (.iload_n 1, 1) := by decide +kernel
theorem dX12_fillWithSymbolicGenerators_2 : decode cX12_fillWithSymbolicGenerators 2 = .ok (.iconst 1, 1) := by decide +kernel
theorem dX12_fillWithSymbolicGenerators_3 : decode cX12_fillWithSymbolicGenerators 3 = .ok (.invokevirtual 254, 3) := by decide +kernel
theorem dX12_fillWithSymbolicGenerators_6 : decode cX12_fillWithSymbolicGenerators 6 = .ok (.ireturn, 1) := by decide +kernel
theorem dX12_listSize_0 : decode cX12_listSize 0 = .ok (.aload_n 0, 1) := by decide +kernel
theorem dX12_listSize_1 : decode cX12_listSize 1 = .ok (.getfield 251, 3) := by decide +kernel
theorem dX12_listSize_4 : decode cX12_listSize 4 = .ok (.ireturn, 1) := by decide +kernel
theorem dX12_isPosition_0 : decode cX12_isPosition 0 = .ok (.iload_n 1, 1) := by decide +kernel
theorem dX12_isPosition_1 : decode cX12_isPosition 1 = .ok (.i2l, 1) := by decide +kernel
theorem dX12_isPosition_2 : decode cX12_isPosition 2 = .ok (.lconst 0, 1) := by decide +kernel
theorem dX12_isPosition_3 : decode cX12_isPosition 3 = .ok (.aload_n 0, 1) := by decide +kernel
theorem dX12_isPosition_4 : decode cX12_isPosition 4 = .ok (.getfield 251, 3) := by decide +kernel
theorem dX12_isPosition_7 : decode cX12_isPosition 7 = .ok (.iconst 1, 1) := by decide +kernel
theorem dX12_isPosition_8 : decode cX12_isPosition 8 = .ok (.isub, 1) := by decide +kernel
theorem dX12_isPosition_9 : decode cX12_isPosition 9 = .ok (.i2l, 1) := by decide +kernel
theorem dX12_isPosition_10 : decode cX12_isPosition 10 = .ok (.invokestatic 79, 3) := by decide +kernel
theorem dX12_isPosition_13 : decode cX12_isPosition 13 = .ok (.ireturn, 1) := by decide +kernel
theorem dX12_element_0 : decode cX12_element 0 = .ok (.iload_n 1, 1) := by decide +kernel
theorem dX12_element_1 : decode cX12_element 1 = .ok (.ifCond .ge 7, 3) := by decide +kernel
theorem dX12_element_4 : decode cX12_element 4 = .ok (.iconst (-1), 1) := by decide +kernel
theorem dX12_element_5 : decode cX12_element 5 = .ok (.goto 22, 3) := by decide +kernel
theorem dX12_element_8 : decode cX12_element 8 = .ok (.iload_n 1, 1) := by decide +kernel
theorem dX12_element_9 : decode cX12_element 9 = .ok (.aload_n 0, 1) := by decide +kernel
theorem dX12_element_10 : decode cX12_element 10 = .ok (.getfield 251, 3) := by decide +kernel
theorem dX12_element_13 : decode cX12_element 13 = .ok (.if_icmp .ge 12, 3) := by decide +kernel
theorem dX12_element_16 : decode cX12_element 16 = .ok (.aload_n 0, 1) := by decide +kernel
theorem dX12_element_17 : decode cX12_element 17 = .ok (.getfield 50, 3) := by decide +kernel
theorem dX12_element_20 : decode cX12_element 20 = .ok (.iload_n 1, 1) := by decide +kernel
theorem dX12_element_21 : decode cX12_element 21 = .ok (.iaload, 1) := by decide +kernel
theorem dX12_element_22 : decode cX12_element 22 = .ok (.goto 5, 3) := by decide +kernel
theorem dX12_element_25 : decode cX12_element 25 = .ok (.bipush (-2), 2) := by decide +kernel
end
section
theorem dX12_element_27 : decode cX12_element 27 = .ok (.ireturn, 1) := by decide +kernel
theorem dX12_clearList_0 : decode cX12_clearList 0 = .ok (.aload_n 0, 1) := by decide +kernel
theorem dX12_clearList_1 : decode cX12_clearList 1 = .ok (.getfield 251, 3) := by decide +kernel
theorem dX12_clearList_4 : decode cX12_clearList 4 = .ok (.istore_n 1, 1) := by decide +kernel
theorem dX12_clearList_5 : decode cX12_clearList 5 = .ok (.aload_n 0, 1) := by decide +kernel
theorem dX12_clearList_6 : decode cX12_clearList 6 = .ok (.iconst 0, 1) := by decide +kernel
theorem dX12_clearList_7 : decode cX12_clearList 7 = .ok (.putfield 251, 3) := by decide +kernel
theorem dX12_clearList_10 : decode cX12_clearList 10 = .ok (.iload_n 1, 1) := by decide +kernel
theorem dX12_clearList_11 : decode cX12_clearList 11 = .ok (.ireturn, 1) := by decide +kernel
theorem dX12_isRedundant_0 : decode cX12_isRedundant 0 = .ok (.iconst 0, 1) := by decide +kernel
theorem dX12_isRedundant_1 : decode cX12_isRedundant 1 = .ok (.istore_n 2, 1) := by decide +kernel
theorem dX12_isRedundant_2 : decode cX12_isRedundant 2 = .ok (.iload_n 2, 1) := by decide +kernel
theorem dX12_isRedundant_3 : decode cX12_isRedundant 3 = .ok (.aload_n 0, 1) := by decide +kernel
theorem dX12_isRedundant_4 : decode cX12_isRedundant 4 = .ok (.getfield 251, 3) := by decide +kernel
theorem dX12_isRedundant_7 : decode cX12_isRedundant 7 = .ok (.if_icmp .ge 54, 3) := by decide +kernel
theorem dX12_isRedundant_10 : decode cX12_isRedundant 10 = .ok (.iload_n 2, 1) := by decide +kernel
theorem dX12_isRedundant_11 : decode cX12_isRedundant 11 = .ok (.iload_n 1, 1) := by decide +kernel
theorem dX12_isRedundant_12 : decode cX12_isRedundant 12 = .ok (.if_icmp .eq 43, 3) := by decide +kernel
theorem dX12_isRedundant_15 : decode cX12_isRedundant 15 = .ok (.aload_n 0, 1) := by decide +kernel
theorem dX12_isRedundant_16 : decode cX12_isRedundant 16 = .ok (.getfield 50, 3) := by decide +kernel
theorem dX12_isRedundant_19 : decode cX12_isRedundant 19 = .ok (.iload_n 2, 1) := by decide +kernel
theorem dX12_isRedundant_20 : decode cX12_isRedundant 20 = .ok (.iaload, 1) := by decide +kernel
theorem dX12_isRedundant_21 : decode cX12_isRedundant 21 = .ok (.aload_n 0, 1) := by decide +kernel
theorem dX12_isRedundant_22 : decode cX12_isRedundant 22 = .ok (.getfield 50, 3) := by decide +kernel
theorem dX12_isRedundant_25 : decode cX12_isRedundant 25 = .ok (.iload_n 1, 1) := by decide +kernel
theorem dX12_isRedundant_26 : decode cX12_isRedundant 26 = .ok (.iaload, 1) := by decide +kernel
theorem dX12_isRedundant_27 : decode cX12_isRedundant 27 = .ok (.invokestatic 166, 3) := by decide +kernel
theorem dX12_isRedundant_30 : decode cX12_isRedundant 30 = .ok (.ifCond .eq 25, 3) := by decide +kernel
theorem dX12_isRedundant_33 : decode cX12_isRedundant 33 = .ok (.aload_n 0, 1) := by decide +kernel
theorem dX12_isRedundant_34 : decode cX12_isRedundant 34 = .ok (.getfield 50, 3) := by decide +kernel
theorem dX12_isRedundant_37 : decode cX12_isRedundant 37 = .ok (.iload_n 2, 1) := by decide +kernel
theorem dX12_isRedundant_38 : decode cX12_isRedundant 38 = .ok (.iaload, 1) := by decide +kernel
theorem dX12_isRedundant_39 : decode cX12_isRedundant 39 = .ok (.aload_n 0, 1) := by decide +kernel
theorem dX12_isRedundant_40 : decode cX12_isRedundant 40 = .ok (.getfield 50, 3) := by decide +kernel
theorem dX12_isRedundant_43 : decode cX12_isRedundant 43 = .ok (.iload_n 1, 1) := by decide +kernel
theorem dX12_isRedundant_44 : decode cX12_isRedundant 44 = .ok (.iaload, 1) := by decide +kernel
theorem dX12_isRedundant_45 : decode cX12_isRedundant 45 = .ok (.if_icmp .ne 8, 3) := by decide +kernel
theorem dX12_isRedundant_48 : decode cX12_isRedundant 48 = .ok (.iload_n 2, 1) := by decide +kernel
theorem dX12_isRedundant_49 : decode cX12_isRedundant 49 = .ok (.iload_n 1, 1) := by decide +kernel
theorem dX12_isRedundant_50 : decode cX12_isRedundant 50 = .ok (.if_icmp .ge 5, 3) := by decide +kernel
theorem dX12_isRedundant_53 : decode cX12_isRedundant 53 = .ok (.iconst 1, 1) := by decide +kernel
theorem dX12_isRedundant_54 : decode cX12_isRedundant 54 = .ok (.ireturn, 1) := by decide +kernel
theorem dX12_isRedundant_55 : decode cX12_isRedundant 55 = .ok (.iinc 2 1, 3) := by decide +kernel
theorem dX12_isRedundant_58 : decode cX12_isRedundant 58 = .ok (.goto (-56), 3) := by decide +kernel
theorem dX12_isRedundant_61 : decode cX12_isRedundant 61 = .ok (.iconst 0, 1) := by decide +kernel
theorem dX12_isRedundant_62 : decode cX12_isRedundant 62 = .ok (.ireturn, 1) := by decide +kernel
theorem dX12_minimizeList_0 : decode cX12_minimizeList 0 = .ok (.iconst 0, 1) := by decide +kernel
theorem dX12_minimizeList_1 : decode cX12_minimizeList 1 = .ok (.istore_n 1, 1) := by decide +kernel
theorem dX12_minimizeList_2 : decode cX12_minimizeList 2 = .ok (.iconst 0, 1) := by decide +kernel
theorem dX12_minimizeList_3 : decode cX12_minimizeList 3 = .ok (.istore_n 2, 1) := by decide +kernel
theorem dX12_minimizeList_4 : decode cX12_minimizeList 4 = .ok (.iload_n 2, 1) := by decide +kernel
theorem dX12_minimizeList_5 : decode cX12_minimizeList 5 = .ok (.aload_n 0, 1) := by decide +kernel
theorem dX12_minimizeList_6 : decode cX12_minimizeList 6 = .ok (.getfield 251, 3) := by decide +kernel
theorem dX12_minimizeList_9 : decode cX12_minimizeList 9 = .ok (.if_icmp .ge 32, 3) := by decide +kernel
theorem dX12_minimizeList_12 : decode cX12_minimizeList 12 = .ok (.aload_n 0, 1) := by decide +kernel
theorem dX12_minimizeList_13 : decode cX12_minimizeList 13 = .ok (.iload_n 2, 1) := by decide +kernel
theorem dX12_minimizeList_14 : decode cX12_minimizeList 14 = .ok (.invokevirtual 257, 3) := by decide +kernel
theorem dX12_minimizeList_17 : decode cX12_minimizeList 17 = .ok (.ifCond .ne 18, 3) := by decide +kernel
theorem dX12_minimizeList_20 : decode cX12_minimizeList 20 = .ok (.aload_n 0, 1) := by decide +kernel
theorem dX12_minimizeList_21 : decode cX12_minimizeList 21 = .ok (.getfield 53, 3) := by decide +kernel
theorem dX12_minimizeList_24 : decode cX12_minimizeList 24 = .ok (.iload_n 1, 1) := by decide +kernel
theorem dX12_minimizeList_25 : decode cX12_minimizeList 25 = .ok (.aload_n 0, 1) := by decide +kernel
theorem dX12_minimizeList_26 : decode cX12_minimizeList 26 = .ok (.getfield 50, 3) := by decide +kernel
theorem dX12_minimizeList_29 : decode cX12_minimizeList 29 = .ok (.iload_n 2, 1) := by decide +kernel
theorem dX12_minimizeList_30 : decode cX12_minimizeList 30 = .ok (.iaload, 1) := by decide +kernel
theorem dX12_minimizeList_31 : decode cX12_minimizeList 31 = .ok (.iastore, 1) := by decide +kernel
theorem dX12_minimizeList_32 : decode cX12_minimizeList 32 = .ok (.iinc 1 1, 3) := by decide +kernel
theorem dX12_minimizeList_35 : decode cX12_minimizeList 35 = .ok (.iinc 2 1, 3) := by decide +kernel
theorem dX12_minimizeList_38 : decode cX12_minimizeList 38 = .ok (.goto (-34), 3) := by decide +kernel
theorem dX12_minimizeList_41 : decode cX12_minimizeList 41 = .ok (.iconst 0, 1) := by decide +kernel
theorem dX12_minimizeList_42 : decode cX12_minimizeList 42 = .ok (.istore_n 2, 1) := by decide +kernel
theorem dX12_minimizeList_43 : decode cX12_minimizeList 43 = .ok (.iload_n 2, 1) := by decide +kernel
theorem dX12_minimizeList_44 : decode cX12_minimizeList 44 = .ok (.iload_n 1, 1) := by decide +kernel
theorem dX12_minimizeList_45 : decode cX12_minimizeList 45 = .ok (.if_icmp .ge 21, 3) := by decide +kernel
theorem dX12_minimizeList_48 : decode cX12_minimizeList 48 = .ok (.aload_n 0, 1) := by decide +kernel
theorem dX12_minimizeList_49 : decode cX12_minimizeList 49 = .ok (.getfield 50, 3) := by decide +kernel
theorem dX12_minimizeList_52 : decode cX12_minimizeList 52 = .ok (.iload_n 2, 1) := by decide +kernel
theorem dX12_minimizeList_53 : decode cX12_minimizeList 53 = .ok (.aload_n 0, 1) := by decide +kernel
theorem dX12_minimizeList_54 : decode cX12_minimizeList 54 = .ok (.getfield 53, 3) := by decide +kernel
theorem dX12_minimizeList_57 : decode cX12_minimizeList 57 = .ok (.iload_n 2, 1) := by decide +kernel
theorem dX12_minimizeList_58 : decode cX12_minimizeList 58 = .ok (.iaload, 1) := by decide +kernel
theorem dX12_minimizeList_59 : decode cX12_minimizeList 59 = .ok (.iastore, 1) := by decide +kernel
theorem dX12_minimizeList_60 : decode cX12_minimizeList 60 = .ok (.iinc 2 1, 3) := by decide +kernel
theorem dX12_minimizeList_63 : decode cX12_minimizeList 63 = .ok (.goto (-20), 3) := by decide +kernel
theorem dX12_minimizeList_66 : decode cX12_minimizeList 66 = .ok (.aload_n 0, 1) := by decide +kernel
theorem dX12_minimizeList_67 : decode cX12_minimizeList 67 = .ok (.iload_n 1, 1) := by decide +kernel
theorem dX12_minimizeList_68 : decode cX12_minimizeList 68 = .ok (.putfield 251, 3) := by decide +kernel
theorem dX12_minimizeList_71 : decode cX12_minimizeList 71 = .ok (.aload_n 0, 1) := by decide +kernel
theorem dX12_minimizeList_72 : decode cX12_minimizeList 72 = .ok (.getfield 251, 3) := by decide +kernel
theorem dX12_minimizeList_75 : decode cX12_minimizeList 75 = .ok (.ireturn, 1) := by decide +kernel
theorem dX12_divideListBy_0 : decode cX12_divideListBy 0 = .ok (.iload_n 1, 1) := by decide +kernel
theorem dX12_divideListBy_1 : decode cX12_divideListBy 1 = .ok (.i2l, 1) := by decide +kernel
theorem dX12_divideListBy_2 : decode cX12_divideListBy 2 = .ok (.lconst 0, 1) := by decide +kernel
theorem dX12_divideListBy_3 : decode cX12_divideListBy 3 = .ok (.ldc2_w 243, 3) := by decide +kernel
theorem dX12_divideListBy_6 : decode cX12_divideListBy 6 = .ok (.invokestatic 79, 3) := by decide +kernel
theorem dX12_divideListBy_9 : decode cX12_divideListBy 9 = .ok (.ifCond .ne 5, 3) := by decide +kernel
theorem dX12_divideListBy_12 : decode cX12_divideListBy 12 = .ok (.iconst (-1), 1) := by decide +kernel
theorem dX12_divideListBy_13 : decode cX12_divideListBy 13 = .ok (.ireturn, 1) := by decide +kernel
theorem dX12_divideListBy_14 : decode cX12_divideListBy 14 = .ok (.iconst 0, 1) := by decide +kernel
theorem dX12_divideListBy_15 : decode cX12_divideListBy 15 = .ok (.istore_n 2, 1) := by decide +kernel
theorem dX12_divideListBy_16 : decode cX12_divideListBy 16 = .ok (.iload_n 2, 1) := by decide +kernel
theorem dX12_divideListBy_17 : decode cX12_divideListBy 17 = .ok (.aload_n 0, 1) := by decide +kernel
theorem dX12_divideListBy_18 : decode cX12_divideListBy 18 = .ok (.getfield 251, 3) := by decide +kernel
theorem dX12_divideListBy_21 : decode cX12_divideListBy 21 = .ok (.if_icmp .ge 40, 3) := by decide +kernel
theorem dX12_divideListBy_24 : decode cX12_divideListBy 24 = .ok (.aload_n 0, 1) := by decide +kernel
theorem dX12_divideListBy_25 : decode cX12_divideListBy 25 = .ok (.getfield 50, 3) := by decide +kernel
theorem dX12_divideListBy_28 : decode cX12_divideListBy 28 = .ok (.iload_n 2, 1) := by decide +kernel
theorem dX12_divideListBy_29 : decode cX12_divideListBy 29 = .ok (.dup2, 1) := by decide +kernel
theorem dX12_divideListBy_30 : decode cX12_divideListBy 30 = .ok (.iaload, 1) := by decide +kernel
theorem dX12_divideListBy_31 : decode cX12_divideListBy 31 = .ok (.aload_n 0, 1) := by decide +kernel
theorem dX12_divideListBy_32 : decode cX12_divideListBy 32 = .ok (.getfield 50, 3) := by decide +kernel
theorem dX12_divideListBy_35 : decode cX12_divideListBy 35 = .ok (.iload_n 2, 1) := by decide +kernel
theorem dX12_divideListBy_36 : decode cX12_divideListBy 36 = .ok (.iaload, 1) := by decide +kernel
theorem dX12_divideListBy_37 : decode cX12_divideListBy 37 = .ok (.iload_n 1, 1) := by decide +kernel
theorem dX12_divideListBy_38 : decode cX12_divideListBy 38 = .ok (.invokestatic 128, 3) := by decide +kernel
theorem dX12_divideListBy_41 : decode cX12_divideListBy 41 = .ok (.ifCond .le 11, 3) := by decide +kernel
theorem dX12_divideListBy_44 : decode cX12_divideListBy 44 = .ok (.iconst 1, 1) := by decide +kernel
theorem dX12_divideListBy_45 : decode cX12_divideListBy 45 = .ok (.iconst 2, 1) := by decide +kernel
theorem dX12_divideListBy_46 : decode cX12_divideListBy 46 = .ok (.iload_n 1, 1) := by decide +kernel
theorem dX12_divideListBy_47 : decode cX12_divideListBy 47 = .ok (.imul, 1) := by decide +kernel
theorem dX12_divideListBy_48 : decode cX12_divideListBy 48 = .ok (.ishl, 1) := by decide +kernel
theorem dX12_divideListBy_49 : decode cX12_divideListBy 49 = .ok (.goto 4, 3) := by decide +kernel
theorem dX12_divideListBy_52 : decode cX12_divideListBy 52 = .ok (.iconst 0, 1) := by decide +kernel
theorem dX12_divideListBy_53 : decode cX12_divideListBy 53 = .ok (.isub, 1) := by decide +kernel
theorem dX12_divideListBy_54 : decode cX12_divideListBy 54 = .ok (.iastore, 1) := by decide +kernel
theorem dX12_divideListBy_55 : decode cX12_divideListBy 55 = .ok (.iinc 2 1, 3) := by decide +kernel
theorem dX12_divideListBy_58 : decode cX12_divideListBy 58 = .ok (.goto (-42), 3) := by decide +kernel
theorem dX12_divideListBy_61 : decode cX12_divideListBy 61 = .ok (.aload_n 0, 1) := by decide +kernel
theorem dX12_divideListBy_62 : decode cX12_divideListBy 62 = .ok (.invokevirtual 260, 3) := by decide +kernel
theorem dX12_divideListBy_65 : decode cX12_divideListBy 65 = .ok (.ireturn, 1) := by decide +kernel
theorem dX12_reverseList_0 : decode cX12_reverseList 0 = .ok (.iconst 0, 1) := by decide +kernel
theorem dX12_reverseList_1 : decode cX12_reverseList 1 = .ok (.istore_n 1, 1) := by decide +kernel
theorem dX12_reverseList_2 : decode cX12_reverseList 2 = .ok (.iload_n 1, 1) := by decide +kernel
theorem dX12_reverseList_3 : decode cX12_reverseList 3 = .ok (.aload_n 0, 1) := by decide +kernel
theorem dX12_reverseList_4 : decode cX12_reverseList 4 = .ok (.getfield 251, 3) := by decide +kernel
theorem dX12_reverseList_7 : decode cX12_reverseList 7 = .ok (.iconst 2, 1) := by decide +kernel
theorem dX12_reverseList_8 : decode cX12_reverseList 8 = .ok (.idiv, 1) := by decide +kernel
theorem dX12_reverseList_9 : decode cX12_reverseList 9 = .ok (.if_icmp .ge 23, 3) := by decide +kernel
theorem dX12_reverseList_12 : decode cX12_reverseList 12 = .ok (.aload_n 0, 1) := by decide +kernel
theorem dX12_reverseList_13 : decode cX12_reverseList 13 = .ok (.iload_n 1, 1) := by decide +kernel
theorem dX12_reverseList_14 : decode cX12_reverseList 14 = .ok (.aload_n 0, 1) := by decide +kernel
theorem dX12_reverseList_15 : decode cX12_reverseList 15 = .ok (.getfield 251, 3) := by decide +kernel
theorem dX12_reverseList_18 : decode cX12_reverseList 18 = .ok (.iconst 1, 1) := by decide +kernel
theorem dX12_reverseList_19 : decode cX12_reverseList 19 = .ok (.isub, 1) := by decide +kernel
theorem dX12_reverseList_20 : decode cX12_reverseList 20 = .ok (.iload_n 1, 1) := by decide +kernel
theorem dX12_reverseList_21 : decode cX12_reverseList 21 = .ok (.isub, 1) := by decide +kernel
theorem dX12_reverseList_22 : decode cX12_reverseList 22 = .ok (.invokevirtual 263, 3) := by decide +kernel
theorem dX12_reverseList_25 : decode cX12_reverseList 25 = .ok (.pop, 1) := by decide +kernel
theorem dX12_reverseList_26 : decode cX12_reverseList 26 = .ok (.iinc 1 1, 3) := by decide +kernel
theorem dX12_reverseList_29 : decode cX12_reverseList 29 = .ok (.goto (-27), 3) := by decide +kernel
theorem dX12_reverseList_32 : decode cX12_reverseList 32 = .ok (.aload_n 0, 1) := by decide +kernel
theorem dX12_reverseList_33 : decode cX12_reverseList 33 = .ok (.getfield 251, 3) := by decide +kernel
theorem dX12_reverseList_36 : decode cX12_reverseList 36 = .ok (.ireturn, 1) := by decide +kernel
theorem dX12_rotateList_0 : decode cX12_rotateList 0 = .ok (.iload_n 1, 1) := by decide +kernel
theorem dX12_rotateList_1 : decode cX12_rotateList 1 = .ok (.i2l, 1) := by decide +kernel
theorem dX12_rotateList_2 : decode cX12_rotateList 2 = .ok (.lconst 0, 1) := by decide +kernel
theorem dX12_rotateList_3 : decode cX12_rotateList 3 = .ok (.ldc2_w 266, 3) := by decide +kernel
theorem dX12_rotateList_6 : decode cX12_rotateList 6 = .ok (.invokestatic 79, 3) := by decide +kernel
theorem dX12_rotateList_9 : decode cX12_rotateList 9 = .ok (.ifCond .ne 5, 3) := by decide +kernel
theorem dX12_rotateList_12 : decode cX12_rotateList 12 = .ok (.iconst (-1), 1) := by decide +kernel
theorem dX12_rotateList_13 : decode cX12_rotateList 13 = .ok (.ireturn, 1) := by decide +kernel
theorem dX12_rotateList_14 : decode cX12_rotateList 14 = .ok (.iconst 0, 1) := by decide +kernel
theorem dX12_rotateList_15 : decode cX12_rotateList 15 = .ok (.istore_n 2, 1) := by decide +kernel
theorem dX12_rotateList_16 : decode cX12_rotateList 16 = .ok (.iload_n 2, 1) := by decide +kernel
theorem dX12_rotateList_17 : decode cX12_rotateList 17 = .ok (.aload_n 0, 1) := by decide +kernel
theorem dX12_rotateList_18 : decode cX12_rotateList 18 = .ok (.getfield 251, 3) := by decide +kernel
theorem dX12_rotateList_21 : decode cX12_rotateList 21 = .ok (.if_icmp .ge 28, 3) := by decide +kernel
theorem dX12_rotateList_24 : decode cX12_rotateList 24 = .ok (.aload_n 0, 1) := by decide +kernel
theorem dX12_rotateList_25 : decode cX12_rotateList 25 = .ok (.getfield 53, 3) := by decide +kernel
theorem dX12_rotateList_28 : decode cX12_rotateList 28 = .ok (.iload_n 2, 1) := by decide +kernel
theorem dX12_rotateList_29 : decode cX12_rotateList 29 = .ok (.iload_n 1, 1) := by decide +kernel
theorem dX12_rotateList_30 : decode cX12_rotateList 30 = .ok (.iadd, 1) := by decide +kernel
theorem dX12_rotateList_31 : decode cX12_rotateList 31 = .ok (.aload_n 0, 1) := by decide +kernel
theorem dX12_rotateList_32 : decode cX12_rotateList 32 = .ok (.getfield 251, 3) := by decide +kernel
theorem dX12_rotateList_35 : decode cX12_rotateList 35 = .ok (.irem, 1) := by decide +kernel
theorem dX12_rotateList_36 : decode cX12_rotateList 36 = .ok (.aload_n 0, 1) := by decide +kernel
theorem dX12_rotateList_37 : decode cX12_rotateList 37 = .ok (.getfield 50, 3) := by decide +kernel
theorem dX12_rotateList_40 : decode cX12_rotateList 40 = .ok (.iload_n 2, 1) := by decide +kernel
theorem dX12_rotateList_41 : decode cX12_rotateList 41 = .ok (.iaload, 1) := by decide +kernel
theorem dX12_rotateList_42 : decode cX12_rotateList 42 = .ok (.iastore, 1) := by decide +kernel
theorem dX12_rotateList_43 : decode cX12_rotateList 43 = .ok (.iinc 2 1, 3) := by decide +kernel
theorem dX12_rotateList_46 : decode cX12_rotateList 46 = .ok (.goto (-30), 3) := by decide +kernel
theorem dX12_rotateList_49 : decode cX12_rotateList 49 = .ok (.iconst 0, 1) := by decide +kernel
theorem dX12_rotateList_50 : decode cX12_rotateList 50 = .ok (.istore_n 2, 1) := by decide +kernel
theorem dX12_rotateList_51 : decode cX12_rotateList 51 = .ok (.iload_n 2, 1) := by decide +kernel
theorem dX12_rotateList_52 : decode cX12_rotateList 52 = .ok (.aload_n 0, 1) := by decide +kernel
theorem dX12_rotateList_53 : decode cX12_rotateList 53 = .ok (.getfield 251, 3) := by decide +kernel
theorem dX12_rotateList_56 : decode cX12_rotateList 56 = .ok (.if_icmp .ge 21, 3) := by decide +kernel
theorem dX12_rotateList_59 : decode cX12_rotateList 59 = .ok (.aload_n 0, 1) := by decide +kernel
theorem dX12_rotateList_60 : decode cX12_rotateList 60 = .ok (.getfield 50, 3) := by decide +kernel
theorem dX12_rotateList_63 : decode cX12_rotateList 63 = .ok (.iload_n 2, 1) := by decide +kernel
theorem dX12_rotateList_64 : decode cX12_rotateList 64 = .ok (.aload_n 0, 1) := by decide +kernel
theorem dX12_rotateList_65 : decode cX12_rotateList 65 = .ok (.getfield 53, 3) := by decide +kernel
theorem dX12_rotateList_68 : decode cX12_rotateList 68 = .ok (.iload_n 2, 1) := by decide +kernel
theorem dX12_rotateList_69 : decode cX12_rotateList 69 = .ok (.iaload, 1) := by decide +kernel
theorem dX12_rotateList_70 : decode cX12_rotateList 70 = .ok (.iastore, 1) := by decide +kernel
theorem dX12_rotateList_71 : decode cX12_rotateList 71 = .ok (.iinc 2 1, 3) := by decide +kernel
theorem dX12_rotateList_74 : decode cX12_rotateList 74 = .ok (.goto (-23), 3) := by decide +kernel
theorem dX12_rotateList_77 : decode cX12_rotateList 77 = .ok (.aload_n 0, 1) := by decide +kernel
theorem dX12_rotateList_78 : decode cX12_rotateList 78 = .ok (.getfield 251, 3) := by decide +kernel
theorem dX12_rotateList_81 : decode cX12_rotateList 81 = .ok (.ireturn, 1) := by decide +kernel
theorem dX12_swapElements_0 : decode cX12_swapElements 0 = .ok (.aload_n 0, 1) := by decide +kernel
theorem dX12_swapElements_1 : decode cX12_swapElements 1 = .ok (.iload_n 1, 1) := by decide +kernel
theorem dX12_swapElements_2 : decode cX12_swapElements 2 = .ok (.invokevirtual 268, 3) := by decide +kernel
theorem dX12_swapElements_5 : decode cX12_swapElements 5 = .ok (.ifCond .eq 11, 3) := by decide +kernel
theorem dX12_swapElements_8 : decode cX12_swapElements 8 = .ok (.aload_n 0, 1) := by decide +kernel
theorem dX12_swapElements_9 : decode cX12_swapElements 9 = .ok (.iload_n 2, 1) := by decide +kernel
theorem dX12_swapElements_10 : decode cX12_swapElements 10 = .ok (.invokevirtual 268, 3) := by decide +kernel
theorem dX12_swapElements_13 : decode cX12_swapElements 13 = .ok (.ifCond .ne 6, 3) := by decide +kernel
theorem dX12_swapElements_16 : decode cX12_swapElements 16 = .ok (.bipush (-2), 2) := by decide +kernel
theorem dX12_swapElements_18 : decode cX12_swapElements 18 = .ok (.ireturn, 1) := by decide +kernel
theorem dX12_swapElements_19 : decode cX12_swapElements 19 = .ok (.aload_n 0, 1) := by decide +kernel
theorem dX12_swapElements_20 : decode cX12_swapElements 20 = .ok (.getfield 50, 3) := by decide +kernel
theorem dX12_swapElements_23 : decode cX12_swapElements 23 = .ok (.iload_n 1, 1) := by decide +kernel
theorem dX12_swapElements_24 : decode cX12_swapElements 24 = .ok (.iaload, 1) := by decide +kernel
theorem dX12_swapElements_25 : decode cX12_swapElements 25 = .ok (.istore_n 3, 1) := by decide +kernel
theorem dX12_swapElements_26 : decode cX12_swapElements 26 = .ok (.aload_n 0, 1) := by decide +kernel
theorem dX12_swapElements_27 : decode cX12_swapElements 27 = .ok (.getfield 50, 3) := by decide +kernel
theorem dX12_swapElements_30 : decode cX12_swapElements 30 = .ok (.iload_n 1, 1) := by decide +kernel
theorem dX12_swapElements_31 : decode cX12_swapElements 31 = .ok (.aload_n 0, 1) := by decide +kernel
theorem dX12_swapElements_32 : decode cX12_swapElements 32 = .ok (.getfield 50, 3) := by decide +kernel
theorem dX12_swapElements_35 : decode cX12_swapElements 35 = .ok (.iload_n 2, 1) := by decide +kernel
theorem dX12_swapElements_36 : decode cX12_swapElements 36 = .ok (.iaload, 1) := by decide +kernel
theorem dX12_swapElements_37 : decode cX12_swapElements 37 = .ok (.iastore, 1) := by decide +kernel
theorem dX12_swapElements_38 : decode cX12_swapElements 38 = .ok (.aload_n 0, 1) := by decide +kernel
theorem dX12_swapElements_39 : decode cX12_swapElements 39 = .ok (.getfield 50, 3) := by decide +kernel
theorem dX12_swapElements_42 : decode cX12_swapElements 42 = .ok (.iload_n 2, 1) := by decide +kernel
theorem dX12_swapElements_43 : decode cX12_swapElements 43 = .ok (.iload_n 3, 1) := by decide +kernel
theorem dX12_swapElements_44 : decode cX12_swapElements 44 = .ok (.iastore, 1) := by decide +kernel
theorem dX12_swapElements_45 : decode cX12_swapElements 45 = .ok (.aload_n 0, 1) := by decide +kernel
theorem dX12_swapElements_46 : decode cX12_swapElements 46 = .ok (.getfield 251, 3) := by decide +kernel
theorem dX12_swapElements_49 : decode cX12_swapElements 49 = .ok (.ireturn, 1) := by decide +kernel
theorem dX12_indexOfDivisor_0 : decode cX12_indexOfDivisor 0 = .ok (.aload_n 0, 1) := by decide +kernel
theorem dX12_indexOfDivisor_1 : decode cX12_indexOfDivisor 1 = .ok (.iload_n 1, 1) := by decide +kernel
theorem dX12_indexOfDivisor_2 : decode cX12_indexOfDivisor 2 = .ok (.invokevirtual 160, 3) := by decide +kernel
theorem dX12_indexOfDivisor_5 : decode cX12_indexOfDivisor 5 = .ok (.ifCond .ne 5, 3) := by decide +kernel
theorem dX12_indexOfDivisor_8 : decode cX12_indexOfDivisor 8 = .ok (.iconst (-1), 1) := by decide +kernel
theorem dX12_indexOfDivisor_9 : decode cX12_indexOfDivisor 9 = .ok (.ireturn, 1) := by decide +kernel
theorem dX12_indexOfDivisor_10 : decode cX12_indexOfDivisor 10 = .ok (.iconst 0, 1) := by decide +kernel
theorem dX12_indexOfDivisor_11 : decode cX12_indexOfDivisor 11 = .ok (.istore_n 2, 1) := by decide +kernel
theorem dX12_indexOfDivisor_12 : decode cX12_indexOfDivisor 12 = .ok (.iload_n 2, 1) := by decide +kernel
theorem dX12_indexOfDivisor_13 : decode cX12_indexOfDivisor 13 = .ok (.aload_n 0, 1) := by decide +kernel
theorem dX12_indexOfDivisor_14 : decode cX12_indexOfDivisor 14 = .ok (.getfield 251, 3) := by decide +kernel
theorem dX12_indexOfDivisor_17 : decode cX12_indexOfDivisor 17 = .ok (.if_icmp .ge 24, 3) := by decide +kernel
theorem dX12_indexOfDivisor_20 : decode cX12_indexOfDivisor 20 = .ok (.aload_n 0, 1) := by decide +kernel
theorem dX12_indexOfDivisor_21 : decode cX12_indexOfDivisor 21 = .ok (.getfield 50, 3) := by decide +kernel
theorem dX12_indexOfDivisor_24 : decode cX12_indexOfDivisor 24 = .ok (.iload_n 2, 1) := by decide +kernel
theorem dX12_indexOfDivisor_25 : decode cX12_indexOfDivisor 25 = .ok (.iaload, 1) := by decide +kernel
theorem dX12_indexOfDivisor_26 : decode cX12_indexOfDivisor 26 = .ok (.iload_n 1, 1) := by decide +kernel
theorem dX12_indexOfDivisor_27 : decode cX12_indexOfDivisor 27 = .ok (.invokestatic 166, 3) := by decide +kernel
theorem dX12_indexOfDivisor_30 : decode cX12_indexOfDivisor 30 = .ok (.ifCond .eq 5, 3) := by decide +kernel
theorem dX12_indexOfDivisor_33 : decode cX12_indexOfDivisor 33 = .ok (.iload_n 2, 1) := by decide +kernel
theorem dX12_indexOfDivisor_34 : decode cX12_indexOfDivisor 34 = .ok (.ireturn, 1) := by decide +kernel
theorem dX12_indexOfDivisor_35 : decode cX12_indexOfDivisor 35 = .ok (.iinc 2 1, 3) := by decide +kernel
theorem dX12_indexOfDivisor_38 : decode cX12_indexOfDivisor 38 = .ok (.goto (-26), 3) := by decide +kernel
theorem dX12_indexOfDivisor_41 : decode cX12_indexOfDivisor 41 = .ok (.bipush (-2), 2) := by decide +kernel
theorem dX12_indexOfDivisor_43 : decode cX12_indexOfDivisor 43 = .ok (.ireturn, 1) := by decide +kernel
theorem dX12_greatestExponent_0 : decode cX12_greatestExponent 0 = .ok (.iconst 0, 1) := by decide +kernel
theorem dX12_greatestExponent_1 : decode cX12_greatestExponent 1 = .ok (.istore_n 2, 1) := by decide +kernel
theorem dX12_greatestExponent_2 : decode cX12_greatestExponent 2 = .ok (.iconst 0, 1) := by decide +kernel
theorem dX12_greatestExponent_3 : decode cX12_greatestExponent 3 = .ok (.istore_n 3, 1) := by decide +kernel
theorem dX12_greatestExponent_4 : decode cX12_greatestExponent 4 = .ok (.iload_n 3, 1) := by decide +kernel
theorem dX12_greatestExponent_5 : decode cX12_greatestExponent 5 = .ok (.aload_n 0, 1) := by decide +kernel
theorem dX12_greatestExponent_6 : decode cX12_greatestExponent 6 = .ok (.getfield 251, 3) := by decide +kernel
theorem dX12_greatestExponent_9 : decode cX12_greatestExponent 9 = .ok (.if_icmp .ge 38, 3) := by decide +kernel
theorem dX12_greatestExponent_12 : decode cX12_greatestExponent 12 = .ok (.aload_n 0, 1) := by decide +kernel
theorem dX12_greatestExponent_13 : decode cX12_greatestExponent 13 = .ok (.getfield 50, 3) := by decide +kernel
theorem dX12_greatestExponent_16 : decode cX12_greatestExponent 16 = .ok (.iload_n 3, 1) := by decide +kernel
theorem dX12_greatestExponent_17 : decode cX12_greatestExponent 17 = .ok (.iaload, 1) := by decide +kernel
theorem dX12_greatestExponent_18 : decode cX12_greatestExponent 18 = .ok (.iload_n 1, 1) := by decide +kernel
theorem dX12_greatestExponent_19 : decode cX12_greatestExponent 19 = .ok (.invokestatic 128, 3) := by decide +kernel
theorem dX12_greatestExponent_22 : decode cX12_greatestExponent 22 = .ok (.iload_n 2, 1) := by decide +kernel
theorem dX12_greatestExponent_23 : decode cX12_greatestExponent 23 = .ok (.if_icmp .le 16, 3) := by decide +kernel
theorem dX12_greatestExponent_26 : decode cX12_greatestExponent 26 = .ok (.aload_n 0, 1) := by decide +kernel
theorem dX12_greatestExponent_27 : decode cX12_greatestExponent 27 = .ok (.getfield 50, 3) := by decide +kernel
theorem dX12_greatestExponent_30 : decode cX12_greatestExponent 30 = .ok (.iload_n 3, 1) := by decide +kernel
theorem dX12_greatestExponent_31 : decode cX12_greatestExponent 31 = .ok (.iaload, 1) := by decide +kernel
theorem dX12_greatestExponent_32 : decode cX12_greatestExponent 32 = .ok (.iload_n 1, 1) := by decide +kernel
theorem dX12_greatestExponent_33 : decode cX12_greatestExponent 33 = .ok (.invokestatic 128, 3) := by decide +kernel
theorem dX12_greatestExponent_36 : decode cX12_greatestExponent 36 = .ok (.goto 4, 3) := by decide +kernel
theorem dX12_greatestExponent_39 : decode cX12_greatestExponent 39 = .ok (.iload_n 2, 1) := by decide +kernel
theorem dX12_greatestExponent_40 : decode cX12_greatestExponent 40 = .ok (.istore_n 2, 1) := by decide +kernel
theorem dX12_greatestExponent_41 : decode cX12_greatestExponent 41 = .ok (.iinc 3 1, 3) := by decide +kernel
theorem dX12_greatestExponent_44 : decode cX12_greatestExponent 44 = .ok (.goto (-40), 3) := by decide +kernel
theorem dX12_greatestExponent_47 : decode cX12_greatestExponent 47 = .ok (.iload_n 2, 1) := by decide +kernel
theorem dX12_greatestExponent_48 : decode cX12_greatestExponent 48 = .ok (.ireturn, 1) := by decide +kernel
theorem dX12_polarizedVariableCount_0 : decode cX12_polarizedVariableCount 0 = .ok (.iconst 0, 1) := by decide +kernel
theorem dX12_polarizedVariableCount_1 : decode cX12_polarizedVariableCount 1 = .ok (.istore_n 1, 1) := by decide +kernel
theorem dX12_polarizedVariableCount_2 : decode cX12_polarizedVariableCount 2 = .ok (.iconst 0, 1) := by decide +kernel
theorem dX12_polarizedVariableCount_3 : decode cX12_polarizedVariableCount 3 = .ok (.istore_n 2, 1) := by decide +kernel
theorem dX12_polarizedVariableCount_4 : decode cX12_polarizedVariableCount 4 = .ok (.iload_n 2, 1) := by decide +kernel
theorem dX12_polarizedVariableCount_5 : decode cX12_polarizedVariableCount 5 = .ok (.bipush 7, 2) := by decide +kernel
theorem dX12_polarizedVariableCount_7 : decode cX12_polarizedVariableCount 7 = .ok (.if_icmp .ge 17, 3) := by decide +kernel
theorem dX12_polarizedVariableCount_10 : decode cX12_polarizedVariableCount 10 = .ok (.iload_n 1, 1) := by decide +kernel
theorem dX12_polarizedVariableCount_11 : decode cX12_polarizedVariableCount 11 = .ok (.aload_n 0, 1) := by decide +kernel
theorem dX12_polarizedVariableCount_12 : decode cX12_polarizedVariableCount 12 = .ok (.iload_n 2, 1) := by decide +kernel
theorem dX12_polarizedVariableCount_13 : decode cX12_polarizedVariableCount 13 = .ok (.invokevirtual 271, 3) := by decide +kernel
theorem dX12_polarizedVariableCount_16 : decode cX12_polarizedVariableCount 16 = .ok (.iadd, 1) := by decide +kernel
theorem dX12_polarizedVariableCount_17 : decode cX12_polarizedVariableCount 17 = .ok (.istore_n 1, 1) := by decide +kernel
theorem dX12_polarizedVariableCount_18 : decode cX12_polarizedVariableCount 18 = .ok (.iinc 2 1, 3) := by decide +kernel
theorem dX12_polarizedVariableCount_21 : decode cX12_polarizedVariableCount 21 = .ok (.goto (-17), 3) := by decide +kernel
theorem dX12_polarizedVariableCount_24 : decode cX12_polarizedVariableCount 24 = .ok (.iload_n 1, 1) := by decide +kernel
theorem dX12_polarizedVariableCount_25 : decode cX12_polarizedVariableCount 25 = .ok (.ireturn, 1) := by decide +kernel
theorem dX12_polarized_0 : decode cX12_polarized 0 = .ok (.iload_n 1, 1) := by decide +kernel
theorem dX12_polarized_1 : decode cX12_polarized 1 = .ok (.ifCond .ge 5, 3) := by decide +kernel
theorem dX12_polarized_4 : decode cX12_polarized 4 = .ok (.iconst (-1), 1) := by decide +kernel
theorem dX12_polarized_5 : decode cX12_polarized 5 = .ok (.ireturn, 1) := by decide +kernel
theorem dX12_polarized_6 : decode cX12_polarized 6 = .ok (.iload_n 1, 1) := by decide +kernel
theorem dX12_polarized_7 : decode cX12_polarized 7 = .ok (.aload_n 0, 1) := by decide +kernel
theorem dX12_polarized_8 : decode cX12_polarized 8 = .ok (.getfield 251, 3) := by decide +kernel
theorem dX12_polarized_11 : decode cX12_polarized 11 = .ok (.if_icmp .lt 6, 3) := by decide +kernel
theorem dX12_polarized_14 : decode cX12_polarized 14 = .ok (.bipush (-2), 2) := by decide +kernel
theorem dX12_polarized_16 : decode cX12_polarized 16 = .ok (.ireturn, 1) := by decide +kernel
theorem dX12_polarized_17 : decode cX12_polarized 17 = .ok (.iconst 0, 1) := by decide +kernel
theorem dX12_polarized_18 : decode cX12_polarized 18 = .ok (.istore_n 2, 1) := by decide +kernel
theorem dX12_polarized_19 : decode cX12_polarized 19 = .ok (.iconst 0, 1) := by decide +kernel
theorem dX12_polarized_20 : decode cX12_polarized 20 = .ok (.istore_n 3, 1) := by decide +kernel
theorem dX12_polarized_21 : decode cX12_polarized 21 = .ok (.iconst 0, 1) := by decide +kernel
theorem dX12_polarized_22 : decode cX12_polarized 22 = .ok (.istore 4, 2) := by decide +kernel
theorem dX12_polarized_24 : decode cX12_polarized 24 = .ok (.iload 4, 2) := by decide +kernel
theorem dX12_polarized_26 : decode cX12_polarized 26 = .ok (.bipush 7, 2) := by decide +kernel
theorem dX12_polarized_28 : decode cX12_polarized 28 = .ok (.if_icmp .ge 38, 3) := by decide +kernel
theorem dX12_polarized_31 : decode cX12_polarized 31 = .ok (.iload_n 2, 1) := by decide +kernel
theorem dX12_polarized_32 : decode cX12_polarized 32 = .ok (.iconst 1, 1) := by decide +kernel
theorem dX12_polarized_33 : decode cX12_polarized 33 = .ok (.aload_n 0, 1) := by decide +kernel
theorem dX12_polarized_34 : decode cX12_polarized 34 = .ok (.getfield 50, 3) := by decide +kernel
theorem dX12_polarized_37 : decode cX12_polarized 37 = .ok (.iload_n 1, 1) := by decide +kernel
theorem dX12_polarized_38 : decode cX12_polarized 38 = .ok (.iaload, 1) := by decide +kernel
theorem dX12_polarized_39 : decode cX12_polarized 39 = .ok (.iload 4, 2) := by decide +kernel
theorem dX12_polarized_41 : decode cX12_polarized 41 = .ok (.invokestatic 128, 3) := by decide +kernel
theorem dX12_polarized_44 : decode cX12_polarized 44 = .ok (.ishl, 1) := by decide +kernel
theorem dX12_polarized_45 : decode cX12_polarized 45 = .ok (.iconst 1, 1) := by decide +kernel
theorem dX12_polarized_46 : decode cX12_polarized 46 = .ok (.isub, 1) := by decide +kernel
theorem dX12_polarized_47 : decode cX12_polarized 47 = .ok (.iload_n 3, 1) := by decide +kernel
theorem dX12_polarized_48 : decode cX12_polarized 48 = .ok (.ishl, 1) := by decide +kernel
theorem dX12_polarized_49 : decode cX12_polarized 49 = .ok (.ior, 1) := by decide +kernel
theorem dX12_polarized_50 : decode cX12_polarized 50 = .ok (.istore_n 2, 1) := by decide +kernel
theorem dX12_polarized_51 : decode cX12_polarized 51 = .ok (.iload_n 3, 1) := by decide +kernel
theorem dX12_polarized_52 : decode cX12_polarized 52 = .ok (.aload_n 0, 1) := by decide +kernel
theorem dX12_polarized_53 : decode cX12_polarized 53 = .ok (.iload 4, 2) := by decide +kernel
theorem dX12_polarized_55 : decode cX12_polarized 55 = .ok (.invokevirtual 271, 3) := by decide +kernel
theorem dX12_polarized_58 : decode cX12_polarized 58 = .ok (.iadd, 1) := by decide +kernel
theorem dX12_polarized_59 : decode cX12_polarized 59 = .ok (.istore_n 3, 1) := by decide +kernel
theorem dX12_polarized_60 : decode cX12_polarized 60 = .ok (.iinc 4 1, 3) := by decide +kernel
theorem dX12_polarized_63 : decode cX12_polarized 63 = .ok (.goto (-39), 3) := by decide +kernel
theorem dX12_polarized_66 : decode cX12_polarized 66 = .ok (.iload_n 2, 1) := by decide +kernel
theorem dX12_polarized_67 : decode cX12_polarized 67 = .ok (.ireturn, 1) := by decide +kernel
theorem dX12_support_0 : decode cX12_support 0 = .ok (.iconst 0, 1) := by decide +kernel
theorem dX12_support_1 : decode cX12_support 1 = .ok (.istore_n 1, 1) := by decide +kernel
theorem dX12_support_2 : decode cX12_support 2 = .ok (.iconst 0, 1) := by decide +kernel
theorem dX12_support_3 : decode cX12_support 3 = .ok (.istore_n 2, 1) := by decide +kernel
theorem dX12_support_4 : decode cX12_support 4 = .ok (.iload_n 2, 1) := by decide +kernel
theorem dX12_support_5 : decode cX12_support 5 = .ok (.bipush 7, 2) := by decide +kernel
theorem dX12_support_7 : decode cX12_support 7 = .ok (.if_icmp .ge 27, 3) := by decide +kernel
theorem dX12_support_10 : decode cX12_support 10 = .ok (.iload_n 1, 1) := by decide +kernel
theorem dX12_support_11 : decode cX12_support 11 = .ok (.iload_n 0, 1) := by decide +kernel
theorem dX12_support_12 : decode cX12_support 12 = .ok (.iload_n 2, 1) := by decide +kernel
theorem dX12_support_13 : decode cX12_support 13 = .ok (.invokestatic 128, 3) := by decide +kernel
theorem dX12_support_16 : decode cX12_support 16 = .ok (.ifCond .le 9, 3) := by decide +kernel
theorem dX12_support_19 : decode cX12_support 19 = .ok (.iconst 1, 1) := by decide +kernel
theorem dX12_support_20 : decode cX12_support 20 = .ok (.iload_n 2, 1) := by decide +kernel
theorem dX12_support_21 : decode cX12_support 21 = .ok (.ishl, 1) := by decide +kernel
theorem dX12_support_22 : decode cX12_support 22 = .ok (.goto 4, 3) := by decide +kernel
theorem dX12_support_25 : decode cX12_support 25 = .ok (.iconst 0, 1) := by decide +kernel
theorem dX12_support_26 : decode cX12_support 26 = .ok (.ior, 1) := by decide +kernel
theorem dX12_support_27 : decode cX12_support 27 = .ok (.istore_n 1, 1) := by decide +kernel
theorem dX12_support_28 : decode cX12_support 28 = .ok (.iinc 2 1, 3) := by decide +kernel
theorem dX12_support_31 : decode cX12_support 31 = .ok (.goto (-27), 3) := by decide +kernel
theorem dX12_support_34 : decode cX12_support 34 = .ok (.iload_n 1, 1) := by decide +kernel
theorem dX12_support_35 : decode cX12_support 35 = .ok (.ireturn, 1) := by decide +kernel
theorem dX12_hittingNumber_0 : decode cX12_hittingNumber 0 = .ok (.bipush (-2), 2) := by decide +kernel
theorem dX12_hittingNumber_2 : decode cX12_hittingNumber 2 = .ok (.istore_n 1, 1) := by decide +kernel
theorem dX12_hittingNumber_3 : decode cX12_hittingNumber 3 = .ok (.iconst 0, 1) := by decide +kernel
theorem dX12_hittingNumber_4 : decode cX12_hittingNumber 4 = .ok (.istore_n 2, 1) := by decide +kernel
theorem dX12_hittingNumber_5 : decode cX12_hittingNumber 5 = .ok (.iload_n 2, 1) := by decide +kernel
theorem dX12_hittingNumber_6 : decode cX12_hittingNumber 6 = .ok (.sipush 128, 3) := by decide +kernel
theorem dX12_hittingNumber_9 : decode cX12_hittingNumber 9 = .ok (.if_icmp .ge 81, 3) := by decide +kernel
theorem dX12_hittingNumber_12 : decode cX12_hittingNumber 12 = .ok (.iconst 1, 1) := by decide +kernel
theorem dX12_hittingNumber_13 : decode cX12_hittingNumber 13 = .ok (.istore_n 3, 1) := by decide +kernel
theorem dX12_hittingNumber_14 : decode cX12_hittingNumber 14 = .ok (.iconst 0, 1) := by decide +kernel
theorem dX12_hittingNumber_15 : decode cX12_hittingNumber 15 = .ok (.istore 4, 2) := by decide +kernel
theorem dX12_hittingNumber_17 : decode cX12_hittingNumber 17 = .ok (.iload 4, 2) := by decide +kernel
theorem dX12_hittingNumber_19 : decode cX12_hittingNumber 19 = .ok (.aload_n 0, 1) := by decide +kernel
theorem dX12_hittingNumber_20 : decode cX12_hittingNumber 20 = .ok (.getfield 251, 3) := by decide +kernel
theorem dX12_hittingNumber_23 : decode cX12_hittingNumber 23 = .ok (.if_icmp .ge 34, 3) := by decide +kernel
theorem dX12_hittingNumber_26 : decode cX12_hittingNumber 26 = .ok (.iload_n 3, 1) := by decide +kernel
theorem dX12_hittingNumber_27 : decode cX12_hittingNumber 27 = .ok (.ifCond .eq 30, 3) := by decide +kernel
theorem dX12_hittingNumber_30 : decode cX12_hittingNumber 30 = .ok (.aload_n 0, 1) := by decide +kernel
theorem dX12_hittingNumber_31 : decode cX12_hittingNumber 31 = .ok (.getfield 50, 3) := by decide +kernel
theorem dX12_hittingNumber_34 : decode cX12_hittingNumber 34 = .ok (.iload 4, 2) := by decide +kernel
theorem dX12_hittingNumber_36 : decode cX12_hittingNumber 36 = .ok (.iaload, 1) := by decide +kernel
theorem dX12_hittingNumber_37 : decode cX12_hittingNumber 37 = .ok (.invokestatic 274, 3) := by decide +kernel
theorem dX12_hittingNumber_40 : decode cX12_hittingNumber 40 = .ok (.iload_n 2, 1) := by decide +kernel
theorem dX12_hittingNumber_41 : decode cX12_hittingNumber 41 = .ok (.iand, 1) := by decide +kernel
theorem dX12_hittingNumber_42 : decode cX12_hittingNumber 42 = .ok (.ifCond .eq 7, 3) := by decide +kernel
theorem dX12_hittingNumber_45 : decode cX12_hittingNumber 45 = .ok (.iconst 1, 1) := by decide +kernel
theorem dX12_hittingNumber_46 : decode cX12_hittingNumber 46 = .ok (.goto 4, 3) := by decide +kernel
theorem dX12_hittingNumber_49 : decode cX12_hittingNumber 49 = .ok (.iconst 0, 1) := by decide +kernel
theorem dX12_hittingNumber_50 : decode cX12_hittingNumber 50 = .ok (.istore_n 3, 1) := by decide +kernel
theorem dX12_hittingNumber_51 : decode cX12_hittingNumber 51 = .ok (.iinc 4 1, 3) := by decide +kernel
theorem dX12_hittingNumber_54 : decode cX12_hittingNumber 54 = .ok (.goto (-37), 3) := by decide +kernel
theorem dX12_hittingNumber_57 : decode cX12_hittingNumber 57 = .ok (.iload_n 3, 1) := by decide +kernel
theorem dX12_hittingNumber_58 : decode cX12_hittingNumber 58 = .ok (.ifCond .eq 24, 3) := by decide +kernel
theorem dX12_hittingNumber_61 : decode cX12_hittingNumber 61 = .ok (.iload_n 1, 1) := by decide +kernel
theorem dX12_hittingNumber_62 : decode cX12_hittingNumber 62 = .ok (.bipush (-2), 2) := by decide +kernel
theorem dX12_hittingNumber_64 : decode cX12_hittingNumber 64 = .ok (.if_icmp .eq 11, 3) := by decide +kernel
theorem dX12_hittingNumber_67 : decode cX12_hittingNumber 67 = .ok (.iload_n 2, 1) := by decide +kernel
theorem dX12_hittingNumber_68 : decode cX12_hittingNumber 68 = .ok (.invokestatic 109, 3) := by decide +kernel
theorem dX12_hittingNumber_71 : decode cX12_hittingNumber 71 = .ok (.iload_n 1, 1) := by decide +kernel
theorem dX12_hittingNumber_72 : decode cX12_hittingNumber 72 = .ok (.if_icmp .ge 10, 3) := by decide +kernel
theorem dX12_hittingNumber_75 : decode cX12_hittingNumber 75 = .ok (.iload_n 2, 1) := by decide +kernel
theorem dX12_hittingNumber_76 : decode cX12_hittingNumber 76 = .ok (.invokestatic 109, 3) := by decide +kernel
theorem dX12_hittingNumber_79 : decode cX12_hittingNumber 79 = .ok (.goto 4, 3) := by decide +kernel
theorem dX12_hittingNumber_82 : decode cX12_hittingNumber 82 = .ok (.iload_n 1, 1) := by decide +kernel
theorem dX12_hittingNumber_83 : decode cX12_hittingNumber 83 = .ok (.istore_n 1, 1) := by decide +kernel
theorem dX12_hittingNumber_84 : decode cX12_hittingNumber 84 = .ok (.iinc 2 1, 3) := by decide +kernel
theorem dX12_hittingNumber_87 : decode cX12_hittingNumber 87 = .ok (.goto (-82), 3) := by decide +kernel
theorem dX12_hittingNumber_90 : decode cX12_hittingNumber 90 = .ok (.iload_n 1, 1) := by decide +kernel
theorem dX12_hittingNumber_91 : decode cX12_hittingNumber 91 = .ok (.ireturn, 1) := by decide +kernel
theorem dX12_feed_0 : decode cX12_feed 0 = .ok (.iload_n 1, 1) := by decide +kernel
theorem dX12_feed_1 : decode cX12_feed 1 = .ok (.i2l, 1) := by decide +kernel
theorem dX12_feed_2 : decode cX12_feed 2 = .ok (.lconst 0, 1) := by decide +kernel
theorem dX12_feed_3 : decode cX12_feed 3 = .ok (.ldc2_w 277, 3) := by decide +kernel
theorem dX12_feed_6 : decode cX12_feed 6 = .ok (.invokestatic 79, 3) := by decide +kernel
theorem dX12_feed_9 : decode cX12_feed 9 = .ok (.ifCond .ne 5, 3) := by decide +kernel
theorem dX12_feed_12 : decode cX12_feed 12 = .ok (.iconst (-1), 1) := by decide +kernel
theorem dX12_feed_13 : decode cX12_feed 13 = .ok (.ireturn, 1) := by decide +kernel
theorem dX12_feed_14 : decode cX12_feed 14 = .ok (.aload_n 0, 1) := by decide +kernel
theorem dX12_feed_15 : decode cX12_feed 15 = .ok (.getfield 279, 3) := by decide +kernel
theorem dX12_feed_18 : decode cX12_feed 18 = .ok (.bipush 60, 2) := by decide +kernel
theorem dX12_feed_20 : decode cX12_feed 20 = .ok (.if_icmp .ne 6, 3) := by decide +kernel
theorem dX12_feed_23 : decode cX12_feed 23 = .ok (.bipush (-3), 2) := by decide +kernel
theorem dX12_feed_25 : decode cX12_feed 25 = .ok (.ireturn, 1) := by decide +kernel
theorem dX12_feed_26 : decode cX12_feed 26 = .ok (.aload_n 0, 1) := by decide +kernel
theorem dX12_feed_27 : decode cX12_feed 27 = .ok (.getfield 56, 3) := by decide +kernel
theorem dX12_feed_30 : decode cX12_feed 30 = .ok (.aload_n 0, 1) := by decide +kernel
theorem dX12_feed_31 : decode cX12_feed 31 = .ok (.getfield 279, 3) := by decide +kernel
theorem dX12_feed_34 : decode cX12_feed 34 = .ok (.iload_n 1, 1) := by decide +kernel
theorem dX12_feed_35 : decode cX12_feed 35 = .ok (.iastore, 1) := by decide +kernel
theorem dX12_feed_36 : decode cX12_feed 36 = .ok (.aload_n 0, 1) := by decide +kernel
theorem dX12_feed_37 : decode cX12_feed 37 = .ok (.dup, 1) := by decide +kernel
theorem dX12_feed_38 : decode cX12_feed 38 = .ok (.getfield 279, 3) := by decide +kernel
theorem dX12_feed_41 : decode cX12_feed 41 = .ok (.iconst 1, 1) := by decide +kernel
theorem dX12_feed_42 : decode cX12_feed 42 = .ok (.iadd, 1) := by decide +kernel
theorem dX12_feed_43 : decode cX12_feed 43 = .ok (.putfield 279, 3) := by decide +kernel
theorem dX12_feed_46 : decode cX12_feed 46 = .ok (.aload_n 0, 1) := by decide +kernel
theorem dX12_feed_47 : decode cX12_feed 47 = .ok (.getfield 279, 3) := by decide +kernel
theorem dX12_feed_50 : decode cX12_feed 50 = .ok (.ireturn, 1) := by decide +kernel
theorem dX12_discardInput_0 : decode cX12_discardInput 0 = .ok (.aload_n 0, 1) := by decide +kernel
theorem dX12_discardInput_1 : decode cX12_discardInput 1 = .ok (.getfield 279, 3) := by decide +kernel
theorem dX12_discardInput_4 : decode cX12_discardInput 4 = .ok (.istore_n 1, 1) := by decide +kernel
theorem dX12_discardInput_5 : decode cX12_discardInput 5 = .ok (.aload_n 0, 1) := by decide +kernel
theorem dX12_discardInput_6 : decode cX12_discardInput 6 = .ok (.iconst 0, 1) := by decide +kernel
theorem dX12_discardInput_7 : decode cX12_discardInput 7 = .ok (.putfield 279, 3) := by decide +kernel
theorem dX12_discardInput_10 : decode cX12_discardInput 10 = .ok (.iload_n 1, 1) := by decide +kernel
theorem dX12_discardInput_11 : decode cX12_discardInput 11 = .ok (.ireturn, 1) := by decide +kernel
theorem dX12_current_0 : decode cX12_current 0 = .ok (.aload_n 0, 1) := by decide +kernel
theorem dX12_current_1 : decode cX12_current 1 = .ok (.getfield 282, 3) := by decide +kernel
theorem dX12_current_4 : decode cX12_current 4 = .ok (.aload_n 0, 1) := by decide +kernel
theorem dX12_current_5 : decode cX12_current 5 = .ok (.getfield 279, 3) := by decide +kernel
theorem dX12_current_8 : decode cX12_current 8 = .ok (.if_icmp .ge 15, 3) := by decide +kernel
theorem dX12_current_11 : decode cX12_current 11 = .ok (.aload_n 0, 1) := by decide +kernel
theorem dX12_current_12 : decode cX12_current 12 = .ok (.getfield 56, 3) := by decide +kernel
theorem dX12_current_15 : decode cX12_current 15 = .ok (.aload_n 0, 1) := by decide +kernel
theorem dX12_current_16 : decode cX12_current 16 = .ok (.getfield 282, 3) := by decide +kernel
theorem dX12_current_19 : decode cX12_current 19 = .ok (.iaload, 1) := by decide +kernel
theorem dX12_current_20 : decode cX12_current 20 = .ok (.goto 4, 3) := by decide +kernel
theorem dX12_current_23 : decode cX12_current 23 = .ok (.iconst (-1), 1) := by decide +kernel
theorem dX12_current_24 : decode cX12_current 24 = .ok (.ireturn, 1) := by decide +kernel
theorem dX12_readMonomial_0 : decode cX12_readMonomial 0 = .ok (.aload_n 0, 1) := by decide +kernel
theorem dX12_readMonomial_1 : decode cX12_readMonomial 1 = .ok (.invokevirtual 285, 3) := by decide +kernel
theorem dX12_readMonomial_4 : decode cX12_readMonomial 4 = .ok (.bipush 49, 2) := by decide +kernel
theorem dX12_readMonomial_6 : decode cX12_readMonomial 6 = .ok (.if_icmp .ne 15, 3) := by decide +kernel
theorem dX12_readMonomial_9 : decode cX12_readMonomial 9 = .ok (.aload_n 0, 1) := by decide +kernel
theorem dX12_readMonomial_10 : decode cX12_readMonomial 10 = .ok (.dup, 1) := by decide +kernel
theorem dX12_readMonomial_11 : decode cX12_readMonomial 11 = .ok (.getfield 282, 3) := by decide +kernel
theorem dX12_readMonomial_14 : decode cX12_readMonomial 14 = .ok (.iconst 1, 1) := by decide +kernel
theorem dX12_readMonomial_15 : decode cX12_readMonomial 15 = .ok (.iadd, 1) := by decide +kernel
theorem dX12_readMonomial_16 : decode cX12_readMonomial 16 = .ok (.putfield 282, 3) := by decide +kernel
theorem dX12_readMonomial_19 : decode cX12_readMonomial 19 = .ok (.iconst 0, 1) := by decide +kernel
theorem dX12_readMonomial_20 : decode cX12_readMonomial 20 = .ok (.ireturn, 1) := by decide +kernel
theorem dX12_readMonomial_21 : decode cX12_readMonomial 21 = .ok (.iconst 0, 1) := by decide +kernel
theorem dX12_readMonomial_22 : decode cX12_readMonomial 22 = .ok (.istore_n 1, 1) := by decide +kernel
theorem dX12_readMonomial_23 : decode cX12_readMonomial 23 = .ok (.bipush 97, 2) := by decide +kernel
theorem dX12_readMonomial_25 : decode cX12_readMonomial 25 = .ok (.istore_n 2, 1) := by decide +kernel
theorem dX12_readMonomial_26 : decode cX12_readMonomial 26 = .ok (.aload_n 0, 1) := by decide +kernel
theorem dX12_readMonomial_27 : decode cX12_readMonomial 27 = .ok (.invokevirtual 285, 3) := by decide +kernel
theorem dX12_readMonomial_30 : decode cX12_readMonomial 30 = .ok (.i2l, 1) := by decide +kernel
theorem dX12_readMonomial_31 : decode cX12_readMonomial 31 = .ok (.iload_n 2, 1) := by decide +kernel
theorem dX12_readMonomial_32 : decode cX12_readMonomial 32 = .ok (.i2l, 1) := by decide +kernel
theorem dX12_readMonomial_33 : decode cX12_readMonomial 33 = .ok (.ldc2_w 288, 3) := by decide +kernel
theorem dX12_readMonomial_36 : decode cX12_readMonomial 36 = .ok (.invokestatic 79, 3) := by decide +kernel
theorem dX12_readMonomial_39 : decode cX12_readMonomial 39 = .ok (.ifCond .eq 80, 3) := by decide +kernel
theorem dX12_readMonomial_42 : decode cX12_readMonomial 42 = .ok (.aload_n 0, 1) := by decide +kernel
theorem dX12_readMonomial_43 : decode cX12_readMonomial 43 = .ok (.invokevirtual 285, 3) := by decide +kernel
theorem dX12_readMonomial_46 : decode cX12_readMonomial 46 = .ok (.bipush 97, 2) := by decide +kernel
theorem dX12_readMonomial_48 : decode cX12_readMonomial 48 = .ok (.isub, 1) := by decide +kernel
theorem dX12_readMonomial_49 : decode cX12_readMonomial 49 = .ok (.istore_n 3, 1) := by decide +kernel
theorem dX12_readMonomial_50 : decode cX12_readMonomial 50 = .ok (.aload_n 0, 1) := by decide +kernel
theorem dX12_readMonomial_51 : decode cX12_readMonomial 51 = .ok (.invokevirtual 285, 3) := by decide +kernel
theorem dX12_readMonomial_54 : decode cX12_readMonomial 54 = .ok (.iconst 1, 1) := by decide +kernel
theorem dX12_readMonomial_55 : decode cX12_readMonomial 55 = .ok (.iadd, 1) := by decide +kernel
theorem dX12_readMonomial_56 : decode cX12_readMonomial 56 = .ok (.istore_n 2, 1) := by decide +kernel
theorem dX12_readMonomial_57 : decode cX12_readMonomial 57 = .ok (.aload_n 0, 1) := by decide +kernel
theorem dX12_readMonomial_58 : decode cX12_readMonomial 58 = .ok (.dup, 1) := by decide +kernel
theorem dX12_readMonomial_59 : decode cX12_readMonomial 59 = .ok (.getfield 282, 3) := by decide +kernel
theorem dX12_readMonomial_62 : decode cX12_readMonomial 62 = .ok (.iconst 1, 1) := by decide +kernel
theorem dX12_readMonomial_63 : decode cX12_readMonomial 63 = .ok (.iadd, 1) := by decide +kernel
theorem dX12_readMonomial_64 : decode cX12_readMonomial 64 = .ok (.putfield 282, 3) := by decide +kernel
theorem dX12_readMonomial_67 : decode cX12_readMonomial 67 = .ok (.iconst 1, 1) := by decide +kernel
theorem dX12_readMonomial_68 : decode cX12_readMonomial 68 = .ok (.istore 4, 2) := by decide +kernel
theorem dX12_readMonomial_70 : decode cX12_readMonomial 70 = .ok (.aload_n 0, 1) := by decide +kernel
theorem dX12_readMonomial_71 : decode cX12_readMonomial 71 = .ok (.invokevirtual 285, 3) := by decide +kernel
theorem dX12_readMonomial_74 : decode cX12_readMonomial 74 = .ok (.bipush 50, 2) := by decide +kernel
theorem dX12_readMonomial_76 : decode cX12_readMonomial 76 = .ok (.if_icmp .eq 12, 3) := by decide +kernel
theorem dX12_readMonomial_79 : decode cX12_readMonomial 79 = .ok (.aload_n 0, 1) := by decide +kernel
theorem dX12_readMonomial_80 : decode cX12_readMonomial 80 = .ok (.invokevirtual 285, 3) := by decide +kernel
theorem dX12_readMonomial_83 : decode cX12_readMonomial 83 = .ok (.bipush 51, 2) := by decide +kernel
theorem dX12_readMonomial_85 : decode cX12_readMonomial 85 = .ok (.if_icmp .ne 22, 3) := by decide +kernel
theorem dX12_readMonomial_88 : decode cX12_readMonomial 88 = .ok (.aload_n 0, 1) := by decide +kernel
theorem dX12_readMonomial_89 : decode cX12_readMonomial 89 = .ok (.invokevirtual 285, 3) := by decide +kernel
theorem dX12_readMonomial_92 : decode cX12_readMonomial 92 = .ok (.bipush 48, 2) := by decide +kernel
theorem dX12_readMonomial_94 : decode cX12_readMonomial 94 = .ok (.isub, 1) := by decide +kernel
theorem dX12_readMonomial_95 : decode cX12_readMonomial 95 = .ok (.istore 4, 2) := by decide +kernel
theorem dX12_readMonomial_97 : decode cX12_readMonomial 97 = .ok (.aload_n 0, 1) := by decide +kernel
theorem dX12_readMonomial_98 : decode cX12_readMonomial 98 = .ok (.dup, 1) := by decide +kernel
theorem dX12_readMonomial_99 : decode cX12_readMonomial 99 = .ok (.getfield 282, 3) := by decide +kernel
theorem dX12_readMonomial_102 : decode cX12_readMonomial 102 = .ok (.iconst 1, 1) := by decide +kernel
theorem dX12_readMonomial_103 : decode cX12_readMonomial 103 = .ok (.iadd, 1) := by decide +kernel
theorem dX12_readMonomial_104 : decode cX12_readMonomial 104 = .ok (.putfield 282, 3) := by decide +kernel
theorem dX12_readMonomial_107 : decode cX12_readMonomial 107 = .ok (.iload_n 1, 1) := by decide +kernel
theorem dX12_readMonomial_108 : decode cX12_readMonomial 108 = .ok (.iload 4, 2) := by decide +kernel
theorem dX12_readMonomial_110 : decode cX12_readMonomial 110 = .ok (.iconst 2, 1) := by decide +kernel
theorem dX12_readMonomial_111 : decode cX12_readMonomial 111 = .ok (.iload_n 3, 1) := by decide +kernel
theorem dX12_readMonomial_112 : decode cX12_readMonomial 112 = .ok (.imul, 1) := by decide +kernel
theorem dX12_readMonomial_113 : decode cX12_readMonomial 113 = .ok (.ishl, 1) := by decide +kernel
theorem dX12_readMonomial_114 : decode cX12_readMonomial 114 = .ok (.ior, 1) := by decide +kernel
theorem dX12_readMonomial_115 : decode cX12_readMonomial 115 = .ok (.istore_n 1, 1) := by decide +kernel
theorem dX12_readMonomial_116 : decode cX12_readMonomial 116 = .ok (.goto (-90), 3) := by decide +kernel
theorem dX12_readMonomial_119 : decode cX12_readMonomial 119 = .ok (.iload_n 2, 1) := by decide +kernel
theorem dX12_readMonomial_120 : decode cX12_readMonomial 120 = .ok (.bipush 97, 2) := by decide +kernel
theorem dX12_readMonomial_122 : decode cX12_readMonomial 122 = .ok (.if_icmp .ne 8, 3) := by decide +kernel
theorem dX12_readMonomial_125 : decode cX12_readMonomial 125 = .ok (.bipush (-2), 2) := by decide +kernel
theorem dX12_readMonomial_127 : decode cX12_readMonomial 127 = .ok (.goto 4, 3) := by decide +kernel
theorem dX12_readMonomial_130 : decode cX12_readMonomial 130 = .ok (.iload_n 1, 1) := by decide +kernel
theorem dX12_readMonomial_131 : decode cX12_readMonomial 131 = .ok (.ireturn, 1) := by decide +kernel
theorem dX12_parse_0 : decode cX12_parse 0 = .ok (.aload_n 0, 1) := by decide +kernel
theorem dX12_parse_1 : decode cX12_parse 1 = .ok (.iconst 0, 1) := by decide +kernel
theorem dX12_parse_2 : decode cX12_parse 2 = .ok (.putfield 282, 3) := by decide +kernel
theorem dX12_parse_5 : decode cX12_parse 5 = .ok (.iconst 0, 1) := by decide +kernel
theorem dX12_parse_6 : decode cX12_parse 6 = .ok (.istore_n 1, 1) := by decide +kernel
theorem dX12_parse_7 : decode cX12_parse 7 = .ok (.iconst 1, 1) := by decide +kernel
theorem dX12_parse_8 : decode cX12_parse 8 = .ok (.istore_n 2, 1) := by decide +kernel
theorem dX12_parse_9 : decode cX12_parse 9 = .ok (.iload_n 2, 1) := by decide +kernel
theorem dX12_parse_10 : decode cX12_parse 10 = .ok (.ifCond .eq 104, 3) := by decide +kernel
theorem dX12_parse_13 : decode cX12_parse 13 = .ok (.iload_n 1, 1) := by decide +kernel
theorem dX12_parse_14 : decode cX12_parse 14 = .ok (.ifCond .eq 14, 3) := by decide +kernel
theorem dX12_parse_17 : decode cX12_parse 17 = .ok (.aload_n 0, 1) := by decide +kernel
theorem dX12_parse_18 : decode cX12_parse 18 = .ok (.getfield 282, 3) := by decide +kernel
theorem dX12_parse_21 : decode cX12_parse 21 = .ok (.aload_n 0, 1) := by decide +kernel
theorem dX12_parse_22 : decode cX12_parse 22 = .ok (.getfield 279, 3) := by decide +kernel
theorem dX12_parse_25 : decode cX12_parse 25 = .ok (.if_icmp .ge 89, 3) := by decide +kernel
theorem dX12_parse_28 : decode cX12_parse 28 = .ok (.iload_n 1, 1) := by decide +kernel
theorem dX12_parse_29 : decode cX12_parse 29 = .ok (.ifCond .le 42, 3) := by decide +kernel
theorem dX12_parse_32 : decode cX12_parse 32 = .ok (.iload_n 1, 1) := by decide +kernel
theorem dX12_parse_33 : decode cX12_parse 33 = .ok (.bipush 24, 2) := by decide +kernel
theorem dX12_parse_35 : decode cX12_parse 35 = .ok (.if_icmp .ge 16, 3) := by decide +kernel
theorem dX12_parse_38 : decode cX12_parse 38 = .ok (.aload_n 0, 1) := by decide +kernel
theorem dX12_parse_39 : decode cX12_parse 39 = .ok (.invokevirtual 285, 3) := by decide +kernel
theorem dX12_parse_42 : decode cX12_parse 42 = .ok (.bipush 44, 2) := by decide +kernel
theorem dX12_parse_44 : decode cX12_parse 44 = .ok (.if_icmp .ne 7, 3) := by decide +kernel
theorem dX12_parse_47 : decode cX12_parse 47 = .ok (.iconst 1, 1) := by decide +kernel
theorem dX12_parse_48 : decode cX12_parse 48 = .ok (.goto 4, 3) := by decide +kernel
theorem dX12_parse_51 : decode cX12_parse 51 = .ok (.iconst 0, 1) := by decide +kernel
theorem dX12_parse_52 : decode cX12_parse 52 = .ok (.istore_n 2, 1) := by decide +kernel
theorem dX12_parse_53 : decode cX12_parse 53 = .ok (.aload_n 0, 1) := by decide +kernel
theorem dX12_parse_54 : decode cX12_parse 54 = .ok (.dup, 1) := by decide +kernel
theorem dX12_parse_55 : decode cX12_parse 55 = .ok (.getfield 282, 3) := by decide +kernel
theorem dX12_parse_58 : decode cX12_parse 58 = .ok (.iload_n 2, 1) := by decide +kernel
theorem dX12_parse_59 : decode cX12_parse 59 = .ok (.ifCond .eq 7, 3) := by decide +kernel
theorem dX12_parse_62 : decode cX12_parse 62 = .ok (.iconst 1, 1) := by decide +kernel
theorem dX12_parse_63 : decode cX12_parse 63 = .ok (.goto 4, 3) := by decide +kernel
theorem dX12_parse_66 : decode cX12_parse 66 = .ok (.iconst 0, 1) := by decide +kernel
theorem dX12_parse_67 : decode cX12_parse 67 = .ok (.iadd, 1) := by decide +kernel
theorem dX12_parse_68 : decode cX12_parse 68 = .ok (.putfield 282, 3) := by decide +kernel
theorem dX12_parse_71 : decode cX12_parse 71 = .ok (.iload_n 2, 1) := by decide +kernel
theorem dX12_parse_72 : decode cX12_parse 72 = .ok (.ifCond .eq 10, 3) := by decide +kernel
theorem dX12_parse_75 : decode cX12_parse 75 = .ok (.aload_n 0, 1) := by decide +kernel
theorem dX12_parse_76 : decode cX12_parse 76 = .ok (.invokevirtual 290, 3) := by decide +kernel
theorem dX12_parse_79 : decode cX12_parse 79 = .ok (.goto 5, 3) := by decide +kernel
theorem dX12_parse_82 : decode cX12_parse 82 = .ok (.bipush (-2), 2) := by decide +kernel
theorem dX12_parse_84 : decode cX12_parse 84 = .ok (.istore_n 3, 1) := by decide +kernel
theorem dX12_parse_85 : decode cX12_parse 85 = .ok (.iload_n 3, 1) := by decide +kernel
theorem dX12_parse_86 : decode cX12_parse 86 = .ok (.bipush (-2), 2) := by decide +kernel
theorem dX12_parse_88 : decode cX12_parse 88 = .ok (.if_icmp .eq 7, 3) := by decide +kernel
theorem dX12_parse_91 : decode cX12_parse 91 = .ok (.iconst 1, 1) := by decide +kernel
theorem dX12_parse_92 : decode cX12_parse 92 = .ok (.goto 4, 3) := by decide +kernel
theorem dX12_parse_95 : decode cX12_parse 95 = .ok (.iconst 0, 1) := by decide +kernel
theorem dX12_parse_96 : decode cX12_parse 96 = .ok (.istore_n 2, 1) := by decide +kernel
theorem dX12_parse_97 : decode cX12_parse 97 = .ok (.iload_n 2, 1) := by decide +kernel
theorem dX12_parse_98 : decode cX12_parse 98 = .ok (.ifCond .eq 13, 3) := by decide +kernel
theorem dX12_parse_101 : decode cX12_parse 101 = .ok (.aload_n 0, 1) := by decide +kernel
theorem dX12_parse_102 : decode cX12_parse 102 = .ok (.getfield 59, 3) := by decide +kernel
theorem dX12_parse_105 : decode cX12_parse 105 = .ok (.iload_n 1, 1) := by decide +kernel
theorem dX12_parse_106 : decode cX12_parse 106 = .ok (.iload_n 3, 1) := by decide +kernel
theorem dX12_parse_107 : decode cX12_parse 107 = .ok (.iastore, 1) := by decide +kernel
theorem dX12_parse_108 : decode cX12_parse 108 = .ok (.iinc 1 1, 3) := by decide +kernel
theorem dX12_parse_111 : decode cX12_parse 111 = .ok (.goto (-102), 3) := by decide +kernel
theorem dX12_parse_114 : decode cX12_parse 114 = .ok (.aload_n 0, 1) := by decide +kernel
theorem dX12_parse_115 : decode cX12_parse 115 = .ok (.iconst 0, 1) := by decide +kernel
theorem dX12_parse_116 : decode cX12_parse 116 = .ok (.putfield 279, 3) := by decide +kernel
theorem dX12_parse_119 : decode cX12_parse 119 = .ok (.iload_n 2, 1) := by decide +kernel
theorem dX12_parse_120 : decode cX12_parse 120 = .ok (.ifCond .ne 12, 3) := by decide +kernel
theorem dX12_parse_123 : decode cX12_parse 123 = .ok (.sipush (-1000), 3) := by decide +kernel
theorem dX12_parse_126 : decode cX12_parse 126 = .ok (.aload_n 0, 1) := by decide +kernel
theorem dX12_parse_127 : decode cX12_parse 127 = .ok (.getfield 282, 3) := by decide +kernel
theorem dX12_parse_130 : decode cX12_parse 130 = .ok (.isub, 1) := by decide +kernel
theorem dX12_parse_131 : decode cX12_parse 131 = .ok (.ireturn, 1) := by decide +kernel
theorem dX12_parse_132 : decode cX12_parse 132 = .ok (.aload_n 0, 1) := by decide +kernel
theorem dX12_parse_133 : decode cX12_parse 133 = .ok (.iload_n 1, 1) := by decide +kernel
theorem dX12_parse_134 : decode cX12_parse 134 = .ok (.putfield 251, 3) := by decide +kernel
theorem dX12_parse_137 : decode cX12_parse 137 = .ok (.iconst 0, 1) := by decide +kernel
theorem dX12_parse_138 : decode cX12_parse 138 = .ok (.istore_n 3, 1) := by decide +kernel
theorem dX12_parse_139 : decode cX12_parse 139 = .ok (.iload_n 3, 1) := by decide +kernel
theorem dX12_parse_140 : decode cX12_parse 140 = .ok (.aload_n 0, 1) := by decide +kernel
theorem dX12_parse_141 : decode cX12_parse 141 = .ok (.getfield 251, 3) := by decide +kernel
theorem dX12_parse_144 : decode cX12_parse 144 = .ok (.if_icmp .ge 21, 3) := by decide +kernel
theorem dX12_parse_147 : decode cX12_parse 147 = .ok (.aload_n 0, 1) := by decide +kernel
theorem dX12_parse_148 : decode cX12_parse 148 = .ok (.getfield 50, 3) := by decide +kernel
theorem dX12_parse_151 : decode cX12_parse 151 = .ok (.iload_n 3, 1) := by decide +kernel
theorem dX12_parse_152 : decode cX12_parse 152 = .ok (.aload_n 0, 1) := by decide +kernel
theorem dX12_parse_153 : decode cX12_parse 153 = .ok (.getfield 59, 3) := by decide +kernel
theorem dX12_parse_156 : decode cX12_parse 156 = .ok (.iload_n 3, 1) := by decide +kernel
theorem dX12_parse_157 : decode cX12_parse 157 = .ok (.iaload, 1) := by decide +kernel
theorem dX12_parse_158 : decode cX12_parse 158 = .ok (.iastore, 1) := by decide +kernel
theorem dX12_parse_159 : decode cX12_parse 159 = .ok (.iinc 3 1, 3) := by decide +kernel
theorem dX12_parse_162 : decode cX12_parse 162 = .ok (.goto (-23), 3) := by decide +kernel
theorem dX12_parse_165 : decode cX12_parse 165 = .ok (.aload_n 0, 1) := by decide +kernel
theorem dX12_parse_166 : decode cX12_parse 166 = .ok (.getfield 251, 3) := by decide +kernel
theorem dX12_parse_169 : decode cX12_parse 169 = .ok (.ireturn, 1) := by decide +kernel
theorem dX12_write_0 : decode cX12_write 0 = .ok (.aload_n 0, 1) := by decide +kernel
theorem dX12_write_1 : decode cX12_write 1 = .ok (.getfield 62, 3) := by decide +kernel
theorem dX12_write_4 : decode cX12_write 4 = .ok (.aload_n 0, 1) := by decide +kernel
theorem dX12_write_5 : decode cX12_write 5 = .ok (.getfield 293, 3) := by decide +kernel
theorem dX12_write_8 : decode cX12_write 8 = .ok (.iload_n 1, 1) := by decide +kernel
theorem dX12_write_9 : decode cX12_write 9 = .ok (.iastore, 1) := by decide +kernel
theorem dX12_write_10 : decode cX12_write 10 = .ok (.aload_n 0, 1) := by decide +kernel
theorem dX12_write_11 : decode cX12_write 11 = .ok (.dup, 1) := by decide +kernel
theorem dX12_write_12 : decode cX12_write 12 = .ok (.getfield 293, 3) := by decide +kernel
theorem dX12_write_15 : decode cX12_write 15 = .ok (.iconst 1, 1) := by decide +kernel
theorem dX12_write_16 : decode cX12_write 16 = .ok (.iadd, 1) := by decide +kernel
theorem dX12_write_17 : decode cX12_write 17 = .ok (.putfield 293, 3) := by decide +kernel
theorem dX12_write_20 : decode cX12_write 20 = .ok (.return_, 1) := by decide +kernel
theorem dX12_format_0 : decode cX12_format 0 = .ok (.aload_n 0, 1) := by decide +kernel
theorem dX12_format_1 : decode cX12_format 1 = .ok (.iconst 0, 1) := by decide +kernel
theorem dX12_format_2 : decode cX12_format 2 = .ok (.putfield 293, 3) := by decide +kernel
theorem dX12_format_5 : decode cX12_format 5 = .ok (.iconst 0, 1) := by decide +kernel
theorem dX12_format_6 : decode cX12_format 6 = .ok (.istore_n 1, 1) := by decide +kernel
theorem dX12_format_7 : decode cX12_format 7 = .ok (.iload_n 1, 1) := by decide +kernel
theorem dX12_format_8 : decode cX12_format 8 = .ok (.aload_n 0, 1) := by decide +kernel
theorem dX12_format_9 : decode cX12_format 9 = .ok (.getfield 251, 3) := by decide +kernel
theorem dX12_format_12 : decode cX12_format 12 = .ok (.if_icmp .ge 84, 3) := by decide +kernel
theorem dX12_format_15 : decode cX12_format 15 = .ok (.iload_n 1, 1) := by decide +kernel
theorem dX12_format_16 : decode cX12_format 16 = .ok (.ifCond .le 9, 3) := by decide +kernel
theorem dX12_format_19 : decode cX12_format 19 = .ok (.aload_n 0, 1) := by decide +kernel
theorem dX12_format_20 : decode cX12_format 20 = .ok (.bipush 44, 2) := by decide +kernel
theorem dX12_format_22 : decode cX12_format 22 = .ok (.invokevirtual 296, 3) := by decide +kernel
theorem dX12_format_25 : decode cX12_format 25 = .ok (.aload_n 0, 1) := by decide +kernel
theorem dX12_format_26 : decode cX12_format 26 = .ok (.getfield 50, 3) := by decide +kernel
theorem dX12_format_29 : decode cX12_format 29 = .ok (.iload_n 1, 1) := by decide +kernel
theorem dX12_format_30 : decode cX12_format 30 = .ok (.iaload, 1) := by decide +kernel
theorem dX12_format_31 : decode cX12_format 31 = .ok (.ifCond .ne 9, 3) := by decide +kernel
theorem dX12_format_34 : decode cX12_format 34 = .ok (.aload_n 0, 1) := by decide +kernel
theorem dX12_format_35 : decode cX12_format 35 = .ok (.bipush 49, 2) := by decide +kernel
theorem dX12_format_37 : decode cX12_format 37 = .ok (.invokevirtual 296, 3) := by decide +kernel
theorem dX12_format_40 : decode cX12_format 40 = .ok (.iconst 0, 1) := by decide +kernel
theorem dX12_format_41 : decode cX12_format 41 = .ok (.istore_n 2, 1) := by decide +kernel
theorem dX12_format_42 : decode cX12_format 42 = .ok (.iload_n 2, 1) := by decide +kernel
theorem dX12_format_43 : decode cX12_format 43 = .ok (.bipush 7, 2) := by decide +kernel
theorem dX12_format_45 : decode cX12_format 45 = .ok (.if_icmp .ge 45, 3) := by decide +kernel
theorem dX12_format_48 : decode cX12_format 48 = .ok (.aload_n 0, 1) := by decide +kernel
theorem dX12_format_49 : decode cX12_format 49 = .ok (.getfield 50, 3) := by decide +kernel
theorem dX12_format_52 : decode cX12_format 52 = .ok (.iload_n 1, 1) := by decide +kernel
theorem dX12_format_53 : decode cX12_format 53 = .ok (.iaload, 1) := by decide +kernel
theorem dX12_format_54 : decode cX12_format 54 = .ok (.iload_n 2, 1) := by decide +kernel
theorem dX12_format_55 : decode cX12_format 55 = .ok (.invokestatic 128, 3) := by decide +kernel
theorem dX12_format_58 : decode cX12_format 58 = .ok (.istore_n 3, 1) := by decide +kernel
theorem dX12_format_59 : decode cX12_format 59 = .ok (.iload_n 3, 1) := by decide +kernel
theorem dX12_format_60 : decode cX12_format 60 = .ok (.ifCond .le 11, 3) := by decide +kernel
theorem dX12_format_63 : decode cX12_format 63 = .ok (.aload_n 0, 1) := by decide +kernel
theorem dX12_format_64 : decode cX12_format 64 = .ok (.bipush 97, 2) := by decide +kernel
theorem dX12_format_66 : decode cX12_format 66 = .ok (.iload_n 2, 1) := by decide +kernel
theorem dX12_format_67 : decode cX12_format 67 = .ok (.iadd, 1) := by decide +kernel
theorem dX12_format_68 : decode cX12_format 68 = .ok (.invokevirtual 296, 3) := by decide +kernel
theorem dX12_format_71 : decode cX12_format 71 = .ok (.iload_n 3, 1) := by decide +kernel
theorem dX12_format_72 : decode cX12_format 72 = .ok (.iconst 1, 1) := by decide +kernel
theorem dX12_format_73 : decode cX12_format 73 = .ok (.if_icmp .le 11, 3) := by decide +kernel
theorem dX12_format_76 : decode cX12_format 76 = .ok (.aload_n 0, 1) := by decide +kernel
theorem dX12_format_77 : decode cX12_format 77 = .ok (.bipush 48, 2) := by decide +kernel
theorem dX12_format_79 : decode cX12_format 79 = .ok (.iload_n 3, 1) := by decide +kernel
theorem dX12_format_80 : decode cX12_format 80 = .ok (.iadd, 1) := by decide +kernel
theorem dX12_format_81 : decode cX12_format 81 = .ok (.invokevirtual 296, 3) := by decide +kernel
theorem dX12_format_84 : decode cX12_format 84 = .ok (.iinc 2 1, 3) := by decide +kernel
theorem dX12_format_87 : decode cX12_format 87 = .ok (.goto (-45), 3) := by decide +kernel
theorem dX12_format_90 : decode cX12_format 90 = .ok (.iinc 1 1, 3) := by decide +kernel
theorem dX12_format_93 : decode cX12_format 93 = .ok (.goto (-86), 3) := by decide +kernel
theorem dX12_format_96 : decode cX12_format 96 = .ok (.return_, 1) := by decide +kernel
theorem dX12_formattedLength_0 : decode cX12_formattedLength 0 = .ok (.aload_n 0, 1) := by decide +kernel
theorem dX12_formattedLength_1 : decode cX12_formattedLength 1 = .ok (.invokevirtual 299, 3) := by decide +kernel
theorem dX12_formattedLength_4 : decode cX12_formattedLength 4 = .ok (.aload_n 0, 1) := by decide +kernel
theorem dX12_formattedLength_5 : decode cX12_formattedLength 5 = .ok (.getfield 293, 3) := by decide +kernel
theorem dX12_formattedLength_8 : decode cX12_formattedLength 8 = .ok (.ireturn, 1) := by decide +kernel
theorem dX12_formattedByte_0 : decode cX12_formattedByte 0 = .ok (.iload_n 1, 1) := by decide +kernel
theorem dX12_formattedByte_1 : decode cX12_formattedByte 1 = .ok (.ifCond .ge 5, 3) := by decide +kernel
theorem dX12_formattedByte_4 : decode cX12_formattedByte 4 = .ok (.iconst (-1), 1) := by decide +kernel
theorem dX12_formattedByte_5 : decode cX12_formattedByte 5 = .ok (.ireturn, 1) := by decide +kernel
theorem dX12_formattedByte_6 : decode cX12_formattedByte 6 = .ok (.aload_n 0, 1) := by decide +kernel
theorem dX12_formattedByte_7 : decode cX12_formattedByte 7 = .ok (.invokevirtual 299, 3) := by decide +kernel
theorem dX12_formattedByte_10 : decode cX12_formattedByte 10 = .ok (.iload_n 1, 1) := by decide +kernel
theorem dX12_formattedByte_11 : decode cX12_formattedByte 11 = .ok (.aload_n 0, 1) := by decide +kernel
theorem dX12_formattedByte_12 : decode cX12_formattedByte 12 = .ok (.getfield 293, 3) := by decide +kernel
theorem dX12_formattedByte_15 : decode cX12_formattedByte 15 = .ok (.if_icmp .ge 12, 3) := by decide +kernel
theorem dX12_formattedByte_18 : decode cX12_formattedByte 18 = .ok (.aload_n 0, 1) := by decide +kernel
theorem dX12_formattedByte_19 : decode cX12_formattedByte 19 = .ok (.getfield 62, 3) := by decide +kernel
theorem dX12_formattedByte_22 : decode cX12_formattedByte 22 = .ok (.iload_n 1, 1) := by decide +kernel
theorem dX12_formattedByte_23 : decode cX12_formattedByte 23 = .ok (.iaload, 1) := by decide +kernel
theorem dX12_formattedByte_24 : decode cX12_formattedByte 24 = .ok (.goto 5, 3) := by decide +kernel
theorem dX12_formattedByte_27 : decode cX12_formattedByte 27 = .ok (.bipush (-2), 2) := by decide +kernel
theorem dX12_formattedByte_29 : decode cX12_formattedByte 29 = .ok (.ireturn, 1) := by decide +kernel
theorem dX12_isSlot_0 : decode cX12_isSlot 0 = .ok (.iload_n 0, 1) := by decide +kernel
theorem dX12_isSlot_1 : decode cX12_isSlot 1 = .ok (.i2l, 1) := by decide +kernel
theorem dX12_isSlot_2 : decode cX12_isSlot 2 = .ok (.lconst 0, 1) := by decide +kernel
theorem dX12_isSlot_3 : decode cX12_isSlot 3 = .ok (.ldc2_w 183, 3) := by decide +kernel
theorem dX12_isSlot_6 : decode cX12_isSlot 6 = .ok (.invokestatic 79, 3) := by decide +kernel
theorem dX12_isSlot_9 : decode cX12_isSlot 9 = .ok (.ireturn, 1) := by decide +kernel
theorem dX12_saveList_0 : decode cX12_saveList 0 = .ok (.iload_n 1, 1) := by decide +kernel
theorem dX12_saveList_1 : decode cX12_saveList 1 = .ok (.invokestatic 302, 3) := by decide +kernel
theorem dX12_saveList_4 : decode cX12_saveList 4 = .ok (.ifCond .ne 5, 3) := by decide +kernel
theorem dX12_saveList_7 : decode cX12_saveList 7 = .ok (.iconst (-1), 1) := by decide +kernel
theorem dX12_saveList_8 : decode cX12_saveList 8 = .ok (.ireturn, 1) := by decide +kernel
theorem dX12_saveList_9 : decode cX12_saveList 9 = .ok (.aload_n 0, 1) := by decide +kernel
theorem dX12_saveList_10 : decode cX12_saveList 10 = .ok (.getfield 65, 3) := by decide +kernel
theorem dX12_saveList_13 : decode cX12_saveList 13 = .ok (.iload_n 1, 1) := by decide +kernel
theorem dX12_saveList_14 : decode cX12_saveList 14 = .ok (.iconst 1, 1) := by decide +kernel
theorem dX12_saveList_15 : decode cX12_saveList 15 = .ok (.iastore, 1) := by decide +kernel
theorem dX12_saveList_16 : decode cX12_saveList 16 = .ok (.aload_n 0, 1) := by decide +kernel
theorem dX12_saveList_17 : decode cX12_saveList 17 = .ok (.getfield 68, 3) := by decide +kernel
theorem dX12_saveList_20 : decode cX12_saveList 20 = .ok (.iload_n 1, 1) := by decide +kernel
theorem dX12_saveList_21 : decode cX12_saveList 21 = .ok (.aload_n 0, 1) := by decide +kernel
theorem dX12_saveList_22 : decode cX12_saveList 22 = .ok (.getfield 251, 3) := by decide +kernel
theorem dX12_saveList_25 : decode cX12_saveList 25 = .ok (.iastore, 1) := by decide +kernel
theorem dX12_saveList_26 : decode cX12_saveList 26 = .ok (.iconst 0, 1) := by decide +kernel
theorem dX12_saveList_27 : decode cX12_saveList 27 = .ok (.istore_n 2, 1) := by decide +kernel
theorem dX12_saveList_28 : decode cX12_saveList 28 = .ok (.iload_n 2, 1) := by decide +kernel
theorem dX12_saveList_29 : decode cX12_saveList 29 = .ok (.aload_n 0, 1) := by decide +kernel
theorem dX12_saveList_30 : decode cX12_saveList 30 = .ok (.getfield 251, 3) := by decide +kernel
theorem dX12_saveList_33 : decode cX12_saveList 33 = .ok (.if_icmp .ge 23, 3) := by decide +kernel
theorem dX12_saveList_36 : decode cX12_saveList 36 = .ok (.aload_n 0, 1) := by decide +kernel
theorem dX12_saveList_37 : decode cX12_saveList 37 = .ok (.getfield 73, 3) := by decide +kernel
theorem dX12_saveList_40 : decode cX12_saveList 40 = .ok (.iload_n 1, 1) := by decide +kernel
theorem dX12_saveList_41 : decode cX12_saveList 41 = .ok (.aaload, 1) := by decide +kernel
theorem dX12_saveList_42 : decode cX12_saveList 42 = .ok (.iload_n 2, 1) := by decide +kernel
theorem dX12_saveList_43 : decode cX12_saveList 43 = .ok (.aload_n 0, 1) := by decide +kernel
theorem dX12_saveList_44 : decode cX12_saveList 44 = .ok (.getfield 50, 3) := by decide +kernel
theorem dX12_saveList_47 : decode cX12_saveList 47 = .ok (.iload_n 2, 1) := by decide +kernel
theorem dX12_saveList_48 : decode cX12_saveList 48 = .ok (.iaload, 1) := by decide +kernel
theorem dX12_saveList_49 : decode cX12_saveList 49 = .ok (.iastore, 1) := by decide +kernel
theorem dX12_saveList_50 : decode cX12_saveList 50 = .ok (.iinc 2 1, 3) := by decide +kernel
theorem dX12_saveList_53 : decode cX12_saveList 53 = .ok (.goto (-25), 3) := by decide +kernel
theorem dX12_saveList_56 : decode cX12_saveList 56 = .ok (.aload_n 0, 1) := by decide +kernel
theorem dX12_saveList_57 : decode cX12_saveList 57 = .ok (.getfield 251, 3) := by decide +kernel
theorem dX12_saveList_60 : decode cX12_saveList 60 = .ok (.ireturn, 1) := by decide +kernel
theorem dX12_slotError_0 : decode cX12_slotError 0 = .ok (.iload_n 1, 1) := by decide +kernel
theorem dX12_slotError_1 : decode cX12_slotError 1 = .ok (.invokestatic 302, 3) := by decide +kernel
theorem dX12_slotError_4 : decode cX12_slotError 4 = .ok (.ifCond .ne 7, 3) := by decide +kernel
theorem dX12_slotError_7 : decode cX12_slotError 7 = .ok (.iconst (-1), 1) := by decide +kernel
theorem dX12_slotError_8 : decode cX12_slotError 8 = .ok (.goto 33, 3) := by decide +kernel
theorem dX12_slotError_11 : decode cX12_slotError 11 = .ok (.aload_n 0, 1) := by decide +kernel
theorem dX12_slotError_12 : decode cX12_slotError 12 = .ok (.getfield 65, 3) := by decide +kernel
theorem dX12_slotError_15 : decode cX12_slotError 15 = .ok (.iload_n 1, 1) := by decide +kernel
theorem dX12_slotError_16 : decode cX12_slotError 16 = .ok (.iaload, 1) := by decide +kernel
theorem dX12_slotError_17 : decode cX12_slotError 17 = .ok (.ifCond .ne 8, 3) := by decide +kernel
theorem dX12_slotError_20 : decode cX12_slotError 20 = .ok (.bipush (-11), 2) := by decide +kernel
theorem dX12_slotError_22 : decode cX12_slotError 22 = .ok (.goto 19, 3) := by decide +kernel
theorem dX12_slotError_25 : decode cX12_slotError 25 = .ok (.aload_n 0, 1) := by decide +kernel
theorem dX12_slotError_26 : decode cX12_slotError 26 = .ok (.getfield 65, 3) := by decide +kernel
theorem dX12_slotError_29 : decode cX12_slotError 29 = .ok (.iload_n 1, 1) := by decide +kernel
theorem dX12_slotError_30 : decode cX12_slotError 30 = .ok (.iaload, 1) := by decide +kernel
theorem dX12_slotError_31 : decode cX12_slotError 31 = .ok (.iload_n 2, 1) := by decide +kernel
theorem dX12_slotError_32 : decode cX12_slotError 32 = .ok (.if_icmp .eq 8, 3) := by decide +kernel
theorem dX12_slotError_35 : decode cX12_slotError 35 = .ok (.bipush (-12), 2) := by decide +kernel
theorem dX12_slotError_37 : decode cX12_slotError 37 = .ok (.goto 4, 3) := by decide +kernel
theorem dX12_slotError_40 : decode cX12_slotError 40 = .ok (.iconst 0, 1) := by decide +kernel
theorem dX12_slotError_41 : decode cX12_slotError 41 = .ok (.ireturn, 1) := by decide +kernel
theorem dX12_loadList_0 : decode cX12_loadList 0 = .ok (.aload_n 0, 1) := by decide +kernel
theorem dX12_loadList_1 : decode cX12_loadList 1 = .ok (.iload_n 1, 1) := by decide +kernel
theorem dX12_loadList_2 : decode cX12_loadList 2 = .ok (.iconst 1, 1) := by decide +kernel
theorem dX12_loadList_3 : decode cX12_loadList 3 = .ok (.invokevirtual 305, 3) := by decide +kernel
theorem dX12_loadList_6 : decode cX12_loadList 6 = .ok (.istore_n 2, 1) := by decide +kernel
theorem dX12_loadList_7 : decode cX12_loadList 7 = .ok (.iload_n 2, 1) := by decide +kernel
theorem dX12_loadList_8 : decode cX12_loadList 8 = .ok (.ifCond .eq 5, 3) := by decide +kernel
theorem dX12_loadList_11 : decode cX12_loadList 11 = .ok (.iload_n 2, 1) := by decide +kernel
theorem dX12_loadList_12 : decode cX12_loadList 12 = .ok (.ireturn, 1) := by decide +kernel
theorem dX12_loadList_13 : decode cX12_loadList 13 = .ok (.aload_n 0, 1) := by decide +kernel
theorem dX12_loadList_14 : decode cX12_loadList 14 = .ok (.aload_n 0, 1) := by decide +kernel
theorem dX12_loadList_15 : decode cX12_loadList 15 = .ok (.getfield 68, 3) := by decide +kernel
theorem dX12_loadList_18 : decode cX12_loadList 18 = .ok (.iload_n 1, 1) := by decide +kernel
theorem dX12_loadList_19 : decode cX12_loadList 19 = .ok (.iaload, 1) := by decide +kernel
theorem dX12_loadList_20 : decode cX12_loadList 20 = .ok (.putfield 251, 3) := by decide +kernel
theorem dX12_loadList_23 : decode cX12_loadList 23 = .ok (.iconst 0, 1) := by decide +kernel
theorem dX12_loadList_24 : decode cX12_loadList 24 = .ok (.istore_n 3, 1) := by decide +kernel
theorem dX12_loadList_25 : decode cX12_loadList 25 = .ok (.iload_n 3, 1) := by decide +kernel
theorem dX12_loadList_26 : decode cX12_loadList 26 = .ok (.aload_n 0, 1) := by decide +kernel
theorem dX12_loadList_27 : decode cX12_loadList 27 = .ok (.getfield 251, 3) := by decide +kernel
theorem dX12_loadList_30 : decode cX12_loadList 30 = .ok (.if_icmp .ge 23, 3) := by decide +kernel
theorem dX12_loadList_33 : decode cX12_loadList 33 = .ok (.aload_n 0, 1) := by decide +kernel
theorem dX12_loadList_34 : decode cX12_loadList 34 = .ok (.getfield 50, 3) := by decide +kernel
theorem dX12_loadList_37 : decode cX12_loadList 37 = .ok (.iload_n 3, 1) := by decide +kernel
theorem dX12_loadList_38 : decode cX12_loadList 38 = .ok (.aload_n 0, 1) := by decide +kernel
theorem dX12_loadList_39 : decode cX12_loadList 39 = .ok (.getfield 73, 3) := by decide +kernel
theorem dX12_loadList_42 : decode cX12_loadList 42 = .ok (.iload_n 1, 1) := by decide +kernel
theorem dX12_loadList_43 : decode cX12_loadList 43 = .ok (.aaload, 1) := by decide +kernel
theorem dX12_loadList_44 : decode cX12_loadList 44 = .ok (.iload_n 3, 1) := by decide +kernel
theorem dX12_loadList_45 : decode cX12_loadList 45 = .ok (.iaload, 1) := by decide +kernel
theorem dX12_loadList_46 : decode cX12_loadList 46 = .ok (.iastore, 1) := by decide +kernel
theorem dX12_loadList_47 : decode cX12_loadList 47 = .ok (.iinc 3 1, 3) := by decide +kernel
theorem dX12_loadList_50 : decode cX12_loadList 50 = .ok (.goto (-25), 3) := by decide +kernel
theorem dX12_loadList_53 : decode cX12_loadList 53 = .ok (.aload_n 0, 1) := by decide +kernel
theorem dX12_loadList_54 : decode cX12_loadList 54 = .ok (.getfield 251, 3) := by decide +kernel
theorem dX12_loadList_57 : decode cX12_loadList 57 = .ok (.ireturn, 1) := by decide +kernel
theorem dX12_clearSlot_0 : decode cX12_clearSlot 0 = .ok (.iload_n 1, 1) := by decide +kernel
theorem dX12_clearSlot_1 : decode cX12_clearSlot 1 = .ok (.invokestatic 302, 3) := by decide +kernel
theorem dX12_clearSlot_4 : decode cX12_clearSlot 4 = .ok (.ifCond .ne 5, 3) := by decide +kernel
theorem dX12_clearSlot_7 : decode cX12_clearSlot 7 = .ok (.iconst (-1), 1) := by decide +kernel
theorem dX12_clearSlot_8 : decode cX12_clearSlot 8 = .ok (.ireturn, 1) := by decide +kernel
theorem dX12_clearSlot_9 : decode cX12_clearSlot 9 = .ok (.aload_n 0, 1) := by decide +kernel
theorem dX12_clearSlot_10 : decode cX12_clearSlot 10 = .ok (.getfield 65, 3) := by decide +kernel
theorem dX12_clearSlot_13 : decode cX12_clearSlot 13 = .ok (.iload_n 1, 1) := by decide +kernel
theorem dX12_clearSlot_14 : decode cX12_clearSlot 14 = .ok (.iaload, 1) := by decide +kernel
theorem dX12_clearSlot_15 : decode cX12_clearSlot 15 = .ok (.istore_n 2, 1) := by decide +kernel
theorem dX12_clearSlot_16 : decode cX12_clearSlot 16 = .ok (.aload_n 0, 1) := by decide +kernel
theorem dX12_clearSlot_17 : decode cX12_clearSlot 17 = .ok (.getfield 65, 3) := by decide +kernel
theorem dX12_clearSlot_20 : decode cX12_clearSlot 20 = .ok (.iload_n 1, 1) := by decide +kernel
theorem dX12_clearSlot_21 : decode cX12_clearSlot 21 = .ok (.iconst 0, 1) := by decide +kernel
theorem dX12_clearSlot_22 : decode cX12_clearSlot 22 = .ok (.iastore, 1) := by decide +kernel
theorem dX12_clearSlot_23 : decode cX12_clearSlot 23 = .ok (.iload_n 2, 1) := by decide +kernel
theorem dX12_clearSlot_24 : decode cX12_clearSlot 24 = .ok (.ireturn, 1) := by decide +kernel
theorem dX12_newArray_0 : decode cX12_newArray 0 = .ok (.iload_n 1, 1) := by decide +kernel
theorem dX12_newArray_1 : decode cX12_newArray 1 = .ok (.invokestatic 302, 3) := by decide +kernel
theorem dX12_newArray_4 : decode cX12_newArray 4 = .ok (.ifCond .eq 9, 3) := by decide +kernel
theorem dX12_newArray_7 : decode cX12_newArray 7 = .ok (.iload_n 2, 1) := by decide +kernel
theorem dX12_newArray_8 : decode cX12_newArray 8 = .ok (.bipush 30, 2) := by decide +kernel
theorem dX12_newArray_10 : decode cX12_newArray 10 = .ok (.if_icmp .le 5, 3) := by decide +kernel
theorem dX12_newArray_13 : decode cX12_newArray 13 = .ok (.iconst (-1), 1) := by decide +kernel
theorem dX12_newArray_14 : decode cX12_newArray 14 = .ok (.ireturn, 1) := by decide +kernel
theorem dX12_newArray_15 : decode cX12_newArray 15 = .ok (.iload_n 2, 1) := by decide +kernel
theorem dX12_newArray_16 : decode cX12_newArray 16 = .ok (.ifCond .ge 6, 3) := by decide +kernel
theorem dX12_newArray_19 : decode cX12_newArray 19 = .ok (.bipush (-14), 2) := by decide +kernel
theorem dX12_newArray_21 : decode cX12_newArray 21 = .ok (.ireturn, 1) := by decide +kernel
theorem dX12_newArray_22 : decode cX12_newArray 22 = .ok (.aload_n 0, 1) := by decide +kernel
theorem dX12_newArray_23 : decode cX12_newArray 23 = .ok (.getfield 65, 3) := by decide +kernel
theorem dX12_newArray_26 : decode cX12_newArray 26 = .ok (.iload_n 1, 1) := by decide +kernel
theorem dX12_newArray_27 : decode cX12_newArray 27 = .ok (.iconst 2, 1) := by decide +kernel
theorem dX12_newArray_28 : decode cX12_newArray 28 = .ok (.iastore, 1) := by decide +kernel
theorem dX12_newArray_29 : decode cX12_newArray 29 = .ok (.aload_n 0, 1) := by decide +kernel
theorem dX12_newArray_30 : decode cX12_newArray 30 = .ok (.getfield 68, 3) := by decide +kernel
theorem dX12_newArray_33 : decode cX12_newArray 33 = .ok (.iload_n 1, 1) := by decide +kernel
theorem dX12_newArray_34 : decode cX12_newArray 34 = .ok (.iload_n 2, 1) := by decide +kernel
theorem dX12_newArray_35 : decode cX12_newArray 35 = .ok (.iastore, 1) := by decide +kernel
theorem dX12_newArray_36 : decode cX12_newArray 36 = .ok (.iconst 0, 1) := by decide +kernel
theorem dX12_newArray_37 : decode cX12_newArray 37 = .ok (.istore_n 3, 1) := by decide +kernel
theorem dX12_newArray_38 : decode cX12_newArray 38 = .ok (.iload_n 3, 1) := by decide +kernel
theorem dX12_newArray_39 : decode cX12_newArray 39 = .ok (.iload_n 2, 1) := by decide +kernel
theorem dX12_newArray_40 : decode cX12_newArray 40 = .ok (.if_icmp .ge 18, 3) := by decide +kernel
theorem dX12_newArray_43 : decode cX12_newArray 43 = .ok (.aload_n 0, 1) := by decide +kernel
theorem dX12_newArray_44 : decode cX12_newArray 44 = .ok (.getfield 73, 3) := by decide +kernel
theorem dX12_newArray_47 : decode cX12_newArray 47 = .ok (.iload_n 1, 1) := by decide +kernel
theorem dX12_newArray_48 : decode cX12_newArray 48 = .ok (.aaload, 1) := by decide +kernel
theorem dX12_newArray_49 : decode cX12_newArray 49 = .ok (.iload_n 3, 1) := by decide +kernel
theorem dX12_newArray_50 : decode cX12_newArray 50 = .ok (.iconst 0, 1) := by decide +kernel
theorem dX12_newArray_51 : decode cX12_newArray 51 = .ok (.iastore, 1) := by decide +kernel
theorem dX12_newArray_52 : decode cX12_newArray 52 = .ok (.iinc 3 1, 3) := by decide +kernel
theorem dX12_newArray_55 : decode cX12_newArray 55 = .ok (.goto (-17), 3) := by decide +kernel
theorem dX12_newArray_58 : decode cX12_newArray 58 = .ok (.iload_n 2, 1) := by decide +kernel
theorem dX12_newArray_59 : decode cX12_newArray 59 = .ok (.ireturn, 1) := by decide +kernel
theorem dX12_setArrayElement_0 : decode cX12_setArrayElement 0 = .ok (.aload_n 0, 1) := by decide +kernel
theorem dX12_setArrayElement_1 : decode cX12_setArrayElement 1 = .ok (.iload_n 1, 1) := by decide +kernel
theorem dX12_setArrayElement_2 : decode cX12_setArrayElement 2 = .ok (.iconst 2, 1) := by decide +kernel
theorem dX12_setArrayElement_3 : decode cX12_setArrayElement 3 = .ok (.invokevirtual 305, 3) := by decide +kernel
theorem dX12_setArrayElement_6 : decode cX12_setArrayElement 6 = .ok (.istore 4, 2) := by decide +kernel
theorem dX12_setArrayElement_8 : decode cX12_setArrayElement 8 = .ok (.iload 4, 2) := by decide +kernel
theorem dX12_setArrayElement_10 : decode cX12_setArrayElement 10 = .ok (.ifCond .eq 6, 3) := by decide +kernel
theorem dX12_setArrayElement_13 : decode cX12_setArrayElement 13 = .ok (.iload 4, 2) := by decide +kernel
theorem dX12_setArrayElement_15 : decode cX12_setArrayElement 15 = .ok (.ireturn, 1) := by decide +kernel
theorem dX12_setArrayElement_16 : decode cX12_setArrayElement 16 = .ok (.iload_n 2, 1) := by decide +kernel
theorem dX12_setArrayElement_17 : decode cX12_setArrayElement 17 = .ok (.i2l, 1) := by decide +kernel
theorem dX12_setArrayElement_18 : decode cX12_setArrayElement 18 = .ok (.lconst 0, 1) := by decide +kernel
theorem dX12_setArrayElement_19 : decode cX12_setArrayElement 19 = .ok (.aload_n 0, 1) := by decide +kernel
theorem dX12_setArrayElement_20 : decode cX12_setArrayElement 20 = .ok (.getfield 68, 3) := by decide +kernel
theorem dX12_setArrayElement_23 : decode cX12_setArrayElement 23 = .ok (.iload_n 1, 1) := by decide +kernel
theorem dX12_setArrayElement_24 : decode cX12_setArrayElement 24 = .ok (.iaload, 1) := by decide +kernel
theorem dX12_setArrayElement_25 : decode cX12_setArrayElement 25 = .ok (.iconst 1, 1) := by decide +kernel
theorem dX12_setArrayElement_26 : decode cX12_setArrayElement 26 = .ok (.isub, 1) := by decide +kernel
theorem dX12_setArrayElement_27 : decode cX12_setArrayElement 27 = .ok (.i2l, 1) := by decide +kernel
theorem dX12_setArrayElement_28 : decode cX12_setArrayElement 28 = .ok (.invokestatic 79, 3) := by decide +kernel
theorem dX12_setArrayElement_31 : decode cX12_setArrayElement 31 = .ok (.ifCond .ne 6, 3) := by decide +kernel
theorem dX12_setArrayElement_34 : decode cX12_setArrayElement 34 = .ok (.bipush (-13), 2) := by decide +kernel
theorem dX12_setArrayElement_36 : decode cX12_setArrayElement 36 = .ok (.ireturn, 1) := by decide +kernel
theorem dX12_setArrayElement_37 : decode cX12_setArrayElement 37 = .ok (.aload_n 0, 1) := by decide +kernel
theorem dX12_setArrayElement_38 : decode cX12_setArrayElement 38 = .ok (.getfield 73, 3) := by decide +kernel
theorem dX12_setArrayElement_41 : decode cX12_setArrayElement 41 = .ok (.iload_n 1, 1) := by decide +kernel
theorem dX12_setArrayElement_42 : decode cX12_setArrayElement 42 = .ok (.aaload, 1) := by decide +kernel
theorem dX12_setArrayElement_43 : decode cX12_setArrayElement 43 = .ok (.iload_n 2, 1) := by decide +kernel
theorem dX12_setArrayElement_44 : decode cX12_setArrayElement 44 = .ok (.iload_n 3, 1) := by decide +kernel
theorem dX12_setArrayElement_45 : decode cX12_setArrayElement 45 = .ok (.iastore, 1) := by decide +kernel
theorem dX12_setArrayElement_46 : decode cX12_setArrayElement 46 = .ok (.iconst 1, 1) := by decide +kernel
theorem dX12_setArrayElement_47 : decode cX12_setArrayElement 47 = .ok (.ireturn, 1) := by decide +kernel
theorem dX12_arrayElement_0 : decode cX12_arrayElement 0 = .ok (.aload_n 0, 1) := by decide +kernel
theorem dX12_arrayElement_1 : decode cX12_arrayElement 1 = .ok (.iload_n 1, 1) := by decide +kernel
theorem dX12_arrayElement_2 : decode cX12_arrayElement 2 = .ok (.iconst 2, 1) := by decide +kernel
theorem dX12_arrayElement_3 : decode cX12_arrayElement 3 = .ok (.invokevirtual 305, 3) := by decide +kernel
theorem dX12_arrayElement_6 : decode cX12_arrayElement 6 = .ok (.ifCond .ne 33, 3) := by decide +kernel
theorem dX12_arrayElement_9 : decode cX12_arrayElement 9 = .ok (.iload_n 2, 1) := by decide +kernel
theorem dX12_arrayElement_10 : decode cX12_arrayElement 10 = .ok (.i2l, 1) := by decide +kernel
theorem dX12_arrayElement_11 : decode cX12_arrayElement 11 = .ok (.lconst 0, 1) := by decide +kernel
theorem dX12_arrayElement_12 : decode cX12_arrayElement 12 = .ok (.aload_n 0, 1) := by decide +kernel
theorem dX12_arrayElement_13 : decode cX12_arrayElement 13 = .ok (.getfield 68, 3) := by decide +kernel
theorem dX12_arrayElement_16 : decode cX12_arrayElement 16 = .ok (.iload_n 1, 1) := by decide +kernel
theorem dX12_arrayElement_17 : decode cX12_arrayElement 17 = .ok (.iaload, 1) := by decide +kernel
theorem dX12_arrayElement_18 : decode cX12_arrayElement 18 = .ok (.iconst 1, 1) := by decide +kernel
theorem dX12_arrayElement_19 : decode cX12_arrayElement 19 = .ok (.isub, 1) := by decide +kernel
theorem dX12_arrayElement_20 : decode cX12_arrayElement 20 = .ok (.i2l, 1) := by decide +kernel
theorem dX12_arrayElement_21 : decode cX12_arrayElement 21 = .ok (.invokestatic 79, 3) := by decide +kernel
theorem dX12_arrayElement_24 : decode cX12_arrayElement 24 = .ok (.ifCond .eq 15, 3) := by decide +kernel
theorem dX12_arrayElement_27 : decode cX12_arrayElement 27 = .ok (.aload_n 0, 1) := by decide +kernel
theorem dX12_arrayElement_28 : decode cX12_arrayElement 28 = .ok (.getfield 73, 3) := by decide +kernel
theorem dX12_arrayElement_31 : decode cX12_arrayElement 31 = .ok (.iload_n 1, 1) := by decide +kernel
theorem dX12_arrayElement_32 : decode cX12_arrayElement 32 = .ok (.aaload, 1) := by decide +kernel
theorem dX12_arrayElement_33 : decode cX12_arrayElement 33 = .ok (.iload_n 2, 1) := by decide +kernel
theorem dX12_arrayElement_34 : decode cX12_arrayElement 34 = .ok (.iaload, 1) := by decide +kernel
theorem dX12_arrayElement_35 : decode cX12_arrayElement 35 = .ok (.i2l, 1) := by decide +kernel
theorem dX12_arrayElement_36 : decode cX12_arrayElement 36 = .ok (.goto 6, 3) := by decide +kernel
theorem dX12_arrayElement_39 : decode cX12_arrayElement 39 = .ok (.ldc2_w 230, 3) := by decide +kernel
theorem dX12_arrayElement_42 : decode cX12_arrayElement 42 = .ok (.lreturn, 1) := by decide +kernel
theorem dX12_firstMismatch_0 : decode cX12_firstMismatch 0 = .ok (.iload_n 1, 1) := by decide +kernel
theorem dX12_firstMismatch_1 : decode cX12_firstMismatch 1 = .ok (.invokestatic 302, 3) := by decide +kernel
theorem dX12_firstMismatch_4 : decode cX12_firstMismatch 4 = .ok (.ifCond .eq 10, 3) := by decide +kernel
theorem dX12_firstMismatch_7 : decode cX12_firstMismatch 7 = .ok (.iload_n 2, 1) := by decide +kernel
theorem dX12_firstMismatch_8 : decode cX12_firstMismatch 8 = .ok (.invokestatic 185, 3) := by decide +kernel
theorem dX12_firstMismatch_11 : decode cX12_firstMismatch 11 = .ok (.ifCond .ne 5, 3) := by decide +kernel
theorem dX12_firstMismatch_14 : decode cX12_firstMismatch 14 = .ok (.iconst (-1), 1) := by decide +kernel
theorem dX12_firstMismatch_15 : decode cX12_firstMismatch 15 = .ok (.ireturn, 1) := by decide +kernel
theorem dX12_firstMismatch_16 : decode cX12_firstMismatch 16 = .ok (.aload_n 0, 1) := by decide +kernel
theorem dX12_firstMismatch_17 : decode cX12_firstMismatch 17 = .ok (.iload_n 1, 1) := by decide +kernel
theorem dX12_firstMismatch_18 : decode cX12_firstMismatch 18 = .ok (.iconst 2, 1) := by decide +kernel
theorem dX12_firstMismatch_19 : decode cX12_firstMismatch 19 = .ok (.invokevirtual 305, 3) := by decide +kernel
theorem dX12_firstMismatch_22 : decode cX12_firstMismatch 22 = .ok (.istore_n 3, 1) := by decide +kernel
theorem dX12_firstMismatch_23 : decode cX12_firstMismatch 23 = .ok (.iload_n 3, 1) := by decide +kernel
theorem dX12_firstMismatch_24 : decode cX12_firstMismatch 24 = .ok (.ifCond .eq 5, 3) := by decide +kernel
theorem dX12_firstMismatch_27 : decode cX12_firstMismatch 27 = .ok (.iload_n 3, 1) := by decide +kernel
theorem dX12_firstMismatch_28 : decode cX12_firstMismatch 28 = .ok (.ireturn, 1) := by decide +kernel
theorem dX12_firstMismatch_29 : decode cX12_firstMismatch 29 = .ok (.aload_n 0, 1) := by decide +kernel
theorem dX12_firstMismatch_30 : decode cX12_firstMismatch 30 = .ok (.iload_n 2, 1) := by decide +kernel
theorem dX12_firstMismatch_31 : decode cX12_firstMismatch 31 = .ok (.iconst 0, 1) := by decide +kernel
theorem dX12_firstMismatch_32 : decode cX12_firstMismatch 32 = .ok (.invokevirtual 188, 3) := by decide +kernel
theorem dX12_firstMismatch_35 : decode cX12_firstMismatch 35 = .ok (.iconst 0, 1) := by decide +kernel
theorem dX12_firstMismatch_36 : decode cX12_firstMismatch 36 = .ok (.istore 4, 2) := by decide +kernel
theorem dX12_firstMismatch_38 : decode cX12_firstMismatch 38 = .ok (.iload 4, 2) := by decide +kernel
theorem dX12_firstMismatch_40 : decode cX12_firstMismatch 40 = .ok (.aload_n 0, 1) := by decide +kernel
theorem dX12_firstMismatch_41 : decode cX12_firstMismatch 41 = .ok (.getfield 177, 3) := by decide +kernel
theorem dX12_firstMismatch_44 : decode cX12_firstMismatch 44 = .ok (.if_icmp .ge 39, 3) := by decide +kernel
theorem dX12_firstMismatch_47 : decode cX12_firstMismatch 47 = .ok (.iload 4, 2) := by decide +kernel
theorem dX12_firstMismatch_49 : decode cX12_firstMismatch 49 = .ok (.aload_n 0, 1) := by decide +kernel
theorem dX12_firstMismatch_50 : decode cX12_firstMismatch 50 = .ok (.getfield 68, 3) := by decide +kernel
theorem dX12_firstMismatch_53 : decode cX12_firstMismatch 53 = .ok (.iload_n 1, 1) := by decide +kernel
theorem dX12_firstMismatch_54 : decode cX12_firstMismatch 54 = .ok (.iaload, 1) := by decide +kernel
theorem dX12_firstMismatch_55 : decode cX12_firstMismatch 55 = .ok (.if_icmp .ge 28, 3) := by decide +kernel
theorem dX12_firstMismatch_58 : decode cX12_firstMismatch 58 = .ok (.aload_n 0, 1) := by decide +kernel
theorem dX12_firstMismatch_59 : decode cX12_firstMismatch 59 = .ok (.getfield 41, 3) := by decide +kernel
theorem dX12_firstMismatch_62 : decode cX12_firstMismatch 62 = .ok (.iload 4, 2) := by decide +kernel
theorem dX12_firstMismatch_64 : decode cX12_firstMismatch 64 = .ok (.iaload, 1) := by decide +kernel
theorem dX12_firstMismatch_65 : decode cX12_firstMismatch 65 = .ok (.aload_n 0, 1) := by decide +kernel
theorem dX12_firstMismatch_66 : decode cX12_firstMismatch 66 = .ok (.getfield 73, 3) := by decide +kernel
theorem dX12_firstMismatch_69 : decode cX12_firstMismatch 69 = .ok (.iload_n 1, 1) := by decide +kernel
theorem dX12_firstMismatch_70 : decode cX12_firstMismatch 70 = .ok (.aaload, 1) := by decide +kernel
theorem dX12_firstMismatch_71 : decode cX12_firstMismatch 71 = .ok (.iload 4, 2) := by decide +kernel
theorem dX12_firstMismatch_73 : decode cX12_firstMismatch 73 = .ok (.iaload, 1) := by decide +kernel
theorem dX12_firstMismatch_74 : decode cX12_firstMismatch 74 = .ok (.if_icmp .ne 9, 3) := by decide +kernel
theorem dX12_firstMismatch_77 : decode cX12_firstMismatch 77 = .ok (.iinc 4 1, 3) := by decide +kernel
theorem dX12_firstMismatch_80 : decode cX12_firstMismatch 80 = .ok (.goto (-42), 3) := by decide +kernel
theorem dX12_firstMismatch_83 : decode cX12_firstMismatch 83 = .ok (.iload 4, 2) := by decide +kernel
theorem dX12_firstMismatch_85 : decode cX12_firstMismatch 85 = .ok (.aload_n 0, 1) := by decide +kernel
theorem dX12_firstMismatch_86 : decode cX12_firstMismatch 86 = .ok (.getfield 177, 3) := by decide +kernel
theorem dX12_firstMismatch_89 : decode cX12_firstMismatch 89 = .ok (.if_icmp .ne 19, 3) := by decide +kernel
theorem dX12_firstMismatch_92 : decode cX12_firstMismatch 92 = .ok (.iload 4, 2) := by decide +kernel
theorem dX12_firstMismatch_94 : decode cX12_firstMismatch 94 = .ok (.aload_n 0, 1) := by decide +kernel
theorem dX12_firstMismatch_95 : decode cX12_firstMismatch 95 = .ok (.getfield 68, 3) := by decide +kernel
theorem dX12_firstMismatch_98 : decode cX12_firstMismatch 98 = .ok (.iload_n 1, 1) := by decide +kernel
theorem dX12_firstMismatch_99 : decode cX12_firstMismatch 99 = .ok (.iaload, 1) := by decide +kernel
theorem dX12_firstMismatch_100 : decode cX12_firstMismatch 100 = .ok (.if_icmp .ne 8, 3) := by decide +kernel
theorem dX12_firstMismatch_103 : decode cX12_firstMismatch 103 = .ok (.bipush (-2), 2) := by decide +kernel
theorem dX12_firstMismatch_105 : decode cX12_firstMismatch 105 = .ok (.goto 5, 3) := by decide +kernel
theorem dX12_firstMismatch_108 : decode cX12_firstMismatch 108 = .ok (.iload 4, 2) := by decide +kernel
theorem dX12_firstMismatch_110 : decode cX12_firstMismatch 110 = .ok (.ireturn, 1) := by decide +kernel
theorem dX12_usedSlotCount_0 : decode cX12_usedSlotCount 0 = .ok (.iconst 0, 1) := by decide +kernel
theorem dX12_usedSlotCount_1 : decode cX12_usedSlotCount 1 = .ok (.istore_n 1, 1) := by decide +kernel
theorem dX12_usedSlotCount_2 : decode cX12_usedSlotCount 2 = .ok (.iconst 0, 1) := by decide +kernel
theorem dX12_usedSlotCount_3 : decode cX12_usedSlotCount 3 = .ok (.istore_n 2, 1) := by decide +kernel
theorem dX12_usedSlotCount_4 : decode cX12_usedSlotCount 4 = .ok (.iload_n 2, 1) := by decide +kernel
theorem dX12_usedSlotCount_5 : decode cX12_usedSlotCount 5 = .ok (.iconst 4, 1) := by decide +kernel
theorem dX12_usedSlotCount_6 : decode cX12_usedSlotCount 6 = .ok (.if_icmp .ge 26, 3) := by decide +kernel
theorem dX12_usedSlotCount_9 : decode cX12_usedSlotCount 9 = .ok (.iload_n 1, 1) := by decide +kernel
theorem dX12_usedSlotCount_10 : decode cX12_usedSlotCount 10 = .ok (.aload_n 0, 1) := by decide +kernel
theorem dX12_usedSlotCount_11 : decode cX12_usedSlotCount 11 = .ok (.getfield 65, 3) := by decide +kernel
theorem dX12_usedSlotCount_14 : decode cX12_usedSlotCount 14 = .ok (.iload_n 2, 1) := by decide +kernel
theorem dX12_usedSlotCount_15 : decode cX12_usedSlotCount 15 = .ok (.iaload, 1) := by decide +kernel
theorem dX12_usedSlotCount_16 : decode cX12_usedSlotCount 16 = .ok (.ifCond .eq 7, 3) := by decide +kernel
theorem dX12_usedSlotCount_19 : decode cX12_usedSlotCount 19 = .ok (.iconst 1, 1) := by decide +kernel
theorem dX12_usedSlotCount_20 : decode cX12_usedSlotCount 20 = .ok (.goto 4, 3) := by decide +kernel
theorem dX12_usedSlotCount_23 : decode cX12_usedSlotCount 23 = .ok (.iconst 0, 1) := by decide +kernel
theorem dX12_usedSlotCount_24 : decode cX12_usedSlotCount 24 = .ok (.iadd, 1) := by decide +kernel
theorem dX12_usedSlotCount_25 : decode cX12_usedSlotCount 25 = .ok (.istore_n 1, 1) := by decide +kernel
theorem dX12_usedSlotCount_26 : decode cX12_usedSlotCount 26 = .ok (.iinc 2 1, 3) := by decide +kernel
theorem dX12_usedSlotCount_29 : decode cX12_usedSlotCount 29 = .ok (.goto (-25), 3) := by decide +kernel
theorem dX12_usedSlotCount_32 : decode cX12_usedSlotCount 32 = .ok (.iload_n 1, 1) := by decide +kernel
theorem dX12_usedSlotCount_33 : decode cX12_usedSlotCount 33 = .ok (.ireturn, 1) := by decide +kernel
theorem dX12_changeCount_0 : decode cX12_changeCount 0 = .ok (.aload_n 0, 1) := by decide +kernel
theorem dX12_changeCount_1 : decode cX12_changeCount 1 = .ok (.getfield 83, 3) := by decide +kernel
theorem dX12_changeCount_4 : decode cX12_changeCount 4 = .ok (.ireturn, 1) := by decide +kernel
theorem dX12_inputLength_0 : decode cX12_inputLength 0 = .ok (.aload_n 0, 1) := by decide +kernel
theorem dX12_inputLength_1 : decode cX12_inputLength 1 = .ok (.getfield 279, 3) := by decide +kernel
theorem dX12_inputLength_4 : decode cX12_inputLength 4 = .ok (.ireturn, 1) := by decide +kernel
theorem dX12_takeSnapshot_0 : decode cX12_takeSnapshot 0 = .ok (.aload_n 0, 1) := by decide +kernel
theorem dX12_takeSnapshot_1 : decode cX12_takeSnapshot 1 = .ok (.iconst 1, 1) := by decide +kernel
theorem dX12_takeSnapshot_2 : decode cX12_takeSnapshot 2 = .ok (.putfield 308, 3) := by decide +kernel
theorem dX12_takeSnapshot_5 : decode cX12_takeSnapshot 5 = .ok (.aload_n 0, 1) := by decide +kernel
theorem dX12_takeSnapshot_6 : decode cX12_takeSnapshot 6 = .ok (.getfield 76, 3) := by decide +kernel
theorem dX12_takeSnapshot_9 : decode cX12_takeSnapshot 9 = .ok (.iconst 0, 1) := by decide +kernel
theorem dX12_takeSnapshot_10 : decode cX12_takeSnapshot 10 = .ok (.aload_n 0, 1) := by decide +kernel
theorem dX12_takeSnapshot_11 : decode cX12_takeSnapshot 11 = .ok (.getfield 9, 3) := by decide +kernel
theorem dX12_takeSnapshot_14 : decode cX12_takeSnapshot 14 = .ok (.iastore, 1) := by decide +kernel
theorem dX12_takeSnapshot_15 : decode cX12_takeSnapshot 15 = .ok (.aload_n 0, 1) := by decide +kernel
theorem dX12_takeSnapshot_16 : decode cX12_takeSnapshot 16 = .ok (.getfield 76, 3) := by decide +kernel
theorem dX12_takeSnapshot_19 : decode cX12_takeSnapshot 19 = .ok (.iconst 1, 1) := by decide +kernel
theorem dX12_takeSnapshot_20 : decode cX12_takeSnapshot 20 = .ok (.aload_n 0, 1) := by decide +kernel
theorem dX12_takeSnapshot_21 : decode cX12_takeSnapshot 21 = .ok (.getfield 236, 3) := by decide +kernel
theorem dX12_takeSnapshot_24 : decode cX12_takeSnapshot 24 = .ok (.iastore, 1) := by decide +kernel
theorem dX12_takeSnapshot_25 : decode cX12_takeSnapshot 25 = .ok (.aload_n 0, 1) := by decide +kernel
theorem dX12_takeSnapshot_26 : decode cX12_takeSnapshot 26 = .ok (.getfield 76, 3) := by decide +kernel
theorem dX12_takeSnapshot_29 : decode cX12_takeSnapshot 29 = .ok (.iconst 2, 1) := by decide +kernel
theorem dX12_takeSnapshot_30 : decode cX12_takeSnapshot 30 = .ok (.aload_n 0, 1) := by decide +kernel
theorem dX12_takeSnapshot_31 : decode cX12_takeSnapshot 31 = .ok (.getfield 251, 3) := by decide +kernel
theorem dX12_takeSnapshot_34 : decode cX12_takeSnapshot 34 = .ok (.iastore, 1) := by decide +kernel
theorem dX12_takeSnapshot_35 : decode cX12_takeSnapshot 35 = .ok (.aload_n 0, 1) := by decide +kernel
theorem dX12_takeSnapshot_36 : decode cX12_takeSnapshot 36 = .ok (.getfield 15, 3) := by decide +kernel
theorem dX12_takeSnapshot_39 : decode cX12_takeSnapshot 39 = .ok (.iconst 0, 1) := by decide +kernel
theorem dX12_takeSnapshot_40 : decode cX12_takeSnapshot 40 = .ok (.aload_n 0, 1) := by decide +kernel
theorem dX12_takeSnapshot_41 : decode cX12_takeSnapshot 41 = .ok (.getfield 76, 3) := by decide +kernel
theorem dX12_takeSnapshot_44 : decode cX12_takeSnapshot 44 = .ok (.iconst 3, 1) := by decide +kernel
theorem dX12_takeSnapshot_45 : decode cX12_takeSnapshot 45 = .ok (.bipush 7, 2) := by decide +kernel
theorem dX12_takeSnapshot_47 : decode cX12_takeSnapshot 47 = .ok (.invokestatic 311, 3) := by decide +kernel
theorem dX12_takeSnapshot_50 : decode cX12_takeSnapshot 50 = .ok (.aload_n 0, 1) := by decide +kernel
theorem dX12_takeSnapshot_51 : decode cX12_takeSnapshot 51 = .ok (.getfield 47, 3) := by decide +kernel
theorem dX12_takeSnapshot_54 : decode cX12_takeSnapshot 54 = .ok (.iconst 0, 1) := by decide +kernel
theorem dX12_takeSnapshot_55 : decode cX12_takeSnapshot 55 = .ok (.aload_n 0, 1) := by decide +kernel
theorem dX12_takeSnapshot_56 : decode cX12_takeSnapshot 56 = .ok (.getfield 76, 3) := by decide +kernel
theorem dX12_takeSnapshot_59 : decode cX12_takeSnapshot 59 = .ok (.bipush 10, 2) := by decide +kernel
theorem dX12_takeSnapshot_61 : decode cX12_takeSnapshot 61 = .ok (.bipush 24, 2) := by decide +kernel
theorem dX12_takeSnapshot_63 : decode cX12_takeSnapshot 63 = .ok (.invokestatic 311, 3) := by decide +kernel
theorem dX12_takeSnapshot_66 : decode cX12_takeSnapshot 66 = .ok (.aload_n 0, 1) := by decide +kernel
theorem dX12_takeSnapshot_67 : decode cX12_takeSnapshot 67 = .ok (.getfield 50, 3) := by decide +kernel
theorem dX12_takeSnapshot_70 : decode cX12_takeSnapshot 70 = .ok (.iconst 0, 1) := by decide +kernel
theorem dX12_takeSnapshot_71 : decode cX12_takeSnapshot 71 = .ok (.aload_n 0, 1) := by decide +kernel
theorem dX12_takeSnapshot_72 : decode cX12_takeSnapshot 72 = .ok (.getfield 76, 3) := by decide +kernel
theorem dX12_takeSnapshot_75 : decode cX12_takeSnapshot 75 = .ok (.bipush 34, 2) := by decide +kernel
theorem dX12_takeSnapshot_77 : decode cX12_takeSnapshot 77 = .ok (.bipush 24, 2) := by decide +kernel
theorem dX12_takeSnapshot_79 : decode cX12_takeSnapshot 79 = .ok (.invokestatic 311, 3) := by decide +kernel
theorem dX12_takeSnapshot_82 : decode cX12_takeSnapshot 82 = .ok (.aload_n 0, 1) := by decide +kernel
theorem dX12_takeSnapshot_83 : decode cX12_takeSnapshot 83 = .ok (.getfield 9, 3) := by decide +kernel
theorem dX12_takeSnapshot_86 : decode cX12_takeSnapshot 86 = .ok (.ireturn, 1) := by decide +kernel
theorem dX12_copy_0 : decode cX12_copy 0 = .ok (.iconst 0, 1) := by decide +kernel
theorem dX12_copy_1 : decode cX12_copy 1 = .ok (.istore 5, 2) := by decide +kernel
theorem dX12_copy_3 : decode cX12_copy 3 = .ok (.iload 5, 2) := by decide +kernel
theorem dX12_copy_5 : decode cX12_copy 5 = .ok (.iload 4, 2) := by decide +kernel
theorem dX12_copy_7 : decode cX12_copy 7 = .ok (.if_icmp .ge 21, 3) := by decide +kernel
theorem dX12_copy_10 : decode cX12_copy 10 = .ok (.aload_n 2, 1) := by decide +kernel
theorem dX12_copy_11 : decode cX12_copy 11 = .ok (.iload_n 3, 1) := by decide +kernel
theorem dX12_copy_12 : decode cX12_copy 12 = .ok (.iload 5, 2) := by decide +kernel
theorem dX12_copy_14 : decode cX12_copy 14 = .ok (.iadd, 1) := by decide +kernel
theorem dX12_copy_15 : decode cX12_copy 15 = .ok (.aload_n 0, 1) := by decide +kernel
theorem dX12_copy_16 : decode cX12_copy 16 = .ok (.iload_n 1, 1) := by decide +kernel
theorem dX12_copy_17 : decode cX12_copy 17 = .ok (.iload 5, 2) := by decide +kernel
theorem dX12_copy_19 : decode cX12_copy 19 = .ok (.iadd, 1) := by decide +kernel
theorem dX12_copy_20 : decode cX12_copy 20 = .ok (.iaload, 1) := by decide +kernel
theorem dX12_copy_21 : decode cX12_copy 21 = .ok (.iastore, 1) := by decide +kernel
theorem dX12_copy_22 : decode cX12_copy 22 = .ok (.iinc 5 1, 3) := by decide +kernel
theorem dX12_copy_25 : decode cX12_copy 25 = .ok (.goto (-22), 3) := by decide +kernel
theorem dX12_copy_28 : decode cX12_copy 28 = .ok (.return_, 1) := by decide +kernel
theorem dX12_restoreSnapshot_0 : decode cX12_restoreSnapshot 0 = .ok (.aload_n 0, 1) := by decide +kernel
theorem dX12_restoreSnapshot_1 : decode cX12_restoreSnapshot 1 = .ok (.getfield 308, 3) := by decide +kernel
theorem dX12_restoreSnapshot_4 : decode cX12_restoreSnapshot 4 = .ok (.ifCond .ne 6, 3) := by decide +kernel
theorem dX12_restoreSnapshot_7 : decode cX12_restoreSnapshot 7 = .ok (.bipush (-5), 2) := by decide +kernel
theorem dX12_restoreSnapshot_9 : decode cX12_restoreSnapshot 9 = .ok (.ireturn, 1) := by decide +kernel
theorem dX12_restoreSnapshot_10 : decode cX12_restoreSnapshot 10 = .ok (.aload_n 0, 1) := by decide +kernel
theorem dX12_restoreSnapshot_11 : decode cX12_restoreSnapshot 11 = .ok (.aload_n 0, 1) := by decide +kernel
theorem dX12_restoreSnapshot_12 : decode cX12_restoreSnapshot 12 = .ok (.getfield 76, 3) := by decide +kernel
theorem dX12_restoreSnapshot_15 : decode cX12_restoreSnapshot 15 = .ok (.iconst 0, 1) := by decide +kernel
theorem dX12_restoreSnapshot_16 : decode cX12_restoreSnapshot 16 = .ok (.iaload, 1) := by decide +kernel
theorem dX12_restoreSnapshot_17 : decode cX12_restoreSnapshot 17 = .ok (.putfield 9, 3) := by decide +kernel
theorem dX12_restoreSnapshot_20 : decode cX12_restoreSnapshot 20 = .ok (.aload_n 0, 1) := by decide +kernel
theorem dX12_restoreSnapshot_21 : decode cX12_restoreSnapshot 21 = .ok (.aload_n 0, 1) := by decide +kernel
theorem dX12_restoreSnapshot_22 : decode cX12_restoreSnapshot 22 = .ok (.getfield 76, 3) := by decide +kernel
theorem dX12_restoreSnapshot_25 : decode cX12_restoreSnapshot 25 = .ok (.iconst 1, 1) := by decide +kernel
theorem dX12_restoreSnapshot_26 : decode cX12_restoreSnapshot 26 = .ok (.iaload, 1) := by decide +kernel
theorem dX12_restoreSnapshot_27 : decode cX12_restoreSnapshot 27 = .ok (.putfield 236, 3) := by decide +kernel
theorem dX12_restoreSnapshot_30 : decode cX12_restoreSnapshot 30 = .ok (.aload_n 0, 1) := by decide +kernel
theorem dX12_restoreSnapshot_31 : decode cX12_restoreSnapshot 31 = .ok (.aload_n 0, 1) := by decide +kernel
theorem dX12_restoreSnapshot_32 : decode cX12_restoreSnapshot 32 = .ok (.getfield 76, 3) := by decide +kernel
theorem dX12_restoreSnapshot_35 : decode cX12_restoreSnapshot 35 = .ok (.iconst 2, 1) := by decide +kernel
theorem dX12_restoreSnapshot_36 : decode cX12_restoreSnapshot 36 = .ok (.iaload, 1) := by decide +kernel
theorem dX12_restoreSnapshot_37 : decode cX12_restoreSnapshot 37 = .ok (.putfield 251, 3) := by decide +kernel
theorem dX12_restoreSnapshot_40 : decode cX12_restoreSnapshot 40 = .ok (.aload_n 0, 1) := by decide +kernel
theorem dX12_restoreSnapshot_41 : decode cX12_restoreSnapshot 41 = .ok (.getfield 76, 3) := by decide +kernel
theorem dX12_restoreSnapshot_44 : decode cX12_restoreSnapshot 44 = .ok (.iconst 3, 1) := by decide +kernel
theorem dX12_restoreSnapshot_45 : decode cX12_restoreSnapshot 45 = .ok (.aload_n 0, 1) := by decide +kernel
theorem dX12_restoreSnapshot_46 : decode cX12_restoreSnapshot 46 = .ok (.getfield 15, 3) := by decide +kernel
theorem dX12_restoreSnapshot_49 : decode cX12_restoreSnapshot 49 = .ok (.iconst 0, 1) := by decide +kernel
theorem dX12_restoreSnapshot_50 : decode cX12_restoreSnapshot 50 = .ok (.bipush 7, 2) := by decide +kernel
theorem dX12_restoreSnapshot_52 : decode cX12_restoreSnapshot 52 = .ok (.invokestatic 311, 3) := by decide +kernel
theorem dX12_restoreSnapshot_55 : decode cX12_restoreSnapshot 55 = .ok (.aload_n 0, 1) := by decide +kernel
theorem dX12_restoreSnapshot_56 : decode cX12_restoreSnapshot 56 = .ok (.getfield 76, 3) := by decide +kernel
theorem dX12_restoreSnapshot_59 : decode cX12_restoreSnapshot 59 = .ok (.bipush 10, 2) := by decide +kernel
theorem dX12_restoreSnapshot_61 : decode cX12_restoreSnapshot 61 = .ok (.aload_n 0, 1) := by decide +kernel
theorem dX12_restoreSnapshot_62 : decode cX12_restoreSnapshot 62 = .ok (.getfield 47, 3) := by decide +kernel
theorem dX12_restoreSnapshot_65 : decode cX12_restoreSnapshot 65 = .ok (.iconst 0, 1) := by decide +kernel
theorem dX12_restoreSnapshot_66 : decode cX12_restoreSnapshot 66 = .ok (.bipush 24, 2) := by decide +kernel
theorem dX12_restoreSnapshot_68 : decode cX12_restoreSnapshot 68 = .ok (.invokestatic 311, 3) := by decide +kernel
theorem dX12_restoreSnapshot_71 : decode cX12_restoreSnapshot 71 = .ok (.aload_n 0, 1) := by decide +kernel
theorem dX12_restoreSnapshot_72 : decode cX12_restoreSnapshot 72 = .ok (.getfield 76, 3) := by decide +kernel
theorem dX12_restoreSnapshot_75 : decode cX12_restoreSnapshot 75 = .ok (.bipush 34, 2) := by decide +kernel
theorem dX12_restoreSnapshot_77 : decode cX12_restoreSnapshot 77 = .ok (.aload_n 0, 1) := by decide +kernel
theorem dX12_restoreSnapshot_78 : decode cX12_restoreSnapshot 78 = .ok (.getfield 50, 3) := by decide +kernel
theorem dX12_restoreSnapshot_81 : decode cX12_restoreSnapshot 81 = .ok (.iconst 0, 1) := by decide +kernel
theorem dX12_restoreSnapshot_82 : decode cX12_restoreSnapshot 82 = .ok (.bipush 24, 2) := by decide +kernel
theorem dX12_restoreSnapshot_84 : decode cX12_restoreSnapshot 84 = .ok (.invokestatic 311, 3) := by decide +kernel
theorem dX12_restoreSnapshot_87 : decode cX12_restoreSnapshot 87 = .ok (.aload_n 0, 1) := by decide +kernel
theorem dX12_restoreSnapshot_88 : decode cX12_restoreSnapshot 88 = .ok (.iconst 0, 1) := by decide +kernel
theorem dX12_restoreSnapshot_89 : decode cX12_restoreSnapshot 89 = .ok (.putfield 83, 3) := by decide +kernel
theorem dX12_restoreSnapshot_92 : decode cX12_restoreSnapshot 92 = .ok (.aload_n 0, 1) := by decide +kernel
theorem dX12_restoreSnapshot_93 : decode cX12_restoreSnapshot 93 = .ok (.iconst 1, 1) := by decide +kernel
theorem dX12_restoreSnapshot_94 : decode cX12_restoreSnapshot 94 = .ok (.putfield 25, 3) := by decide +kernel
theorem dX12_restoreSnapshot_97 : decode cX12_restoreSnapshot 97 = .ok (.aload_n 0, 1) := by decide +kernel
theorem dX12_restoreSnapshot_98 : decode cX12_restoreSnapshot 98 = .ok (.getfield 9, 3) := by decide +kernel
theorem dX12_restoreSnapshot_101 : decode cX12_restoreSnapshot 101 = .ok (.ireturn, 1) := by decide +kernel
theorem dJ6_numberOfTrailingZeros_0f7a4_0 : decode cJ6_numberOfTrailingZeros_0f7a4 0 = .ok (.iload_n 0, 1) := by decide +kernel
theorem dJ6_numberOfTrailingZeros_0f7a4_1 : decode cJ6_numberOfTrailingZeros_0f7a4 1 = .ok (.iconst (-1), 1) := by decide +kernel
theorem dJ6_numberOfTrailingZeros_0f7a4_2 : decode cJ6_numberOfTrailingZeros_0f7a4 2 = .ok (.ixor, 1) := by decide +kernel
theorem dJ6_numberOfTrailingZeros_0f7a4_3 : decode cJ6_numberOfTrailingZeros_0f7a4 3 = .ok (.iload_n 0, 1) := by decide +kernel
theorem dJ6_numberOfTrailingZeros_0f7a4_4 : decode cJ6_numberOfTrailingZeros_0f7a4 4 = .ok (.iconst 1, 1) := by decide +kernel
theorem dJ6_numberOfTrailingZeros_0f7a4_5 : decode cJ6_numberOfTrailingZeros_0f7a4 5 = .ok (.isub, 1) := by decide +kernel
theorem dJ6_numberOfTrailingZeros_0f7a4_6 : decode cJ6_numberOfTrailingZeros_0f7a4 6 = .ok (.iand, 1) := by decide +kernel
theorem dJ6_numberOfTrailingZeros_0f7a4_7 : decode cJ6_numberOfTrailingZeros_0f7a4 7 = .ok (.istore_n 0, 1) := by decide +kernel
theorem dJ6_numberOfTrailingZeros_0f7a4_8 : decode cJ6_numberOfTrailingZeros_0f7a4 8 = .ok (.iload_n 0, 1) := by decide +kernel
theorem dJ6_numberOfTrailingZeros_0f7a4_9 : decode cJ6_numberOfTrailingZeros_0f7a4 9 = .ok (.ifCond .gt 8, 3) := by decide +kernel
theorem dJ6_numberOfTrailingZeros_0f7a4_12 : decode cJ6_numberOfTrailingZeros_0f7a4 12 = .ok (.iload_n 0, 1) := by decide +kernel
theorem dJ6_numberOfTrailingZeros_0f7a4_13 : decode cJ6_numberOfTrailingZeros_0f7a4 13 = .ok (.bipush 32, 2) := by decide +kernel
theorem dJ6_numberOfTrailingZeros_0f7a4_15 : decode cJ6_numberOfTrailingZeros_0f7a4 15 = .ok (.iand, 1) := by decide +kernel
theorem dJ6_numberOfTrailingZeros_0f7a4_16 : decode cJ6_numberOfTrailingZeros_0f7a4 16 = .ok (.ireturn, 1) := by decide +kernel
theorem dJ6_numberOfTrailingZeros_0f7a4_17 : decode cJ6_numberOfTrailingZeros_0f7a4 17 = .ok (.iconst 1, 1) := by decide +kernel
theorem dJ6_numberOfTrailingZeros_0f7a4_18 : decode cJ6_numberOfTrailingZeros_0f7a4 18 = .ok (.istore_n 1, 1) := by decide +kernel
theorem dJ6_numberOfTrailingZeros_0f7a4_19 : decode cJ6_numberOfTrailingZeros_0f7a4 19 = .ok (.iload_n 0, 1) := by decide +kernel
theorem dJ6_numberOfTrailingZeros_0f7a4_20 : decode cJ6_numberOfTrailingZeros_0f7a4 20 = .ok (.ldc_w 264, 3) := by decide +kernel
theorem dJ6_numberOfTrailingZeros_0f7a4_23 : decode cJ6_numberOfTrailingZeros_0f7a4 23 = .ok (.if_icmp .le 11, 3) := by decide +kernel
theorem dJ6_numberOfTrailingZeros_0f7a4_26 : decode cJ6_numberOfTrailingZeros_0f7a4 26 = .ok (.iinc 1 16, 3) := by decide +kernel
theorem dJ6_numberOfTrailingZeros_0f7a4_29 : decode cJ6_numberOfTrailingZeros_0f7a4 29 = .ok (.iload_n 0, 1) := by decide +kernel
theorem dJ6_numberOfTrailingZeros_0f7a4_30 : decode cJ6_numberOfTrailingZeros_0f7a4 30 = .ok (.bipush 16, 2) := by decide +kernel
theorem dJ6_numberOfTrailingZeros_0f7a4_32 : decode cJ6_numberOfTrailingZeros_0f7a4 32 = .ok (.iushr, 1) := by decide +kernel
theorem dJ6_numberOfTrailingZeros_0f7a4_33 : decode cJ6_numberOfTrailingZeros_0f7a4 33 = .ok (.istore_n 0, 1) := by decide +kernel
theorem dJ6_numberOfTrailingZeros_0f7a4_34 : decode cJ6_numberOfTrailingZeros_0f7a4 34 = .ok (.iload_n 0, 1) := by decide +kernel
theorem dJ6_numberOfTrailingZeros_0f7a4_35 : decode cJ6_numberOfTrailingZeros_0f7a4 35 = .ok (.sipush 256, 3) := by decide +kernel
theorem dJ6_numberOfTrailingZeros_0f7a4_38 : decode cJ6_numberOfTrailingZeros_0f7a4 38 = .ok (.if_icmp .le 11, 3) := by decide +kernel
theorem dJ6_numberOfTrailingZeros_0f7a4_41 : decode cJ6_numberOfTrailingZeros_0f7a4 41 = .ok (.iinc 1 8, 3) := by decide +kernel
theorem dJ6_numberOfTrailingZeros_0f7a4_44 : decode cJ6_numberOfTrailingZeros_0f7a4 44 = .ok (.iload_n 0, 1) := by decide +kernel
theorem dJ6_numberOfTrailingZeros_0f7a4_45 : decode cJ6_numberOfTrailingZeros_0f7a4 45 = .ok (.bipush 8, 2) := by decide +kernel
theorem dJ6_numberOfTrailingZeros_0f7a4_47 : decode cJ6_numberOfTrailingZeros_0f7a4 47 = .ok (.iushr, 1) := by decide +kernel
theorem dJ6_numberOfTrailingZeros_0f7a4_48 : decode cJ6_numberOfTrailingZeros_0f7a4 48 = .ok (.istore_n 0, 1) := by decide +kernel
theorem dJ6_numberOfTrailingZeros_0f7a4_49 : decode cJ6_numberOfTrailingZeros_0f7a4 49 = .ok (.iload_n 0, 1) := by decide +kernel
theorem dJ6_numberOfTrailingZeros_0f7a4_50 : decode cJ6_numberOfTrailingZeros_0f7a4 50 = .ok (.bipush 16, 2) := by decide +kernel
theorem dJ6_numberOfTrailingZeros_0f7a4_52 : decode cJ6_numberOfTrailingZeros_0f7a4 52 = .ok (.if_icmp .le 10, 3) := by decide +kernel
theorem dJ6_numberOfTrailingZeros_0f7a4_55 : decode cJ6_numberOfTrailingZeros_0f7a4 55 = .ok (.iinc 1 4, 3) := by decide +kernel
theorem dJ6_numberOfTrailingZeros_0f7a4_58 : decode cJ6_numberOfTrailingZeros_0f7a4 58 = .ok (.iload_n 0, 1) := by decide +kernel
theorem dJ6_numberOfTrailingZeros_0f7a4_59 : decode cJ6_numberOfTrailingZeros_0f7a4 59 = .ok (.iconst 4, 1) := by decide +kernel
theorem dJ6_numberOfTrailingZeros_0f7a4_60 : decode cJ6_numberOfTrailingZeros_0f7a4 60 = .ok (.iushr, 1) := by decide +kernel
theorem dJ6_numberOfTrailingZeros_0f7a4_61 : decode cJ6_numberOfTrailingZeros_0f7a4 61 = .ok (.istore_n 0, 1) := by decide +kernel
theorem dJ6_numberOfTrailingZeros_0f7a4_62 : decode cJ6_numberOfTrailingZeros_0f7a4 62 = .ok (.iload_n 0, 1) := by decide +kernel
theorem dJ6_numberOfTrailingZeros_0f7a4_63 : decode cJ6_numberOfTrailingZeros_0f7a4 63 = .ok (.iconst 4, 1) := by decide +kernel
theorem dJ6_numberOfTrailingZeros_0f7a4_64 : decode cJ6_numberOfTrailingZeros_0f7a4 64 = .ok (.if_icmp .le 10, 3) := by decide +kernel
theorem dJ6_numberOfTrailingZeros_0f7a4_67 : decode cJ6_numberOfTrailingZeros_0f7a4 67 = .ok (.iinc 1 2, 3) := by decide +kernel
theorem dJ6_numberOfTrailingZeros_0f7a4_70 : decode cJ6_numberOfTrailingZeros_0f7a4 70 = .ok (.iload_n 0, 1) := by decide +kernel
theorem dJ6_numberOfTrailingZeros_0f7a4_71 : decode cJ6_numberOfTrailingZeros_0f7a4 71 = .ok (.iconst 2, 1) := by decide +kernel
theorem dJ6_numberOfTrailingZeros_0f7a4_72 : decode cJ6_numberOfTrailingZeros_0f7a4 72 = .ok (.iushr, 1) := by decide +kernel
theorem dJ6_numberOfTrailingZeros_0f7a4_73 : decode cJ6_numberOfTrailingZeros_0f7a4 73 = .ok (.istore_n 0, 1) := by decide +kernel
theorem dJ6_numberOfTrailingZeros_0f7a4_74 : decode cJ6_numberOfTrailingZeros_0f7a4 74 = .ok (.iload_n 1, 1) := by decide +kernel
theorem dJ6_numberOfTrailingZeros_0f7a4_75 : decode cJ6_numberOfTrailingZeros_0f7a4 75 = .ok (.iload_n 0, 1) := by decide +kernel
theorem dJ6_numberOfTrailingZeros_0f7a4_76 : decode cJ6_numberOfTrailingZeros_0f7a4 76 = .ok (.iconst 1, 1) := by decide +kernel
theorem dJ6_numberOfTrailingZeros_0f7a4_77 : decode cJ6_numberOfTrailingZeros_0f7a4 77 = .ok (.iushr, 1) := by decide +kernel
theorem dJ6_numberOfTrailingZeros_0f7a4_78 : decode cJ6_numberOfTrailingZeros_0f7a4 78 = .ok (.iadd, 1) := by decide +kernel
theorem dJ6_numberOfTrailingZeros_0f7a4_79 : decode cJ6_numberOfTrailingZeros_0f7a4 79 = .ok (.ireturn, 1) := by decide +kernel
theorem dJ6_bitCount_0f7a4_0 : decode cJ6_bitCount_0f7a4 0 = .ok (.iload_n 0, 1) := by decide +kernel
theorem dJ6_bitCount_0f7a4_1 : decode cJ6_bitCount_0f7a4 1 = .ok (.iload_n 0, 1) := by decide +kernel
theorem dJ6_bitCount_0f7a4_2 : decode cJ6_bitCount_0f7a4 2 = .ok (.iconst 1, 1) := by decide +kernel
theorem dJ6_bitCount_0f7a4_3 : decode cJ6_bitCount_0f7a4 3 = .ok (.iushr, 1) := by decide +kernel
theorem dJ6_bitCount_0f7a4_4 : decode cJ6_bitCount_0f7a4 4 = .ok (.ldc_w 265, 3) := by decide +kernel
theorem dJ6_bitCount_0f7a4_7 : decode cJ6_bitCount_0f7a4 7 = .ok (.iand, 1) := by decide +kernel
theorem dJ6_bitCount_0f7a4_8 : decode cJ6_bitCount_0f7a4 8 = .ok (.isub, 1) := by decide +kernel
theorem dJ6_bitCount_0f7a4_9 : decode cJ6_bitCount_0f7a4 9 = .ok (.istore_n 0, 1) := by decide +kernel
theorem dJ6_bitCount_0f7a4_10 : decode cJ6_bitCount_0f7a4 10 = .ok (.iload_n 0, 1) := by decide +kernel
theorem dJ6_bitCount_0f7a4_11 : decode cJ6_bitCount_0f7a4 11 = .ok (.ldc_w 266, 3) := by decide +kernel
theorem dJ6_bitCount_0f7a4_14 : decode cJ6_bitCount_0f7a4 14 = .ok (.iand, 1) := by decide +kernel
theorem dJ6_bitCount_0f7a4_15 : decode cJ6_bitCount_0f7a4 15 = .ok (.iload_n 0, 1) := by decide +kernel
theorem dJ6_bitCount_0f7a4_16 : decode cJ6_bitCount_0f7a4 16 = .ok (.iconst 2, 1) := by decide +kernel
theorem dJ6_bitCount_0f7a4_17 : decode cJ6_bitCount_0f7a4 17 = .ok (.iushr, 1) := by decide +kernel
theorem dJ6_bitCount_0f7a4_18 : decode cJ6_bitCount_0f7a4 18 = .ok (.ldc_w 266, 3) := by decide +kernel
theorem dJ6_bitCount_0f7a4_21 : decode cJ6_bitCount_0f7a4 21 = .ok (.iand, 1) := by decide +kernel
theorem dJ6_bitCount_0f7a4_22 : decode cJ6_bitCount_0f7a4 22 = .ok (.iadd, 1) := by decide +kernel
theorem dJ6_bitCount_0f7a4_23 : decode cJ6_bitCount_0f7a4 23 = .ok (.istore_n 0, 1) := by decide +kernel
theorem dJ6_bitCount_0f7a4_24 : decode cJ6_bitCount_0f7a4 24 = .ok (.iload_n 0, 1) := by decide +kernel
theorem dJ6_bitCount_0f7a4_25 : decode cJ6_bitCount_0f7a4 25 = .ok (.iload_n 0, 1) := by decide +kernel
theorem dJ6_bitCount_0f7a4_26 : decode cJ6_bitCount_0f7a4 26 = .ok (.iconst 4, 1) := by decide +kernel
theorem dJ6_bitCount_0f7a4_27 : decode cJ6_bitCount_0f7a4 27 = .ok (.iushr, 1) := by decide +kernel
theorem dJ6_bitCount_0f7a4_28 : decode cJ6_bitCount_0f7a4 28 = .ok (.iadd, 1) := by decide +kernel
theorem dJ6_bitCount_0f7a4_29 : decode cJ6_bitCount_0f7a4 29 = .ok (.ldc_w 267, 3) := by decide +kernel
theorem dJ6_bitCount_0f7a4_32 : decode cJ6_bitCount_0f7a4 32 = .ok (.iand, 1) := by decide +kernel
theorem dJ6_bitCount_0f7a4_33 : decode cJ6_bitCount_0f7a4 33 = .ok (.istore_n 0, 1) := by decide +kernel
theorem dJ6_bitCount_0f7a4_34 : decode cJ6_bitCount_0f7a4 34 = .ok (.iload_n 0, 1) := by decide +kernel
theorem dJ6_bitCount_0f7a4_35 : decode cJ6_bitCount_0f7a4 35 = .ok (.iload_n 0, 1) := by decide +kernel
theorem dJ6_bitCount_0f7a4_36 : decode cJ6_bitCount_0f7a4 36 = .ok (.bipush 8, 2) := by decide +kernel
theorem dJ6_bitCount_0f7a4_38 : decode cJ6_bitCount_0f7a4 38 = .ok (.iushr, 1) := by decide +kernel
theorem dJ6_bitCount_0f7a4_39 : decode cJ6_bitCount_0f7a4 39 = .ok (.iadd, 1) := by decide +kernel
theorem dJ6_bitCount_0f7a4_40 : decode cJ6_bitCount_0f7a4 40 = .ok (.istore_n 0, 1) := by decide +kernel
theorem dJ6_bitCount_0f7a4_41 : decode cJ6_bitCount_0f7a4 41 = .ok (.iload_n 0, 1) := by decide +kernel
theorem dJ6_bitCount_0f7a4_42 : decode cJ6_bitCount_0f7a4 42 = .ok (.iload_n 0, 1) := by decide +kernel
theorem dJ6_bitCount_0f7a4_43 : decode cJ6_bitCount_0f7a4 43 = .ok (.bipush 16, 2) := by decide +kernel
theorem dJ6_bitCount_0f7a4_45 : decode cJ6_bitCount_0f7a4 45 = .ok (.iushr, 1) := by decide +kernel
theorem dJ6_bitCount_0f7a4_46 : decode cJ6_bitCount_0f7a4 46 = .ok (.iadd, 1) := by decide +kernel
theorem dJ6_bitCount_0f7a4_47 : decode cJ6_bitCount_0f7a4 47 = .ok (.istore_n 0, 1) := by decide +kernel
theorem dJ6_bitCount_0f7a4_48 : decode cJ6_bitCount_0f7a4 48 = .ok (.iload_n 0, 1) := by decide +kernel
theorem dJ6_bitCount_0f7a4_49 : decode cJ6_bitCount_0f7a4 49 = .ok (.bipush 63, 2) := by decide +kernel
theorem dJ6_bitCount_0f7a4_51 : decode cJ6_bitCount_0f7a4 51 = .ok (.iand, 1) := by decide +kernel
theorem dJ6_bitCount_0f7a4_52 : decode cJ6_bitCount_0f7a4 52 = .ok (.ireturn, 1) := by decide +kernel
theorem dJ13_bitCount_95d88_0 : decode cJ13_bitCount_95d88 0 = .ok (.lload_n 0, 1) := by decide +kernel
theorem dJ13_bitCount_95d88_1 : decode cJ13_bitCount_95d88 1 = .ok (.lload_n 0, 1) := by decide +kernel
theorem dJ13_bitCount_95d88_2 : decode cJ13_bitCount_95d88 2 = .ok (.iconst 1, 1) := by decide +kernel
theorem dJ13_bitCount_95d88_3 : decode cJ13_bitCount_95d88 3 = .ok (.lushr, 1) := by decide +kernel
theorem dJ13_bitCount_95d88_4 : decode cJ13_bitCount_95d88 4 = .ok (.ldc2_w 314, 3) := by decide +kernel
theorem dJ13_bitCount_95d88_7 : decode cJ13_bitCount_95d88 7 = .ok (.land, 1) := by decide +kernel
theorem dJ13_bitCount_95d88_8 : decode cJ13_bitCount_95d88 8 = .ok (.lsub, 1) := by decide +kernel
theorem dJ13_bitCount_95d88_9 : decode cJ13_bitCount_95d88 9 = .ok (.lstore_n 0, 1) := by decide +kernel
theorem dJ13_bitCount_95d88_10 : decode cJ13_bitCount_95d88 10 = .ok (.lload_n 0, 1) := by decide +kernel
theorem dJ13_bitCount_95d88_11 : decode cJ13_bitCount_95d88 11 = .ok (.ldc2_w 316, 3) := by decide +kernel
theorem dJ13_bitCount_95d88_14 : decode cJ13_bitCount_95d88 14 = .ok (.land, 1) := by decide +kernel
theorem dJ13_bitCount_95d88_15 : decode cJ13_bitCount_95d88 15 = .ok (.lload_n 0, 1) := by decide +kernel
theorem dJ13_bitCount_95d88_16 : decode cJ13_bitCount_95d88 16 = .ok (.iconst 2, 1) := by decide +kernel
theorem dJ13_bitCount_95d88_17 : decode cJ13_bitCount_95d88 17 = .ok (.lushr, 1) := by decide +kernel
theorem dJ13_bitCount_95d88_18 : decode cJ13_bitCount_95d88 18 = .ok (.ldc2_w 316, 3) := by decide +kernel
theorem dJ13_bitCount_95d88_21 : decode cJ13_bitCount_95d88 21 = .ok (.land, 1) := by decide +kernel
theorem dJ13_bitCount_95d88_22 : decode cJ13_bitCount_95d88 22 = .ok (.ladd, 1) := by decide +kernel
theorem dJ13_bitCount_95d88_23 : decode cJ13_bitCount_95d88 23 = .ok (.lstore_n 0, 1) := by decide +kernel
theorem dJ13_bitCount_95d88_24 : decode cJ13_bitCount_95d88 24 = .ok (.lload_n 0, 1) := by decide +kernel
theorem dJ13_bitCount_95d88_25 : decode cJ13_bitCount_95d88 25 = .ok (.lload_n 0, 1) := by decide +kernel
theorem dJ13_bitCount_95d88_26 : decode cJ13_bitCount_95d88 26 = .ok (.iconst 4, 1) := by decide +kernel
theorem dJ13_bitCount_95d88_27 : decode cJ13_bitCount_95d88 27 = .ok (.lushr, 1) := by decide +kernel
theorem dJ13_bitCount_95d88_28 : decode cJ13_bitCount_95d88 28 = .ok (.ladd, 1) := by decide +kernel
theorem dJ13_bitCount_95d88_29 : decode cJ13_bitCount_95d88 29 = .ok (.ldc2_w 318, 3) := by decide +kernel
theorem dJ13_bitCount_95d88_32 : decode cJ13_bitCount_95d88 32 = .ok (.land, 1) := by decide +kernel
theorem dJ13_bitCount_95d88_33 : decode cJ13_bitCount_95d88 33 = .ok (.lstore_n 0, 1) := by decide +kernel
theorem dJ13_bitCount_95d88_34 : decode cJ13_bitCount_95d88 34 = .ok (.lload_n 0, 1) := by decide +kernel
theorem dJ13_bitCount_95d88_35 : decode cJ13_bitCount_95d88 35 = .ok (.lload_n 0, 1) := by decide +kernel
theorem dJ13_bitCount_95d88_36 : decode cJ13_bitCount_95d88 36 = .ok (.bipush 8, 2) := by decide +kernel
theorem dJ13_bitCount_95d88_38 : decode cJ13_bitCount_95d88 38 = .ok (.lushr, 1) := by decide +kernel
theorem dJ13_bitCount_95d88_39 : decode cJ13_bitCount_95d88 39 = .ok (.ladd, 1) := by decide +kernel
theorem dJ13_bitCount_95d88_40 : decode cJ13_bitCount_95d88 40 = .ok (.lstore_n 0, 1) := by decide +kernel
theorem dJ13_bitCount_95d88_41 : decode cJ13_bitCount_95d88 41 = .ok (.lload_n 0, 1) := by decide +kernel
theorem dJ13_bitCount_95d88_42 : decode cJ13_bitCount_95d88 42 = .ok (.lload_n 0, 1) := by decide +kernel
theorem dJ13_bitCount_95d88_43 : decode cJ13_bitCount_95d88 43 = .ok (.bipush 16, 2) := by decide +kernel
theorem dJ13_bitCount_95d88_45 : decode cJ13_bitCount_95d88 45 = .ok (.lushr, 1) := by decide +kernel
theorem dJ13_bitCount_95d88_46 : decode cJ13_bitCount_95d88 46 = .ok (.ladd, 1) := by decide +kernel
theorem dJ13_bitCount_95d88_47 : decode cJ13_bitCount_95d88 47 = .ok (.lstore_n 0, 1) := by decide +kernel
theorem dJ13_bitCount_95d88_48 : decode cJ13_bitCount_95d88 48 = .ok (.lload_n 0, 1) := by decide +kernel
theorem dJ13_bitCount_95d88_49 : decode cJ13_bitCount_95d88 49 = .ok (.lload_n 0, 1) := by decide +kernel
theorem dJ13_bitCount_95d88_50 : decode cJ13_bitCount_95d88 50 = .ok (.bipush 32, 2) := by decide +kernel
theorem dJ13_bitCount_95d88_52 : decode cJ13_bitCount_95d88 52 = .ok (.lushr, 1) := by decide +kernel
theorem dJ13_bitCount_95d88_53 : decode cJ13_bitCount_95d88 53 = .ok (.ladd, 1) := by decide +kernel
theorem dJ13_bitCount_95d88_54 : decode cJ13_bitCount_95d88 54 = .ok (.lstore_n 0, 1) := by decide +kernel
theorem dJ13_bitCount_95d88_55 : decode cJ13_bitCount_95d88 55 = .ok (.lload_n 0, 1) := by decide +kernel
theorem dJ13_bitCount_95d88_56 : decode cJ13_bitCount_95d88 56 = .ok (.l2i, 1) := by decide +kernel
theorem dJ13_bitCount_95d88_57 : decode cJ13_bitCount_95d88 57 = .ok (.bipush 127, 2) := by decide +kernel
theorem dJ13_bitCount_95d88_59 : decode cJ13_bitCount_95d88 59 = .ok (.iand, 1) := by decide +kernel
theorem dJ13_bitCount_95d88_60 : decode cJ13_bitCount_95d88 60 = .ok (.ireturn, 1) := by decide +kernel
theorem dJ9_max_7cf53_0 : decode cJ9_max_7cf53 0 = .ok (.iload_n 0, 1) := by decide +kernel
end
section
theorem dJ9_max_7cf53_1 : decode cJ9_max_7cf53 1 = .ok (.iload_n 1, 1) := by decide +kernel
theorem dJ9_max_7cf53_2 : decode cJ9_max_7cf53 2 = .ok (.if_icmp .lt 7, 3) := by decide +kernel
theorem dJ9_max_7cf53_5 : decode cJ9_max_7cf53 5 = .ok (.iload_n 0, 1) := by decide +kernel
theorem dJ9_max_7cf53_6 : decode cJ9_max_7cf53 6 = .ok (.goto 4, 3) := by decide +kernel
theorem dJ9_max_7cf53_9 : decode cJ9_max_7cf53 9 = .ok (.iload_n 1, 1) := by decide +kernel
theorem dJ9_max_7cf53_10 : decode cJ9_max_7cf53 10 = .ok (.ireturn, 1) := by decide +kernel
theorem dJ9_min_7cf53_0 : decode cJ9_min_7cf53 0 = .ok (.iload_n 0, 1) := by decide +kernel
theorem dJ9_min_7cf53_1 : decode cJ9_min_7cf53 1 = .ok (.iload_n 1, 1) := by decide +kernel
theorem dJ9_min_7cf53_2 : decode cJ9_min_7cf53 2 = .ok (.if_icmp .gt 7, 3) := by decide +kernel
theorem dJ9_min_7cf53_5 : decode cJ9_min_7cf53 5 = .ok (.iload_n 0, 1) := by decide +kernel
theorem dJ9_min_7cf53_6 : decode cJ9_min_7cf53 6 = .ok (.goto 4, 3) := by decide +kernel
theorem dJ9_min_7cf53_9 : decode cJ9_min_7cf53 9 = .ok (.iload_n 1, 1) := by decide +kernel
theorem dJ9_min_7cf53_10 : decode cJ9_min_7cf53 10 = .ok (.ireturn, 1) := by decide +kernel
theorem dL_law_0 : decode cL_law 0 = .ok (.new 7, 3) := by decide +kernel
theorem dL_law_3 : decode cL_law 3 = .ok (.dup, 1) := by decide +kernel
theorem dL_law_4 : decode cL_law 4 = .ok (.invokespecial 9, 3) := by decide +kernel
theorem dL_law_7 : decode cL_law 7 = .ok (.astore_n 1, 1) := by decide +kernel
theorem dL_law_8 : decode cL_law 8 = .ok (.new 10, 3) := by decide +kernel
theorem dL_law_11 : decode cL_law 11 = .ok (.dup, 1) := by decide +kernel
theorem dL_law_12 : decode cL_law 12 = .ok (.invokespecial 12, 3) := by decide +kernel
theorem dL_law_15 : decode cL_law 15 = .ok (.astore_n 2, 1) := by decide +kernel
theorem dL_law_16 : decode cL_law 16 = .ok (.iconst 0, 1) := by decide +kernel
theorem dL_law_17 : decode cL_law 17 = .ok (.istore_n 3, 1) := by decide +kernel
theorem dL_law_18 : decode cL_law 18 = .ok (.iload_n 3, 1) := by decide +kernel
theorem dL_law_19 : decode cL_law 19 = .ok (.aload_n 0, 1) := by decide +kernel
theorem dL_law_20 : decode cL_law 20 = .ok (.arraylength, 1) := by decide +kernel
theorem dL_law_21 : decode cL_law 21 = .ok (.iconst 4, 1) := by decide +kernel
theorem dL_law_22 : decode cL_law 22 = .ok (.isub, 1) := by decide +kernel
theorem dL_law_23 : decode cL_law 23 = .ok (.if_icmp .gt 2307, 3) := by decide +kernel
theorem dL_law_26 : decode cL_law 26 = .ok (.aload_n 0, 1) := by decide +kernel
theorem dL_law_27 : decode cL_law 27 = .ok (.iload_n 3, 1) := by decide +kernel
theorem dL_law_28 : decode cL_law 28 = .ok (.iaload, 1) := by decide +kernel
theorem dL_law_29 : decode cL_law 29 = .ok (.bipush 127, 2) := by decide +kernel
theorem dL_law_31 : decode cL_law 31 = .ok (.iand, 1) := by decide +kernel
theorem dL_law_32 : decode cL_law 32 = .ok (.tableswitch 2292 0 81 #[344, 367, 400, 423, 436, 449, 462, 485, 498, 511, 524, 537, 560, 573, 586, 609, 642, 665, 688, 721, 744, 767, 800, 833, 866, 899, 922, 955, 978, 1011, 1034, 1057, 1090, 1123, 1166, 1209, 1252, 1285, 1329, 1352, 1385, 1398, 1421, 1444, 1477, 1510, 1533, 1546, 1579, 1602, 1635, 1658, 1681, 1704, 1717, 1740, 1753, 1766, 1789, 1802, 1825, 1858, 1881, 1894, 1917, 1930, 1953, 1966, 1979, 1992, 2015, 2038, 2061, 2084, 2117, 2160, 2194, 2227, 2240, 2253, 2266, 2279], 344) := by decide +kernel
theorem dL_law_376 : decode cL_law 376 = .ok (.aload_n 1, 1) := by decide +kernel
theorem dL_law_377 : decode cL_law 377 = .ok (.aload_n 0, 1) := by decide +kernel
theorem dL_law_378 : decode cL_law 378 = .ok (.iload_n 3, 1) := by decide +kernel
theorem dL_law_379 : decode cL_law 379 = .ok (.iconst 1, 1) := by decide +kernel
theorem dL_law_380 : decode cL_law 380 = .ok (.iadd, 1) := by decide +kernel
theorem dL_law_381 : decode cL_law 381 = .ok (.iaload, 1) := by decide +kernel
theorem dL_law_382 : decode cL_law 382 = .ok (.invokevirtual 13, 3) := by decide +kernel
theorem dL_law_385 : decode cL_law 385 = .ok (.aload_n 2, 1) := by decide +kernel
theorem dL_law_386 : decode cL_law 386 = .ok (.aload_n 0, 1) := by decide +kernel
theorem dL_law_387 : decode cL_law 387 = .ok (.iload_n 3, 1) := by decide +kernel
theorem dL_law_388 : decode cL_law 388 = .ok (.iconst 1, 1) := by decide +kernel
theorem dL_law_389 : decode cL_law 389 = .ok (.iadd, 1) := by decide +kernel
theorem dL_law_390 : decode cL_law 390 = .ok (.iaload, 1) := by decide +kernel
theorem dL_law_391 : decode cL_law 391 = .ok (.invokevirtual 17, 3) := by decide +kernel
theorem dL_law_394 : decode cL_law 394 = .ok (.if_icmp .eq 1930, 3) := by decide +kernel
theorem dL_law_397 : decode cL_law 397 = .ok (.iconst 0, 1) := by decide +kernel
theorem dL_law_398 : decode cL_law 398 = .ok (.ireturn, 1) := by decide +kernel
theorem dL_law_399 : decode cL_law 399 = .ok (.aload_n 1, 1) := by decide +kernel
theorem dL_law_400 : decode cL_law 400 = .ok (.aload_n 0, 1) := by decide +kernel
theorem dL_law_401 : decode cL_law 401 = .ok (.iload_n 3, 1) := by decide +kernel
theorem dL_law_402 : decode cL_law 402 = .ok (.iconst 1, 1) := by decide +kernel
theorem dL_law_403 : decode cL_law 403 = .ok (.iadd, 1) := by decide +kernel
theorem dL_law_404 : decode cL_law 404 = .ok (.iaload, 1) := by decide +kernel
theorem dL_law_405 : decode cL_law 405 = .ok (.aload_n 0, 1) := by decide +kernel
theorem dL_law_406 : decode cL_law 406 = .ok (.iload_n 3, 1) := by decide +kernel
theorem dL_law_407 : decode cL_law 407 = .ok (.iconst 2, 1) := by decide +kernel
theorem dL_law_408 : decode cL_law 408 = .ok (.iadd, 1) := by decide +kernel
theorem dL_law_409 : decode cL_law 409 = .ok (.iaload, 1) := by decide +kernel
theorem dL_law_410 : decode cL_law 410 = .ok (.invokevirtual 18, 3) := by decide +kernel
theorem dL_law_413 : decode cL_law 413 = .ok (.aload_n 2, 1) := by decide +kernel
theorem dL_law_414 : decode cL_law 414 = .ok (.aload_n 0, 1) := by decide +kernel
theorem dL_law_415 : decode cL_law 415 = .ok (.iload_n 3, 1) := by decide +kernel
theorem dL_law_416 : decode cL_law 416 = .ok (.iconst 1, 1) := by decide +kernel
theorem dL_law_417 : decode cL_law 417 = .ok (.iadd, 1) := by decide +kernel
theorem dL_law_418 : decode cL_law 418 = .ok (.iaload, 1) := by decide +kernel
theorem dL_law_419 : decode cL_law 419 = .ok (.aload_n 0, 1) := by decide +kernel
theorem dL_law_420 : decode cL_law 420 = .ok (.iload_n 3, 1) := by decide +kernel
theorem dL_law_421 : decode cL_law 421 = .ok (.iconst 2, 1) := by decide +kernel
theorem dL_law_422 : decode cL_law 422 = .ok (.iadd, 1) := by decide +kernel
theorem dL_law_423 : decode cL_law 423 = .ok (.iaload, 1) := by decide +kernel
theorem dL_law_424 : decode cL_law 424 = .ok (.invokevirtual 22, 3) := by decide +kernel
theorem dL_law_427 : decode cL_law 427 = .ok (.if_icmp .eq 1897, 3) := by decide +kernel
theorem dL_law_430 : decode cL_law 430 = .ok (.iconst 0, 1) := by decide +kernel
theorem dL_law_431 : decode cL_law 431 = .ok (.ireturn, 1) := by decide +kernel
theorem dL_law_432 : decode cL_law 432 = .ok (.aload_n 1, 1) := by decide +kernel
theorem dL_law_433 : decode cL_law 433 = .ok (.aload_n 0, 1) := by decide +kernel
theorem dL_law_434 : decode cL_law 434 = .ok (.iload_n 3, 1) := by decide +kernel
theorem dL_law_435 : decode cL_law 435 = .ok (.iconst 1, 1) := by decide +kernel
theorem dL_law_436 : decode cL_law 436 = .ok (.iadd, 1) := by decide +kernel
theorem dL_law_437 : decode cL_law 437 = .ok (.iaload, 1) := by decide +kernel
theorem dL_law_438 : decode cL_law 438 = .ok (.invokevirtual 23, 3) := by decide +kernel
theorem dL_law_441 : decode cL_law 441 = .ok (.aload_n 2, 1) := by decide +kernel
theorem dL_law_442 : decode cL_law 442 = .ok (.aload_n 0, 1) := by decide +kernel
theorem dL_law_443 : decode cL_law 443 = .ok (.iload_n 3, 1) := by decide +kernel
theorem dL_law_444 : decode cL_law 444 = .ok (.iconst 1, 1) := by decide +kernel
theorem dL_law_445 : decode cL_law 445 = .ok (.iadd, 1) := by decide +kernel
theorem dL_law_446 : decode cL_law 446 = .ok (.iaload, 1) := by decide +kernel
theorem dL_law_447 : decode cL_law 447 = .ok (.invokevirtual 26, 3) := by decide +kernel
theorem dL_law_450 : decode cL_law 450 = .ok (.if_icmp .eq 1874, 3) := by decide +kernel
theorem dL_law_453 : decode cL_law 453 = .ok (.iconst 0, 1) := by decide +kernel
theorem dL_law_454 : decode cL_law 454 = .ok (.ireturn, 1) := by decide +kernel
theorem dL_law_455 : decode cL_law 455 = .ok (.aload_n 1, 1) := by decide +kernel
theorem dL_law_456 : decode cL_law 456 = .ok (.invokevirtual 27, 3) := by decide +kernel
theorem dL_law_459 : decode cL_law 459 = .ok (.aload_n 2, 1) := by decide +kernel
theorem dL_law_460 : decode cL_law 460 = .ok (.invokevirtual 31, 3) := by decide +kernel
theorem dL_law_463 : decode cL_law 463 = .ok (.if_icmp .eq 1861, 3) := by decide +kernel
theorem dL_law_466 : decode cL_law 466 = .ok (.iconst 0, 1) := by decide +kernel
theorem dL_law_467 : decode cL_law 467 = .ok (.ireturn, 1) := by decide +kernel
theorem dL_law_468 : decode cL_law 468 = .ok (.aload_n 1, 1) := by decide +kernel
theorem dL_law_469 : decode cL_law 469 = .ok (.invokevirtual 32, 3) := by decide +kernel
theorem dL_law_472 : decode cL_law 472 = .ok (.aload_n 2, 1) := by decide +kernel
theorem dL_law_473 : decode cL_law 473 = .ok (.invokevirtual 35, 3) := by decide +kernel
theorem dL_law_476 : decode cL_law 476 = .ok (.if_icmp .eq 1848, 3) := by decide +kernel
theorem dL_law_479 : decode cL_law 479 = .ok (.iconst 0, 1) := by decide +kernel
theorem dL_law_480 : decode cL_law 480 = .ok (.ireturn, 1) := by decide +kernel
theorem dL_law_481 : decode cL_law 481 = .ok (.aload_n 1, 1) := by decide +kernel
theorem dL_law_482 : decode cL_law 482 = .ok (.invokevirtual 36, 3) := by decide +kernel
theorem dL_law_485 : decode cL_law 485 = .ok (.aload_n 2, 1) := by decide +kernel
theorem dL_law_486 : decode cL_law 486 = .ok (.invokevirtual 39, 3) := by decide +kernel
theorem dL_law_489 : decode cL_law 489 = .ok (.if_icmp .eq 1835, 3) := by decide +kernel
theorem dL_law_492 : decode cL_law 492 = .ok (.iconst 0, 1) := by decide +kernel
theorem dL_law_493 : decode cL_law 493 = .ok (.ireturn, 1) := by decide +kernel
theorem dL_law_494 : decode cL_law 494 = .ok (.aload_n 1, 1) := by decide +kernel
theorem dL_law_495 : decode cL_law 495 = .ok (.aload_n 0, 1) := by decide +kernel
theorem dL_law_496 : decode cL_law 496 = .ok (.iload_n 3, 1) := by decide +kernel
theorem dL_law_497 : decode cL_law 497 = .ok (.iconst 1, 1) := by decide +kernel
theorem dL_law_498 : decode cL_law 498 = .ok (.iadd, 1) := by decide +kernel
theorem dL_law_499 : decode cL_law 499 = .ok (.iaload, 1) := by decide +kernel
theorem dL_law_500 : decode cL_law 500 = .ok (.invokevirtual 40, 3) := by decide +kernel
theorem dL_law_503 : decode cL_law 503 = .ok (.aload_n 2, 1) := by decide +kernel
theorem dL_law_504 : decode cL_law 504 = .ok (.aload_n 0, 1) := by decide +kernel
theorem dL_law_505 : decode cL_law 505 = .ok (.iload_n 3, 1) := by decide +kernel
theorem dL_law_506 : decode cL_law 506 = .ok (.iconst 1, 1) := by decide +kernel
theorem dL_law_507 : decode cL_law 507 = .ok (.iadd, 1) := by decide +kernel
theorem dL_law_508 : decode cL_law 508 = .ok (.iaload, 1) := by decide +kernel
theorem dL_law_509 : decode cL_law 509 = .ok (.invokevirtual 43, 3) := by decide +kernel
theorem dL_law_512 : decode cL_law 512 = .ok (.if_icmp .eq 1812, 3) := by decide +kernel
theorem dL_law_515 : decode cL_law 515 = .ok (.iconst 0, 1) := by decide +kernel
theorem dL_law_516 : decode cL_law 516 = .ok (.ireturn, 1) := by decide +kernel
theorem dL_law_517 : decode cL_law 517 = .ok (.aload_n 1, 1) := by decide +kernel
theorem dL_law_518 : decode cL_law 518 = .ok (.invokevirtual 44, 3) := by decide +kernel
theorem dL_law_521 : decode cL_law 521 = .ok (.aload_n 2, 1) := by decide +kernel
theorem dL_law_522 : decode cL_law 522 = .ok (.invokevirtual 47, 3) := by decide +kernel
theorem dL_law_525 : decode cL_law 525 = .ok (.if_icmp .eq 1799, 3) := by decide +kernel
theorem dL_law_528 : decode cL_law 528 = .ok (.iconst 0, 1) := by decide +kernel
theorem dL_law_529 : decode cL_law 529 = .ok (.ireturn, 1) := by decide +kernel
theorem dL_law_530 : decode cL_law 530 = .ok (.aload_n 1, 1) := by decide +kernel
theorem dL_law_531 : decode cL_law 531 = .ok (.invokevirtual 48, 3) := by decide +kernel
theorem dL_law_534 : decode cL_law 534 = .ok (.aload_n 2, 1) := by decide +kernel
theorem dL_law_535 : decode cL_law 535 = .ok (.invokevirtual 51, 3) := by decide +kernel
theorem dL_law_538 : decode cL_law 538 = .ok (.if_icmp .eq 1786, 3) := by decide +kernel
theorem dL_law_541 : decode cL_law 541 = .ok (.iconst 0, 1) := by decide +kernel
theorem dL_law_542 : decode cL_law 542 = .ok (.ireturn, 1) := by decide +kernel
theorem dL_law_543 : decode cL_law 543 = .ok (.aload_n 1, 1) := by decide +kernel
theorem dL_law_544 : decode cL_law 544 = .ok (.invokevirtual 52, 3) := by decide +kernel
theorem dL_law_547 : decode cL_law 547 = .ok (.aload_n 2, 1) := by decide +kernel
theorem dL_law_548 : decode cL_law 548 = .ok (.invokevirtual 55, 3) := by decide +kernel
theorem dL_law_551 : decode cL_law 551 = .ok (.if_icmp .eq 1773, 3) := by decide +kernel
theorem dL_law_554 : decode cL_law 554 = .ok (.iconst 0, 1) := by decide +kernel
theorem dL_law_555 : decode cL_law 555 = .ok (.ireturn, 1) := by decide +kernel
theorem dL_law_556 : decode cL_law 556 = .ok (.aload_n 1, 1) := by decide +kernel
theorem dL_law_557 : decode cL_law 557 = .ok (.invokevirtual 56, 3) := by decide +kernel
theorem dL_law_560 : decode cL_law 560 = .ok (.aload_n 2, 1) := by decide +kernel
theorem dL_law_561 : decode cL_law 561 = .ok (.invokevirtual 59, 3) := by decide +kernel
theorem dL_law_564 : decode cL_law 564 = .ok (.if_icmp .eq 1760, 3) := by decide +kernel
theorem dL_law_567 : decode cL_law 567 = .ok (.iconst 0, 1) := by decide +kernel
theorem dL_law_568 : decode cL_law 568 = .ok (.ireturn, 1) := by decide +kernel
theorem dL_law_569 : decode cL_law 569 = .ok (.aload_n 1, 1) := by decide +kernel
theorem dL_law_570 : decode cL_law 570 = .ok (.aload_n 0, 1) := by decide +kernel
theorem dL_law_571 : decode cL_law 571 = .ok (.iload_n 3, 1) := by decide +kernel
theorem dL_law_572 : decode cL_law 572 = .ok (.iconst 1, 1) := by decide +kernel
theorem dL_law_573 : decode cL_law 573 = .ok (.iadd, 1) := by decide +kernel
theorem dL_law_574 : decode cL_law 574 = .ok (.iaload, 1) := by decide +kernel
theorem dL_law_575 : decode cL_law 575 = .ok (.invokevirtual 60, 3) := by decide +kernel
theorem dL_law_578 : decode cL_law 578 = .ok (.aload_n 2, 1) := by decide +kernel
theorem dL_law_579 : decode cL_law 579 = .ok (.aload_n 0, 1) := by decide +kernel
theorem dL_law_580 : decode cL_law 580 = .ok (.iload_n 3, 1) := by decide +kernel
theorem dL_law_581 : decode cL_law 581 = .ok (.iconst 1, 1) := by decide +kernel
theorem dL_law_582 : decode cL_law 582 = .ok (.iadd, 1) := by decide +kernel
theorem dL_law_583 : decode cL_law 583 = .ok (.iaload, 1) := by decide +kernel
theorem dL_law_584 : decode cL_law 584 = .ok (.invokevirtual 63, 3) := by decide +kernel
theorem dL_law_587 : decode cL_law 587 = .ok (.if_icmp .eq 1737, 3) := by decide +kernel
theorem dL_law_590 : decode cL_law 590 = .ok (.iconst 0, 1) := by decide +kernel
theorem dL_law_591 : decode cL_law 591 = .ok (.ireturn, 1) := by decide +kernel
theorem dL_law_592 : decode cL_law 592 = .ok (.aload_n 1, 1) := by decide +kernel
theorem dL_law_593 : decode cL_law 593 = .ok (.invokevirtual 64, 3) := by decide +kernel
theorem dL_law_596 : decode cL_law 596 = .ok (.aload_n 2, 1) := by decide +kernel
theorem dL_law_597 : decode cL_law 597 = .ok (.invokevirtual 67, 3) := by decide +kernel
theorem dL_law_600 : decode cL_law 600 = .ok (.if_icmp .eq 1724, 3) := by decide +kernel
theorem dL_law_603 : decode cL_law 603 = .ok (.iconst 0, 1) := by decide +kernel
theorem dL_law_604 : decode cL_law 604 = .ok (.ireturn, 1) := by decide +kernel
theorem dL_law_605 : decode cL_law 605 = .ok (.aload_n 1, 1) := by decide +kernel
theorem dL_law_606 : decode cL_law 606 = .ok (.invokevirtual 68, 3) := by decide +kernel
theorem dL_law_609 : decode cL_law 609 = .ok (.aload_n 2, 1) := by decide +kernel
theorem dL_law_610 : decode cL_law 610 = .ok (.invokevirtual 71, 3) := by decide +kernel
theorem dL_law_613 : decode cL_law 613 = .ok (.if_icmp .eq 1711, 3) := by decide +kernel
theorem dL_law_616 : decode cL_law 616 = .ok (.iconst 0, 1) := by decide +kernel
theorem dL_law_617 : decode cL_law 617 = .ok (.ireturn, 1) := by decide +kernel
theorem dL_law_618 : decode cL_law 618 = .ok (.aload_n 1, 1) := by decide +kernel
theorem dL_law_619 : decode cL_law 619 = .ok (.aload_n 0, 1) := by decide +kernel
theorem dL_law_620 : decode cL_law 620 = .ok (.iload_n 3, 1) := by decide +kernel
theorem dL_law_621 : decode cL_law 621 = .ok (.iconst 1, 1) := by decide +kernel
theorem dL_law_622 : decode cL_law 622 = .ok (.iadd, 1) := by decide +kernel
theorem dL_law_623 : decode cL_law 623 = .ok (.iaload, 1) := by decide +kernel
theorem dL_law_624 : decode cL_law 624 = .ok (.invokevirtual 72, 3) := by decide +kernel
theorem dL_law_627 : decode cL_law 627 = .ok (.aload_n 2, 1) := by decide +kernel
theorem dL_law_628 : decode cL_law 628 = .ok (.aload_n 0, 1) := by decide +kernel
theorem dL_law_629 : decode cL_law 629 = .ok (.iload_n 3, 1) := by decide +kernel
theorem dL_law_630 : decode cL_law 630 = .ok (.iconst 1, 1) := by decide +kernel
theorem dL_law_631 : decode cL_law 631 = .ok (.iadd, 1) := by decide +kernel
theorem dL_law_632 : decode cL_law 632 = .ok (.iaload, 1) := by decide +kernel
theorem dL_law_633 : decode cL_law 633 = .ok (.invokevirtual 75, 3) := by decide +kernel
theorem dL_law_636 : decode cL_law 636 = .ok (.if_icmp .eq 1688, 3) := by decide +kernel
theorem dL_law_639 : decode cL_law 639 = .ok (.iconst 0, 1) := by decide +kernel
theorem dL_law_640 : decode cL_law 640 = .ok (.ireturn, 1) := by decide +kernel
theorem dL_law_641 : decode cL_law 641 = .ok (.aload_n 1, 1) := by decide +kernel
theorem dL_law_642 : decode cL_law 642 = .ok (.aload_n 0, 1) := by decide +kernel
theorem dL_law_643 : decode cL_law 643 = .ok (.iload_n 3, 1) := by decide +kernel
theorem dL_law_644 : decode cL_law 644 = .ok (.iconst 1, 1) := by decide +kernel
theorem dL_law_645 : decode cL_law 645 = .ok (.iadd, 1) := by decide +kernel
theorem dL_law_646 : decode cL_law 646 = .ok (.iaload, 1) := by decide +kernel
theorem dL_law_647 : decode cL_law 647 = .ok (.aload_n 0, 1) := by decide +kernel
theorem dL_law_648 : decode cL_law 648 = .ok (.iload_n 3, 1) := by decide +kernel
theorem dL_law_649 : decode cL_law 649 = .ok (.iconst 2, 1) := by decide +kernel
theorem dL_law_650 : decode cL_law 650 = .ok (.iadd, 1) := by decide +kernel
theorem dL_law_651 : decode cL_law 651 = .ok (.iaload, 1) := by decide +kernel
theorem dL_law_652 : decode cL_law 652 = .ok (.invokevirtual 76, 3) := by decide +kernel
theorem dL_law_655 : decode cL_law 655 = .ok (.aload_n 2, 1) := by decide +kernel
theorem dL_law_656 : decode cL_law 656 = .ok (.aload_n 0, 1) := by decide +kernel
theorem dL_law_657 : decode cL_law 657 = .ok (.iload_n 3, 1) := by decide +kernel
theorem dL_law_658 : decode cL_law 658 = .ok (.iconst 1, 1) := by decide +kernel
theorem dL_law_659 : decode cL_law 659 = .ok (.iadd, 1) := by decide +kernel
theorem dL_law_660 : decode cL_law 660 = .ok (.iaload, 1) := by decide +kernel
theorem dL_law_661 : decode cL_law 661 = .ok (.aload_n 0, 1) := by decide +kernel
theorem dL_law_662 : decode cL_law 662 = .ok (.iload_n 3, 1) := by decide +kernel
theorem dL_law_663 : decode cL_law 663 = .ok (.iconst 2, 1) := by decide +kernel
theorem dL_law_664 : decode cL_law 664 = .ok (.iadd, 1) := by decide +kernel
theorem dL_law_665 : decode cL_law 665 = .ok (.iaload, 1) := by decide +kernel
theorem dL_law_666 : decode cL_law 666 = .ok (.invokevirtual 79, 3) := by decide +kernel
theorem dL_law_669 : decode cL_law 669 = .ok (.if_icmp .eq 1655, 3) := by decide +kernel
theorem dL_law_672 : decode cL_law 672 = .ok (.iconst 0, 1) := by decide +kernel
theorem dL_law_673 : decode cL_law 673 = .ok (.ireturn, 1) := by decide +kernel
theorem dL_law_674 : decode cL_law 674 = .ok (.aload_n 1, 1) := by decide +kernel
theorem dL_law_675 : decode cL_law 675 = .ok (.aload_n 0, 1) := by decide +kernel
theorem dL_law_676 : decode cL_law 676 = .ok (.iload_n 3, 1) := by decide +kernel
theorem dL_law_677 : decode cL_law 677 = .ok (.iconst 1, 1) := by decide +kernel
theorem dL_law_678 : decode cL_law 678 = .ok (.iadd, 1) := by decide +kernel
theorem dL_law_679 : decode cL_law 679 = .ok (.iaload, 1) := by decide +kernel
theorem dL_law_680 : decode cL_law 680 = .ok (.invokevirtual 80, 3) := by decide +kernel
theorem dL_law_683 : decode cL_law 683 = .ok (.aload_n 2, 1) := by decide +kernel
theorem dL_law_684 : decode cL_law 684 = .ok (.aload_n 0, 1) := by decide +kernel
theorem dL_law_685 : decode cL_law 685 = .ok (.iload_n 3, 1) := by decide +kernel
theorem dL_law_686 : decode cL_law 686 = .ok (.iconst 1, 1) := by decide +kernel
theorem dL_law_687 : decode cL_law 687 = .ok (.iadd, 1) := by decide +kernel
theorem dL_law_688 : decode cL_law 688 = .ok (.iaload, 1) := by decide +kernel
theorem dL_law_689 : decode cL_law 689 = .ok (.invokevirtual 83, 3) := by decide +kernel
theorem dL_law_692 : decode cL_law 692 = .ok (.if_icmp .eq 1632, 3) := by decide +kernel
theorem dL_law_695 : decode cL_law 695 = .ok (.iconst 0, 1) := by decide +kernel
theorem dL_law_696 : decode cL_law 696 = .ok (.ireturn, 1) := by decide +kernel
theorem dL_law_697 : decode cL_law 697 = .ok (.aload_n 1, 1) := by decide +kernel
theorem dL_law_698 : decode cL_law 698 = .ok (.aload_n 0, 1) := by decide +kernel
theorem dL_law_699 : decode cL_law 699 = .ok (.iload_n 3, 1) := by decide +kernel
theorem dL_law_700 : decode cL_law 700 = .ok (.iconst 1, 1) := by decide +kernel
theorem dL_law_701 : decode cL_law 701 = .ok (.iadd, 1) := by decide +kernel
theorem dL_law_702 : decode cL_law 702 = .ok (.iaload, 1) := by decide +kernel
theorem dL_law_703 : decode cL_law 703 = .ok (.invokevirtual 84, 3) := by decide +kernel
theorem dL_law_706 : decode cL_law 706 = .ok (.aload_n 2, 1) := by decide +kernel
theorem dL_law_707 : decode cL_law 707 = .ok (.aload_n 0, 1) := by decide +kernel
theorem dL_law_708 : decode cL_law 708 = .ok (.iload_n 3, 1) := by decide +kernel
theorem dL_law_709 : decode cL_law 709 = .ok (.iconst 1, 1) := by decide +kernel
theorem dL_law_710 : decode cL_law 710 = .ok (.iadd, 1) := by decide +kernel
theorem dL_law_711 : decode cL_law 711 = .ok (.iaload, 1) := by decide +kernel
theorem dL_law_712 : decode cL_law 712 = .ok (.invokevirtual 87, 3) := by decide +kernel
theorem dL_law_715 : decode cL_law 715 = .ok (.if_icmp .eq 1609, 3) := by decide +kernel
theorem dL_law_718 : decode cL_law 718 = .ok (.iconst 0, 1) := by decide +kernel
theorem dL_law_719 : decode cL_law 719 = .ok (.ireturn, 1) := by decide +kernel
theorem dL_law_720 : decode cL_law 720 = .ok (.aload_n 1, 1) := by decide +kernel
theorem dL_law_721 : decode cL_law 721 = .ok (.aload_n 0, 1) := by decide +kernel
theorem dL_law_722 : decode cL_law 722 = .ok (.iload_n 3, 1) := by decide +kernel
theorem dL_law_723 : decode cL_law 723 = .ok (.iconst 1, 1) := by decide +kernel
theorem dL_law_724 : decode cL_law 724 = .ok (.iadd, 1) := by decide +kernel
theorem dL_law_725 : decode cL_law 725 = .ok (.iaload, 1) := by decide +kernel
theorem dL_law_726 : decode cL_law 726 = .ok (.aload_n 0, 1) := by decide +kernel
theorem dL_law_727 : decode cL_law 727 = .ok (.iload_n 3, 1) := by decide +kernel
theorem dL_law_728 : decode cL_law 728 = .ok (.iconst 2, 1) := by decide +kernel
theorem dL_law_729 : decode cL_law 729 = .ok (.iadd, 1) := by decide +kernel
theorem dL_law_730 : decode cL_law 730 = .ok (.iaload, 1) := by decide +kernel
theorem dL_law_731 : decode cL_law 731 = .ok (.invokevirtual 88, 3) := by decide +kernel
theorem dL_law_734 : decode cL_law 734 = .ok (.aload_n 2, 1) := by decide +kernel
theorem dL_law_735 : decode cL_law 735 = .ok (.aload_n 0, 1) := by decide +kernel
theorem dL_law_736 : decode cL_law 736 = .ok (.iload_n 3, 1) := by decide +kernel
theorem dL_law_737 : decode cL_law 737 = .ok (.iconst 1, 1) := by decide +kernel
theorem dL_law_738 : decode cL_law 738 = .ok (.iadd, 1) := by decide +kernel
theorem dL_law_739 : decode cL_law 739 = .ok (.iaload, 1) := by decide +kernel
theorem dL_law_740 : decode cL_law 740 = .ok (.aload_n 0, 1) := by decide +kernel
theorem dL_law_741 : decode cL_law 741 = .ok (.iload_n 3, 1) := by decide +kernel
theorem dL_law_742 : decode cL_law 742 = .ok (.iconst 2, 1) := by decide +kernel
theorem dL_law_743 : decode cL_law 743 = .ok (.iadd, 1) := by decide +kernel
theorem dL_law_744 : decode cL_law 744 = .ok (.iaload, 1) := by decide +kernel
theorem dL_law_745 : decode cL_law 745 = .ok (.invokevirtual 91, 3) := by decide +kernel
theorem dL_law_748 : decode cL_law 748 = .ok (.if_icmp .eq 1576, 3) := by decide +kernel
theorem dL_law_751 : decode cL_law 751 = .ok (.iconst 0, 1) := by decide +kernel
theorem dL_law_752 : decode cL_law 752 = .ok (.ireturn, 1) := by decide +kernel
theorem dL_law_753 : decode cL_law 753 = .ok (.aload_n 1, 1) := by decide +kernel
theorem dL_law_754 : decode cL_law 754 = .ok (.aload_n 0, 1) := by decide +kernel
theorem dL_law_755 : decode cL_law 755 = .ok (.iload_n 3, 1) := by decide +kernel
theorem dL_law_756 : decode cL_law 756 = .ok (.iconst 1, 1) := by decide +kernel
theorem dL_law_757 : decode cL_law 757 = .ok (.iadd, 1) := by decide +kernel
theorem dL_law_758 : decode cL_law 758 = .ok (.iaload, 1) := by decide +kernel
theorem dL_law_759 : decode cL_law 759 = .ok (.invokevirtual 92, 3) := by decide +kernel
theorem dL_law_762 : decode cL_law 762 = .ok (.aload_n 2, 1) := by decide +kernel
theorem dL_law_763 : decode cL_law 763 = .ok (.aload_n 0, 1) := by decide +kernel
theorem dL_law_764 : decode cL_law 764 = .ok (.iload_n 3, 1) := by decide +kernel
theorem dL_law_765 : decode cL_law 765 = .ok (.iconst 1, 1) := by decide +kernel
theorem dL_law_766 : decode cL_law 766 = .ok (.iadd, 1) := by decide +kernel
theorem dL_law_767 : decode cL_law 767 = .ok (.iaload, 1) := by decide +kernel
theorem dL_law_768 : decode cL_law 768 = .ok (.invokevirtual 95, 3) := by decide +kernel
theorem dL_law_771 : decode cL_law 771 = .ok (.if_icmp .eq 1553, 3) := by decide +kernel
theorem dL_law_774 : decode cL_law 774 = .ok (.iconst 0, 1) := by decide +kernel
theorem dL_law_775 : decode cL_law 775 = .ok (.ireturn, 1) := by decide +kernel
theorem dL_law_776 : decode cL_law 776 = .ok (.aload_n 1, 1) := by decide +kernel
theorem dL_law_777 : decode cL_law 777 = .ok (.aload_n 0, 1) := by decide +kernel
theorem dL_law_778 : decode cL_law 778 = .ok (.iload_n 3, 1) := by decide +kernel
theorem dL_law_779 : decode cL_law 779 = .ok (.iconst 1, 1) := by decide +kernel
theorem dL_law_780 : decode cL_law 780 = .ok (.iadd, 1) := by decide +kernel
theorem dL_law_781 : decode cL_law 781 = .ok (.iaload, 1) := by decide +kernel
theorem dL_law_782 : decode cL_law 782 = .ok (.invokevirtual 96, 3) := by decide +kernel
theorem dL_law_785 : decode cL_law 785 = .ok (.aload_n 2, 1) := by decide +kernel
theorem dL_law_786 : decode cL_law 786 = .ok (.aload_n 0, 1) := by decide +kernel
theorem dL_law_787 : decode cL_law 787 = .ok (.iload_n 3, 1) := by decide +kernel
theorem dL_law_788 : decode cL_law 788 = .ok (.iconst 1, 1) := by decide +kernel
theorem dL_law_789 : decode cL_law 789 = .ok (.iadd, 1) := by decide +kernel
theorem dL_law_790 : decode cL_law 790 = .ok (.iaload, 1) := by decide +kernel
theorem dL_law_791 : decode cL_law 791 = .ok (.invokevirtual 99, 3) := by decide +kernel
theorem dL_law_794 : decode cL_law 794 = .ok (.if_icmp .eq 1530, 3) := by decide +kernel
theorem dL_law_797 : decode cL_law 797 = .ok (.iconst 0, 1) := by decide +kernel
theorem dL_law_798 : decode cL_law 798 = .ok (.ireturn, 1) := by decide +kernel
theorem dL_law_799 : decode cL_law 799 = .ok (.aload_n 1, 1) := by decide +kernel
theorem dL_law_800 : decode cL_law 800 = .ok (.aload_n 0, 1) := by decide +kernel
theorem dL_law_801 : decode cL_law 801 = .ok (.iload_n 3, 1) := by decide +kernel
theorem dL_law_802 : decode cL_law 802 = .ok (.iconst 1, 1) := by decide +kernel
theorem dL_law_803 : decode cL_law 803 = .ok (.iadd, 1) := by decide +kernel
theorem dL_law_804 : decode cL_law 804 = .ok (.iaload, 1) := by decide +kernel
theorem dL_law_805 : decode cL_law 805 = .ok (.aload_n 0, 1) := by decide +kernel
theorem dL_law_806 : decode cL_law 806 = .ok (.iload_n 3, 1) := by decide +kernel
theorem dL_law_807 : decode cL_law 807 = .ok (.iconst 2, 1) := by decide +kernel
theorem dL_law_808 : decode cL_law 808 = .ok (.iadd, 1) := by decide +kernel
theorem dL_law_809 : decode cL_law 809 = .ok (.iaload, 1) := by decide +kernel
theorem dL_law_810 : decode cL_law 810 = .ok (.invokevirtual 100, 3) := by decide +kernel
theorem dL_law_813 : decode cL_law 813 = .ok (.aload_n 2, 1) := by decide +kernel
theorem dL_law_814 : decode cL_law 814 = .ok (.aload_n 0, 1) := by decide +kernel
theorem dL_law_815 : decode cL_law 815 = .ok (.iload_n 3, 1) := by decide +kernel
theorem dL_law_816 : decode cL_law 816 = .ok (.iconst 1, 1) := by decide +kernel
theorem dL_law_817 : decode cL_law 817 = .ok (.iadd, 1) := by decide +kernel
theorem dL_law_818 : decode cL_law 818 = .ok (.iaload, 1) := by decide +kernel
theorem dL_law_819 : decode cL_law 819 = .ok (.aload_n 0, 1) := by decide +kernel
theorem dL_law_820 : decode cL_law 820 = .ok (.iload_n 3, 1) := by decide +kernel
theorem dL_law_821 : decode cL_law 821 = .ok (.iconst 2, 1) := by decide +kernel
theorem dL_law_822 : decode cL_law 822 = .ok (.iadd, 1) := by decide +kernel
theorem dL_law_823 : decode cL_law 823 = .ok (.iaload, 1) := by decide +kernel
theorem dL_law_824 : decode cL_law 824 = .ok (.invokevirtual 103, 3) := by decide +kernel
theorem dL_law_827 : decode cL_law 827 = .ok (.if_icmp .eq 1497, 3) := by decide +kernel
theorem dL_law_830 : decode cL_law 830 = .ok (.iconst 0, 1) := by decide +kernel
theorem dL_law_831 : decode cL_law 831 = .ok (.ireturn, 1) := by decide +kernel
theorem dL_law_832 : decode cL_law 832 = .ok (.aload_n 1, 1) := by decide +kernel
theorem dL_law_833 : decode cL_law 833 = .ok (.aload_n 0, 1) := by decide +kernel
theorem dL_law_834 : decode cL_law 834 = .ok (.iload_n 3, 1) := by decide +kernel
theorem dL_law_835 : decode cL_law 835 = .ok (.iconst 1, 1) := by decide +kernel
theorem dL_law_836 : decode cL_law 836 = .ok (.iadd, 1) := by decide +kernel
theorem dL_law_837 : decode cL_law 837 = .ok (.iaload, 1) := by decide +kernel
theorem dL_law_838 : decode cL_law 838 = .ok (.aload_n 0, 1) := by decide +kernel
theorem dL_law_839 : decode cL_law 839 = .ok (.iload_n 3, 1) := by decide +kernel
theorem dL_law_840 : decode cL_law 840 = .ok (.iconst 2, 1) := by decide +kernel
theorem dL_law_841 : decode cL_law 841 = .ok (.iadd, 1) := by decide +kernel
theorem dL_law_842 : decode cL_law 842 = .ok (.iaload, 1) := by decide +kernel
theorem dL_law_843 : decode cL_law 843 = .ok (.invokevirtual 104, 3) := by decide +kernel
theorem dL_law_846 : decode cL_law 846 = .ok (.aload_n 2, 1) := by decide +kernel
theorem dL_law_847 : decode cL_law 847 = .ok (.aload_n 0, 1) := by decide +kernel
theorem dL_law_848 : decode cL_law 848 = .ok (.iload_n 3, 1) := by decide +kernel
theorem dL_law_849 : decode cL_law 849 = .ok (.iconst 1, 1) := by decide +kernel
theorem dL_law_850 : decode cL_law 850 = .ok (.iadd, 1) := by decide +kernel
theorem dL_law_851 : decode cL_law 851 = .ok (.iaload, 1) := by decide +kernel
theorem dL_law_852 : decode cL_law 852 = .ok (.aload_n 0, 1) := by decide +kernel
theorem dL_law_853 : decode cL_law 853 = .ok (.iload_n 3, 1) := by decide +kernel
theorem dL_law_854 : decode cL_law 854 = .ok (.iconst 2, 1) := by decide +kernel
theorem dL_law_855 : decode cL_law 855 = .ok (.iadd, 1) := by decide +kernel
theorem dL_law_856 : decode cL_law 856 = .ok (.iaload, 1) := by decide +kernel
theorem dL_law_857 : decode cL_law 857 = .ok (.invokevirtual 107, 3) := by decide +kernel
theorem dL_law_860 : decode cL_law 860 = .ok (.if_icmp .eq 1464, 3) := by decide +kernel
theorem dL_law_863 : decode cL_law 863 = .ok (.iconst 0, 1) := by decide +kernel
theorem dL_law_864 : decode cL_law 864 = .ok (.ireturn, 1) := by decide +kernel
theorem dL_law_865 : decode cL_law 865 = .ok (.aload_n 1, 1) := by decide +kernel
theorem dL_law_866 : decode cL_law 866 = .ok (.aload_n 0, 1) := by decide +kernel
theorem dL_law_867 : decode cL_law 867 = .ok (.iload_n 3, 1) := by decide +kernel
theorem dL_law_868 : decode cL_law 868 = .ok (.iconst 1, 1) := by decide +kernel
theorem dL_law_869 : decode cL_law 869 = .ok (.iadd, 1) := by decide +kernel
theorem dL_law_870 : decode cL_law 870 = .ok (.iaload, 1) := by decide +kernel
theorem dL_law_871 : decode cL_law 871 = .ok (.aload_n 0, 1) := by decide +kernel
theorem dL_law_872 : decode cL_law 872 = .ok (.iload_n 3, 1) := by decide +kernel
theorem dL_law_873 : decode cL_law 873 = .ok (.iconst 2, 1) := by decide +kernel
theorem dL_law_874 : decode cL_law 874 = .ok (.iadd, 1) := by decide +kernel
theorem dL_law_875 : decode cL_law 875 = .ok (.iaload, 1) := by decide +kernel
theorem dL_law_876 : decode cL_law 876 = .ok (.invokevirtual 108, 3) := by decide +kernel
theorem dL_law_879 : decode cL_law 879 = .ok (.aload_n 2, 1) := by decide +kernel
theorem dL_law_880 : decode cL_law 880 = .ok (.aload_n 0, 1) := by decide +kernel
theorem dL_law_881 : decode cL_law 881 = .ok (.iload_n 3, 1) := by decide +kernel
theorem dL_law_882 : decode cL_law 882 = .ok (.iconst 1, 1) := by decide +kernel
theorem dL_law_883 : decode cL_law 883 = .ok (.iadd, 1) := by decide +kernel
theorem dL_law_884 : decode cL_law 884 = .ok (.iaload, 1) := by decide +kernel
theorem dL_law_885 : decode cL_law 885 = .ok (.aload_n 0, 1) := by decide +kernel
theorem dL_law_886 : decode cL_law 886 = .ok (.iload_n 3, 1) := by decide +kernel
theorem dL_law_887 : decode cL_law 887 = .ok (.iconst 2, 1) := by decide +kernel
theorem dL_law_888 : decode cL_law 888 = .ok (.iadd, 1) := by decide +kernel
theorem dL_law_889 : decode cL_law 889 = .ok (.iaload, 1) := by decide +kernel
theorem dL_law_890 : decode cL_law 890 = .ok (.invokevirtual 111, 3) := by decide +kernel
theorem dL_law_893 : decode cL_law 893 = .ok (.if_icmp .eq 1431, 3) := by decide +kernel
theorem dL_law_896 : decode cL_law 896 = .ok (.iconst 0, 1) := by decide +kernel
theorem dL_law_897 : decode cL_law 897 = .ok (.ireturn, 1) := by decide +kernel
theorem dL_law_898 : decode cL_law 898 = .ok (.aload_n 1, 1) := by decide +kernel
theorem dL_law_899 : decode cL_law 899 = .ok (.aload_n 0, 1) := by decide +kernel
theorem dL_law_900 : decode cL_law 900 = .ok (.iload_n 3, 1) := by decide +kernel
theorem dL_law_901 : decode cL_law 901 = .ok (.iconst 1, 1) := by decide +kernel
theorem dL_law_902 : decode cL_law 902 = .ok (.iadd, 1) := by decide +kernel
theorem dL_law_903 : decode cL_law 903 = .ok (.iaload, 1) := by decide +kernel
theorem dL_law_904 : decode cL_law 904 = .ok (.aload_n 0, 1) := by decide +kernel
theorem dL_law_905 : decode cL_law 905 = .ok (.iload_n 3, 1) := by decide +kernel
theorem dL_law_906 : decode cL_law 906 = .ok (.iconst 2, 1) := by decide +kernel
theorem dL_law_907 : decode cL_law 907 = .ok (.iadd, 1) := by decide +kernel
theorem dL_law_908 : decode cL_law 908 = .ok (.iaload, 1) := by decide +kernel
theorem dL_law_909 : decode cL_law 909 = .ok (.invokevirtual 112, 3) := by decide +kernel
theorem dL_law_912 : decode cL_law 912 = .ok (.aload_n 2, 1) := by decide +kernel
theorem dL_law_913 : decode cL_law 913 = .ok (.aload_n 0, 1) := by decide +kernel
theorem dL_law_914 : decode cL_law 914 = .ok (.iload_n 3, 1) := by decide +kernel
theorem dL_law_915 : decode cL_law 915 = .ok (.iconst 1, 1) := by decide +kernel
theorem dL_law_916 : decode cL_law 916 = .ok (.iadd, 1) := by decide +kernel
theorem dL_law_917 : decode cL_law 917 = .ok (.iaload, 1) := by decide +kernel
theorem dL_law_918 : decode cL_law 918 = .ok (.aload_n 0, 1) := by decide +kernel
theorem dL_law_919 : decode cL_law 919 = .ok (.iload_n 3, 1) := by decide +kernel
theorem dL_law_920 : decode cL_law 920 = .ok (.iconst 2, 1) := by decide +kernel
theorem dL_law_921 : decode cL_law 921 = .ok (.iadd, 1) := by decide +kernel
theorem dL_law_922 : decode cL_law 922 = .ok (.iaload, 1) := by decide +kernel
theorem dL_law_923 : decode cL_law 923 = .ok (.invokevirtual 115, 3) := by decide +kernel
theorem dL_law_926 : decode cL_law 926 = .ok (.if_icmp .eq 1398, 3) := by decide +kernel
theorem dL_law_929 : decode cL_law 929 = .ok (.iconst 0, 1) := by decide +kernel
theorem dL_law_930 : decode cL_law 930 = .ok (.ireturn, 1) := by decide +kernel
theorem dL_law_931 : decode cL_law 931 = .ok (.aload_n 1, 1) := by decide +kernel
theorem dL_law_932 : decode cL_law 932 = .ok (.aload_n 0, 1) := by decide +kernel
theorem dL_law_933 : decode cL_law 933 = .ok (.iload_n 3, 1) := by decide +kernel
theorem dL_law_934 : decode cL_law 934 = .ok (.iconst 1, 1) := by decide +kernel
theorem dL_law_935 : decode cL_law 935 = .ok (.iadd, 1) := by decide +kernel
theorem dL_law_936 : decode cL_law 936 = .ok (.iaload, 1) := by decide +kernel
theorem dL_law_937 : decode cL_law 937 = .ok (.invokevirtual 116, 3) := by decide +kernel
theorem dL_law_940 : decode cL_law 940 = .ok (.aload_n 2, 1) := by decide +kernel
theorem dL_law_941 : decode cL_law 941 = .ok (.aload_n 0, 1) := by decide +kernel
theorem dL_law_942 : decode cL_law 942 = .ok (.iload_n 3, 1) := by decide +kernel
theorem dL_law_943 : decode cL_law 943 = .ok (.iconst 1, 1) := by decide +kernel
theorem dL_law_944 : decode cL_law 944 = .ok (.iadd, 1) := by decide +kernel
theorem dL_law_945 : decode cL_law 945 = .ok (.iaload, 1) := by decide +kernel
theorem dL_law_946 : decode cL_law 946 = .ok (.invokevirtual 119, 3) := by decide +kernel
theorem dL_law_949 : decode cL_law 949 = .ok (.if_icmp .eq 1375, 3) := by decide +kernel
theorem dL_law_952 : decode cL_law 952 = .ok (.iconst 0, 1) := by decide +kernel
theorem dL_law_953 : decode cL_law 953 = .ok (.ireturn, 1) := by decide +kernel
theorem dL_law_954 : decode cL_law 954 = .ok (.aload_n 1, 1) := by decide +kernel
theorem dL_law_955 : decode cL_law 955 = .ok (.aload_n 0, 1) := by decide +kernel
theorem dL_law_956 : decode cL_law 956 = .ok (.iload_n 3, 1) := by decide +kernel
theorem dL_law_957 : decode cL_law 957 = .ok (.iconst 1, 1) := by decide +kernel
theorem dL_law_958 : decode cL_law 958 = .ok (.iadd, 1) := by decide +kernel
theorem dL_law_959 : decode cL_law 959 = .ok (.iaload, 1) := by decide +kernel
theorem dL_law_960 : decode cL_law 960 = .ok (.aload_n 0, 1) := by decide +kernel
theorem dL_law_961 : decode cL_law 961 = .ok (.iload_n 3, 1) := by decide +kernel
theorem dL_law_962 : decode cL_law 962 = .ok (.iconst 2, 1) := by decide +kernel
theorem dL_law_963 : decode cL_law 963 = .ok (.iadd, 1) := by decide +kernel
theorem dL_law_964 : decode cL_law 964 = .ok (.iaload, 1) := by decide +kernel
theorem dL_law_965 : decode cL_law 965 = .ok (.invokevirtual 120, 3) := by decide +kernel
theorem dL_law_968 : decode cL_law 968 = .ok (.aload_n 2, 1) := by decide +kernel
theorem dL_law_969 : decode cL_law 969 = .ok (.aload_n 0, 1) := by decide +kernel
theorem dL_law_970 : decode cL_law 970 = .ok (.iload_n 3, 1) := by decide +kernel
theorem dL_law_971 : decode cL_law 971 = .ok (.iconst 1, 1) := by decide +kernel
theorem dL_law_972 : decode cL_law 972 = .ok (.iadd, 1) := by decide +kernel
theorem dL_law_973 : decode cL_law 973 = .ok (.iaload, 1) := by decide +kernel
theorem dL_law_974 : decode cL_law 974 = .ok (.aload_n 0, 1) := by decide +kernel
theorem dL_law_975 : decode cL_law 975 = .ok (.iload_n 3, 1) := by decide +kernel
theorem dL_law_976 : decode cL_law 976 = .ok (.iconst 2, 1) := by decide +kernel
theorem dL_law_977 : decode cL_law 977 = .ok (.iadd, 1) := by decide +kernel
theorem dL_law_978 : decode cL_law 978 = .ok (.iaload, 1) := by decide +kernel
theorem dL_law_979 : decode cL_law 979 = .ok (.invokevirtual 123, 3) := by decide +kernel
theorem dL_law_982 : decode cL_law 982 = .ok (.if_icmp .eq 1342, 3) := by decide +kernel
theorem dL_law_985 : decode cL_law 985 = .ok (.iconst 0, 1) := by decide +kernel
theorem dL_law_986 : decode cL_law 986 = .ok (.ireturn, 1) := by decide +kernel
theorem dL_law_987 : decode cL_law 987 = .ok (.aload_n 1, 1) := by decide +kernel
theorem dL_law_988 : decode cL_law 988 = .ok (.aload_n 0, 1) := by decide +kernel
theorem dL_law_989 : decode cL_law 989 = .ok (.iload_n 3, 1) := by decide +kernel
theorem dL_law_990 : decode cL_law 990 = .ok (.iconst 1, 1) := by decide +kernel
theorem dL_law_991 : decode cL_law 991 = .ok (.iadd, 1) := by decide +kernel
theorem dL_law_992 : decode cL_law 992 = .ok (.iaload, 1) := by decide +kernel
theorem dL_law_993 : decode cL_law 993 = .ok (.invokevirtual 124, 3) := by decide +kernel
theorem dL_law_996 : decode cL_law 996 = .ok (.aload_n 2, 1) := by decide +kernel
theorem dL_law_997 : decode cL_law 997 = .ok (.aload_n 0, 1) := by decide +kernel
theorem dL_law_998 : decode cL_law 998 = .ok (.iload_n 3, 1) := by decide +kernel
theorem dL_law_999 : decode cL_law 999 = .ok (.iconst 1, 1) := by decide +kernel
theorem dL_law_1000 : decode cL_law 1000 = .ok (.iadd, 1) := by decide +kernel
theorem dL_law_1001 : decode cL_law 1001 = .ok (.iaload, 1) := by decide +kernel
theorem dL_law_1002 : decode cL_law 1002 = .ok (.invokevirtual 127, 3) := by decide +kernel
theorem dL_law_1005 : decode cL_law 1005 = .ok (.if_icmp .eq 1319, 3) := by decide +kernel
theorem dL_law_1008 : decode cL_law 1008 = .ok (.iconst 0, 1) := by decide +kernel
theorem dL_law_1009 : decode cL_law 1009 = .ok (.ireturn, 1) := by decide +kernel
theorem dL_law_1010 : decode cL_law 1010 = .ok (.aload_n 1, 1) := by decide +kernel
theorem dL_law_1011 : decode cL_law 1011 = .ok (.aload_n 0, 1) := by decide +kernel
theorem dL_law_1012 : decode cL_law 1012 = .ok (.iload_n 3, 1) := by decide +kernel
theorem dL_law_1013 : decode cL_law 1013 = .ok (.iconst 1, 1) := by decide +kernel
theorem dL_law_1014 : decode cL_law 1014 = .ok (.iadd, 1) := by decide +kernel
theorem dL_law_1015 : decode cL_law 1015 = .ok (.iaload, 1) := by decide +kernel
theorem dL_law_1016 : decode cL_law 1016 = .ok (.aload_n 0, 1) := by decide +kernel
theorem dL_law_1017 : decode cL_law 1017 = .ok (.iload_n 3, 1) := by decide +kernel
theorem dL_law_1018 : decode cL_law 1018 = .ok (.iconst 2, 1) := by decide +kernel
theorem dL_law_1019 : decode cL_law 1019 = .ok (.iadd, 1) := by decide +kernel
theorem dL_law_1020 : decode cL_law 1020 = .ok (.iaload, 1) := by decide +kernel
theorem dL_law_1021 : decode cL_law 1021 = .ok (.invokevirtual 128, 3) := by decide +kernel
theorem dL_law_1024 : decode cL_law 1024 = .ok (.aload_n 2, 1) := by decide +kernel
theorem dL_law_1025 : decode cL_law 1025 = .ok (.aload_n 0, 1) := by decide +kernel
theorem dL_law_1026 : decode cL_law 1026 = .ok (.iload_n 3, 1) := by decide +kernel
theorem dL_law_1027 : decode cL_law 1027 = .ok (.iconst 1, 1) := by decide +kernel
theorem dL_law_1028 : decode cL_law 1028 = .ok (.iadd, 1) := by decide +kernel
theorem dL_law_1029 : decode cL_law 1029 = .ok (.iaload, 1) := by decide +kernel
theorem dL_law_1030 : decode cL_law 1030 = .ok (.aload_n 0, 1) := by decide +kernel
theorem dL_law_1031 : decode cL_law 1031 = .ok (.iload_n 3, 1) := by decide +kernel
theorem dL_law_1032 : decode cL_law 1032 = .ok (.iconst 2, 1) := by decide +kernel
theorem dL_law_1033 : decode cL_law 1033 = .ok (.iadd, 1) := by decide +kernel
theorem dL_law_1034 : decode cL_law 1034 = .ok (.iaload, 1) := by decide +kernel
theorem dL_law_1035 : decode cL_law 1035 = .ok (.invokevirtual 131, 3) := by decide +kernel
theorem dL_law_1038 : decode cL_law 1038 = .ok (.if_icmp .eq 1286, 3) := by decide +kernel
theorem dL_law_1041 : decode cL_law 1041 = .ok (.iconst 0, 1) := by decide +kernel
theorem dL_law_1042 : decode cL_law 1042 = .ok (.ireturn, 1) := by decide +kernel
theorem dL_law_1043 : decode cL_law 1043 = .ok (.aload_n 1, 1) := by decide +kernel
theorem dL_law_1044 : decode cL_law 1044 = .ok (.aload_n 0, 1) := by decide +kernel
theorem dL_law_1045 : decode cL_law 1045 = .ok (.iload_n 3, 1) := by decide +kernel
theorem dL_law_1046 : decode cL_law 1046 = .ok (.iconst 1, 1) := by decide +kernel
theorem dL_law_1047 : decode cL_law 1047 = .ok (.iadd, 1) := by decide +kernel
theorem dL_law_1048 : decode cL_law 1048 = .ok (.iaload, 1) := by decide +kernel
theorem dL_law_1049 : decode cL_law 1049 = .ok (.invokevirtual 132, 3) := by decide +kernel
theorem dL_law_1052 : decode cL_law 1052 = .ok (.aload_n 2, 1) := by decide +kernel
theorem dL_law_1053 : decode cL_law 1053 = .ok (.aload_n 0, 1) := by decide +kernel
theorem dL_law_1054 : decode cL_law 1054 = .ok (.iload_n 3, 1) := by decide +kernel
theorem dL_law_1055 : decode cL_law 1055 = .ok (.iconst 1, 1) := by decide +kernel
theorem dL_law_1056 : decode cL_law 1056 = .ok (.iadd, 1) := by decide +kernel
theorem dL_law_1057 : decode cL_law 1057 = .ok (.iaload, 1) := by decide +kernel
theorem dL_law_1058 : decode cL_law 1058 = .ok (.invokevirtual 135, 3) := by decide +kernel
theorem dL_law_1061 : decode cL_law 1061 = .ok (.if_icmp .eq 1263, 3) := by decide +kernel
theorem dL_law_1064 : decode cL_law 1064 = .ok (.iconst 0, 1) := by decide +kernel
theorem dL_law_1065 : decode cL_law 1065 = .ok (.ireturn, 1) := by decide +kernel
theorem dL_law_1066 : decode cL_law 1066 = .ok (.aload_n 1, 1) := by decide +kernel
theorem dL_law_1067 : decode cL_law 1067 = .ok (.aload_n 0, 1) := by decide +kernel
theorem dL_law_1068 : decode cL_law 1068 = .ok (.iload_n 3, 1) := by decide +kernel
theorem dL_law_1069 : decode cL_law 1069 = .ok (.iconst 1, 1) := by decide +kernel
theorem dL_law_1070 : decode cL_law 1070 = .ok (.iadd, 1) := by decide +kernel
theorem dL_law_1071 : decode cL_law 1071 = .ok (.iaload, 1) := by decide +kernel
theorem dL_law_1072 : decode cL_law 1072 = .ok (.invokevirtual 136, 3) := by decide +kernel
theorem dL_law_1075 : decode cL_law 1075 = .ok (.aload_n 2, 1) := by decide +kernel
theorem dL_law_1076 : decode cL_law 1076 = .ok (.aload_n 0, 1) := by decide +kernel
theorem dL_law_1077 : decode cL_law 1077 = .ok (.iload_n 3, 1) := by decide +kernel
theorem dL_law_1078 : decode cL_law 1078 = .ok (.iconst 1, 1) := by decide +kernel
theorem dL_law_1079 : decode cL_law 1079 = .ok (.iadd, 1) := by decide +kernel
theorem dL_law_1080 : decode cL_law 1080 = .ok (.iaload, 1) := by decide +kernel
theorem dL_law_1081 : decode cL_law 1081 = .ok (.invokevirtual 139, 3) := by decide +kernel
theorem dL_law_1084 : decode cL_law 1084 = .ok (.if_icmp .eq 1240, 3) := by decide +kernel
theorem dL_law_1087 : decode cL_law 1087 = .ok (.iconst 0, 1) := by decide +kernel
theorem dL_law_1088 : decode cL_law 1088 = .ok (.ireturn, 1) := by decide +kernel
theorem dL_law_1089 : decode cL_law 1089 = .ok (.aload_n 1, 1) := by decide +kernel
theorem dL_law_1090 : decode cL_law 1090 = .ok (.aload_n 0, 1) := by decide +kernel
theorem dL_law_1091 : decode cL_law 1091 = .ok (.iload_n 3, 1) := by decide +kernel
theorem dL_law_1092 : decode cL_law 1092 = .ok (.iconst 1, 1) := by decide +kernel
theorem dL_law_1093 : decode cL_law 1093 = .ok (.iadd, 1) := by decide +kernel
theorem dL_law_1094 : decode cL_law 1094 = .ok (.iaload, 1) := by decide +kernel
theorem dL_law_1095 : decode cL_law 1095 = .ok (.aload_n 0, 1) := by decide +kernel
theorem dL_law_1096 : decode cL_law 1096 = .ok (.iload_n 3, 1) := by decide +kernel
theorem dL_law_1097 : decode cL_law 1097 = .ok (.iconst 2, 1) := by decide +kernel
theorem dL_law_1098 : decode cL_law 1098 = .ok (.iadd, 1) := by decide +kernel
theorem dL_law_1099 : decode cL_law 1099 = .ok (.iaload, 1) := by decide +kernel
theorem dL_law_1100 : decode cL_law 1100 = .ok (.invokevirtual 140, 3) := by decide +kernel
theorem dL_law_1103 : decode cL_law 1103 = .ok (.aload_n 2, 1) := by decide +kernel
theorem dL_law_1104 : decode cL_law 1104 = .ok (.aload_n 0, 1) := by decide +kernel
theorem dL_law_1105 : decode cL_law 1105 = .ok (.iload_n 3, 1) := by decide +kernel
theorem dL_law_1106 : decode cL_law 1106 = .ok (.iconst 1, 1) := by decide +kernel
theorem dL_law_1107 : decode cL_law 1107 = .ok (.iadd, 1) := by decide +kernel
theorem dL_law_1108 : decode cL_law 1108 = .ok (.iaload, 1) := by decide +kernel
theorem dL_law_1109 : decode cL_law 1109 = .ok (.aload_n 0, 1) := by decide +kernel
theorem dL_law_1110 : decode cL_law 1110 = .ok (.iload_n 3, 1) := by decide +kernel
theorem dL_law_1111 : decode cL_law 1111 = .ok (.iconst 2, 1) := by decide +kernel
theorem dL_law_1112 : decode cL_law 1112 = .ok (.iadd, 1) := by decide +kernel
theorem dL_law_1113 : decode cL_law 1113 = .ok (.iaload, 1) := by decide +kernel
theorem dL_law_1114 : decode cL_law 1114 = .ok (.invokevirtual 143, 3) := by decide +kernel
theorem dL_law_1117 : decode cL_law 1117 = .ok (.if_icmp .eq 1207, 3) := by decide +kernel
theorem dL_law_1120 : decode cL_law 1120 = .ok (.iconst 0, 1) := by decide +kernel
theorem dL_law_1121 : decode cL_law 1121 = .ok (.ireturn, 1) := by decide +kernel
theorem dL_law_1122 : decode cL_law 1122 = .ok (.aload_n 1, 1) := by decide +kernel
theorem dL_law_1123 : decode cL_law 1123 = .ok (.aload_n 0, 1) := by decide +kernel
theorem dL_law_1124 : decode cL_law 1124 = .ok (.iload_n 3, 1) := by decide +kernel
theorem dL_law_1125 : decode cL_law 1125 = .ok (.iconst 1, 1) := by decide +kernel
theorem dL_law_1126 : decode cL_law 1126 = .ok (.iadd, 1) := by decide +kernel
theorem dL_law_1127 : decode cL_law 1127 = .ok (.iaload, 1) := by decide +kernel
theorem dL_law_1128 : decode cL_law 1128 = .ok (.aload_n 0, 1) := by decide +kernel
theorem dL_law_1129 : decode cL_law 1129 = .ok (.iload_n 3, 1) := by decide +kernel
theorem dL_law_1130 : decode cL_law 1130 = .ok (.iconst 2, 1) := by decide +kernel
theorem dL_law_1131 : decode cL_law 1131 = .ok (.iadd, 1) := by decide +kernel
theorem dL_law_1132 : decode cL_law 1132 = .ok (.iaload, 1) := by decide +kernel
theorem dL_law_1133 : decode cL_law 1133 = .ok (.invokevirtual 144, 3) := by decide +kernel
theorem dL_law_1136 : decode cL_law 1136 = .ok (.aload_n 2, 1) := by decide +kernel
theorem dL_law_1137 : decode cL_law 1137 = .ok (.aload_n 0, 1) := by decide +kernel
theorem dL_law_1138 : decode cL_law 1138 = .ok (.iload_n 3, 1) := by decide +kernel
theorem dL_law_1139 : decode cL_law 1139 = .ok (.iconst 1, 1) := by decide +kernel
theorem dL_law_1140 : decode cL_law 1140 = .ok (.iadd, 1) := by decide +kernel
theorem dL_law_1141 : decode cL_law 1141 = .ok (.iaload, 1) := by decide +kernel
theorem dL_law_1142 : decode cL_law 1142 = .ok (.aload_n 0, 1) := by decide +kernel
theorem dL_law_1143 : decode cL_law 1143 = .ok (.iload_n 3, 1) := by decide +kernel
theorem dL_law_1144 : decode cL_law 1144 = .ok (.iconst 2, 1) := by decide +kernel
theorem dL_law_1145 : decode cL_law 1145 = .ok (.iadd, 1) := by decide +kernel
theorem dL_law_1146 : decode cL_law 1146 = .ok (.iaload, 1) := by decide +kernel
theorem dL_law_1147 : decode cL_law 1147 = .ok (.invokevirtual 147, 3) := by decide +kernel
theorem dL_law_1150 : decode cL_law 1150 = .ok (.if_icmp .eq 1174, 3) := by decide +kernel
theorem dL_law_1153 : decode cL_law 1153 = .ok (.iconst 0, 1) := by decide +kernel
theorem dL_law_1154 : decode cL_law 1154 = .ok (.ireturn, 1) := by decide +kernel
theorem dL_law_1155 : decode cL_law 1155 = .ok (.aload_n 1, 1) := by decide +kernel
theorem dL_law_1156 : decode cL_law 1156 = .ok (.aload_n 0, 1) := by decide +kernel
theorem dL_law_1157 : decode cL_law 1157 = .ok (.iload_n 3, 1) := by decide +kernel
theorem dL_law_1158 : decode cL_law 1158 = .ok (.iconst 1, 1) := by decide +kernel
theorem dL_law_1159 : decode cL_law 1159 = .ok (.iadd, 1) := by decide +kernel
theorem dL_law_1160 : decode cL_law 1160 = .ok (.iaload, 1) := by decide +kernel
theorem dL_law_1161 : decode cL_law 1161 = .ok (.aload_n 0, 1) := by decide +kernel
theorem dL_law_1162 : decode cL_law 1162 = .ok (.iload_n 3, 1) := by decide +kernel
theorem dL_law_1163 : decode cL_law 1163 = .ok (.iconst 2, 1) := by decide +kernel
theorem dL_law_1164 : decode cL_law 1164 = .ok (.iadd, 1) := by decide +kernel
theorem dL_law_1165 : decode cL_law 1165 = .ok (.iaload, 1) := by decide +kernel
theorem dL_law_1166 : decode cL_law 1166 = .ok (.aload_n 0, 1) := by decide +kernel
theorem dL_law_1167 : decode cL_law 1167 = .ok (.iload_n 3, 1) := by decide +kernel
theorem dL_law_1168 : decode cL_law 1168 = .ok (.iconst 3, 1) := by decide +kernel
theorem dL_law_1169 : decode cL_law 1169 = .ok (.iadd, 1) := by decide +kernel
theorem dL_law_1170 : decode cL_law 1170 = .ok (.iaload, 1) := by decide +kernel
theorem dL_law_1171 : decode cL_law 1171 = .ok (.invokevirtual 148, 3) := by decide +kernel
theorem dL_law_1174 : decode cL_law 1174 = .ok (.aload_n 2, 1) := by decide +kernel
theorem dL_law_1175 : decode cL_law 1175 = .ok (.aload_n 0, 1) := by decide +kernel
theorem dL_law_1176 : decode cL_law 1176 = .ok (.iload_n 3, 1) := by decide +kernel
theorem dL_law_1177 : decode cL_law 1177 = .ok (.iconst 1, 1) := by decide +kernel
theorem dL_law_1178 : decode cL_law 1178 = .ok (.iadd, 1) := by decide +kernel
theorem dL_law_1179 : decode cL_law 1179 = .ok (.iaload, 1) := by decide +kernel
theorem dL_law_1180 : decode cL_law 1180 = .ok (.aload_n 0, 1) := by decide +kernel
theorem dL_law_1181 : decode cL_law 1181 = .ok (.iload_n 3, 1) := by decide +kernel
theorem dL_law_1182 : decode cL_law 1182 = .ok (.iconst 2, 1) := by decide +kernel
theorem dL_law_1183 : decode cL_law 1183 = .ok (.iadd, 1) := by decide +kernel
theorem dL_law_1184 : decode cL_law 1184 = .ok (.iaload, 1) := by decide +kernel
theorem dL_law_1185 : decode cL_law 1185 = .ok (.aload_n 0, 1) := by decide +kernel
theorem dL_law_1186 : decode cL_law 1186 = .ok (.iload_n 3, 1) := by decide +kernel
theorem dL_law_1187 : decode cL_law 1187 = .ok (.iconst 3, 1) := by decide +kernel
theorem dL_law_1188 : decode cL_law 1188 = .ok (.iadd, 1) := by decide +kernel
theorem dL_law_1189 : decode cL_law 1189 = .ok (.iaload, 1) := by decide +kernel
theorem dL_law_1190 : decode cL_law 1190 = .ok (.invokevirtual 152, 3) := by decide +kernel
theorem dL_law_1193 : decode cL_law 1193 = .ok (.if_icmp .eq 1131, 3) := by decide +kernel
theorem dL_law_1196 : decode cL_law 1196 = .ok (.iconst 0, 1) := by decide +kernel
theorem dL_law_1197 : decode cL_law 1197 = .ok (.ireturn, 1) := by decide +kernel
theorem dL_law_1198 : decode cL_law 1198 = .ok (.aload_n 1, 1) := by decide +kernel
theorem dL_law_1199 : decode cL_law 1199 = .ok (.aload_n 0, 1) := by decide +kernel
theorem dL_law_1200 : decode cL_law 1200 = .ok (.iload_n 3, 1) := by decide +kernel
theorem dL_law_1201 : decode cL_law 1201 = .ok (.iconst 1, 1) := by decide +kernel
theorem dL_law_1202 : decode cL_law 1202 = .ok (.iadd, 1) := by decide +kernel
theorem dL_law_1203 : decode cL_law 1203 = .ok (.iaload, 1) := by decide +kernel
theorem dL_law_1204 : decode cL_law 1204 = .ok (.aload_n 0, 1) := by decide +kernel
theorem dL_law_1205 : decode cL_law 1205 = .ok (.iload_n 3, 1) := by decide +kernel
theorem dL_law_1206 : decode cL_law 1206 = .ok (.iconst 2, 1) := by decide +kernel
theorem dL_law_1207 : decode cL_law 1207 = .ok (.iadd, 1) := by decide +kernel
theorem dL_law_1208 : decode cL_law 1208 = .ok (.iaload, 1) := by decide +kernel
theorem dL_law_1209 : decode cL_law 1209 = .ok (.aload_n 0, 1) := by decide +kernel
theorem dL_law_1210 : decode cL_law 1210 = .ok (.iload_n 3, 1) := by decide +kernel
theorem dL_law_1211 : decode cL_law 1211 = .ok (.iconst 3, 1) := by decide +kernel
theorem dL_law_1212 : decode cL_law 1212 = .ok (.iadd, 1) := by decide +kernel
theorem dL_law_1213 : decode cL_law 1213 = .ok (.iaload, 1) := by decide +kernel
theorem dL_law_1214 : decode cL_law 1214 = .ok (.invokevirtual 153, 3) := by decide +kernel
theorem dL_law_1217 : decode cL_law 1217 = .ok (.aload_n 2, 1) := by decide +kernel
theorem dL_law_1218 : decode cL_law 1218 = .ok (.aload_n 0, 1) := by decide +kernel
theorem dL_law_1219 : decode cL_law 1219 = .ok (.iload_n 3, 1) := by decide +kernel
theorem dL_law_1220 : decode cL_law 1220 = .ok (.iconst 1, 1) := by decide +kernel
theorem dL_law_1221 : decode cL_law 1221 = .ok (.iadd, 1) := by decide +kernel
theorem dL_law_1222 : decode cL_law 1222 = .ok (.iaload, 1) := by decide +kernel
theorem dL_law_1223 : decode cL_law 1223 = .ok (.aload_n 0, 1) := by decide +kernel
theorem dL_law_1224 : decode cL_law 1224 = .ok (.iload_n 3, 1) := by decide +kernel
theorem dL_law_1225 : decode cL_law 1225 = .ok (.iconst 2, 1) := by decide +kernel
theorem dL_law_1226 : decode cL_law 1226 = .ok (.iadd, 1) := by decide +kernel
theorem dL_law_1227 : decode cL_law 1227 = .ok (.iaload, 1) := by decide +kernel
theorem dL_law_1228 : decode cL_law 1228 = .ok (.aload_n 0, 1) := by decide +kernel
theorem dL_law_1229 : decode cL_law 1229 = .ok (.iload_n 3, 1) := by decide +kernel
theorem dL_law_1230 : decode cL_law 1230 = .ok (.iconst 3, 1) := by decide +kernel
theorem dL_law_1231 : decode cL_law 1231 = .ok (.iadd, 1) := by decide +kernel
theorem dL_law_1232 : decode cL_law 1232 = .ok (.iaload, 1) := by decide +kernel
theorem dL_law_1233 : decode cL_law 1233 = .ok (.invokevirtual 156, 3) := by decide +kernel
theorem dL_law_1236 : decode cL_law 1236 = .ok (.if_icmp .eq 1088, 3) := by decide +kernel
theorem dL_law_1239 : decode cL_law 1239 = .ok (.iconst 0, 1) := by decide +kernel
theorem dL_law_1240 : decode cL_law 1240 = .ok (.ireturn, 1) := by decide +kernel
theorem dL_law_1241 : decode cL_law 1241 = .ok (.aload_n 1, 1) := by decide +kernel
theorem dL_law_1242 : decode cL_law 1242 = .ok (.aload_n 0, 1) := by decide +kernel
theorem dL_law_1243 : decode cL_law 1243 = .ok (.iload_n 3, 1) := by decide +kernel
theorem dL_law_1244 : decode cL_law 1244 = .ok (.iconst 1, 1) := by decide +kernel
theorem dL_law_1245 : decode cL_law 1245 = .ok (.iadd, 1) := by decide +kernel
theorem dL_law_1246 : decode cL_law 1246 = .ok (.iaload, 1) := by decide +kernel
theorem dL_law_1247 : decode cL_law 1247 = .ok (.aload_n 0, 1) := by decide +kernel
theorem dL_law_1248 : decode cL_law 1248 = .ok (.iload_n 3, 1) := by decide +kernel
theorem dL_law_1249 : decode cL_law 1249 = .ok (.iconst 2, 1) := by decide +kernel
theorem dL_law_1250 : decode cL_law 1250 = .ok (.iadd, 1) := by decide +kernel
theorem dL_law_1251 : decode cL_law 1251 = .ok (.iaload, 1) := by decide +kernel
theorem dL_law_1252 : decode cL_law 1252 = .ok (.aload_n 0, 1) := by decide +kernel
theorem dL_law_1253 : decode cL_law 1253 = .ok (.iload_n 3, 1) := by decide +kernel
theorem dL_law_1254 : decode cL_law 1254 = .ok (.iconst 3, 1) := by decide +kernel
theorem dL_law_1255 : decode cL_law 1255 = .ok (.iadd, 1) := by decide +kernel
theorem dL_law_1256 : decode cL_law 1256 = .ok (.iaload, 1) := by decide +kernel
theorem dL_law_1257 : decode cL_law 1257 = .ok (.invokevirtual 157, 3) := by decide +kernel
theorem dL_law_1260 : decode cL_law 1260 = .ok (.aload_n 2, 1) := by decide +kernel
theorem dL_law_1261 : decode cL_law 1261 = .ok (.aload_n 0, 1) := by decide +kernel
theorem dL_law_1262 : decode cL_law 1262 = .ok (.iload_n 3, 1) := by decide +kernel
theorem dL_law_1263 : decode cL_law 1263 = .ok (.iconst 1, 1) := by decide +kernel
theorem dL_law_1264 : decode cL_law 1264 = .ok (.iadd, 1) := by decide +kernel
theorem dL_law_1265 : decode cL_law 1265 = .ok (.iaload, 1) := by decide +kernel
theorem dL_law_1266 : decode cL_law 1266 = .ok (.aload_n 0, 1) := by decide +kernel
theorem dL_law_1267 : decode cL_law 1267 = .ok (.iload_n 3, 1) := by decide +kernel
theorem dL_law_1268 : decode cL_law 1268 = .ok (.iconst 2, 1) := by decide +kernel
theorem dL_law_1269 : decode cL_law 1269 = .ok (.iadd, 1) := by decide +kernel
theorem dL_law_1270 : decode cL_law 1270 = .ok (.iaload, 1) := by decide +kernel
theorem dL_law_1271 : decode cL_law 1271 = .ok (.aload_n 0, 1) := by decide +kernel
theorem dL_law_1272 : decode cL_law 1272 = .ok (.iload_n 3, 1) := by decide +kernel
theorem dL_law_1273 : decode cL_law 1273 = .ok (.iconst 3, 1) := by decide +kernel
theorem dL_law_1274 : decode cL_law 1274 = .ok (.iadd, 1) := by decide +kernel
theorem dL_law_1275 : decode cL_law 1275 = .ok (.iaload, 1) := by decide +kernel
theorem dL_law_1276 : decode cL_law 1276 = .ok (.invokevirtual 160, 3) := by decide +kernel
theorem dL_law_1279 : decode cL_law 1279 = .ok (.if_icmp .eq 1045, 3) := by decide +kernel
theorem dL_law_1282 : decode cL_law 1282 = .ok (.iconst 0, 1) := by decide +kernel
theorem dL_law_1283 : decode cL_law 1283 = .ok (.ireturn, 1) := by decide +kernel
theorem dL_law_1284 : decode cL_law 1284 = .ok (.aload_n 1, 1) := by decide +kernel
theorem dL_law_1285 : decode cL_law 1285 = .ok (.aload_n 0, 1) := by decide +kernel
theorem dL_law_1286 : decode cL_law 1286 = .ok (.iload_n 3, 1) := by decide +kernel
theorem dL_law_1287 : decode cL_law 1287 = .ok (.iconst 1, 1) := by decide +kernel
theorem dL_law_1288 : decode cL_law 1288 = .ok (.iadd, 1) := by decide +kernel
theorem dL_law_1289 : decode cL_law 1289 = .ok (.iaload, 1) := by decide +kernel
theorem dL_law_1290 : decode cL_law 1290 = .ok (.aload_n 0, 1) := by decide +kernel
theorem dL_law_1291 : decode cL_law 1291 = .ok (.iload_n 3, 1) := by decide +kernel
theorem dL_law_1292 : decode cL_law 1292 = .ok (.iconst 2, 1) := by decide +kernel
theorem dL_law_1293 : decode cL_law 1293 = .ok (.iadd, 1) := by decide +kernel
theorem dL_law_1294 : decode cL_law 1294 = .ok (.iaload, 1) := by decide +kernel
theorem dL_law_1295 : decode cL_law 1295 = .ok (.invokevirtual 161, 3) := by decide +kernel
theorem dL_law_1298 : decode cL_law 1298 = .ok (.aload_n 2, 1) := by decide +kernel
theorem dL_law_1299 : decode cL_law 1299 = .ok (.aload_n 0, 1) := by decide +kernel
theorem dL_law_1300 : decode cL_law 1300 = .ok (.iload_n 3, 1) := by decide +kernel
theorem dL_law_1301 : decode cL_law 1301 = .ok (.iconst 1, 1) := by decide +kernel
theorem dL_law_1302 : decode cL_law 1302 = .ok (.iadd, 1) := by decide +kernel
theorem dL_law_1303 : decode cL_law 1303 = .ok (.iaload, 1) := by decide +kernel
theorem dL_law_1304 : decode cL_law 1304 = .ok (.aload_n 0, 1) := by decide +kernel
theorem dL_law_1305 : decode cL_law 1305 = .ok (.iload_n 3, 1) := by decide +kernel
theorem dL_law_1306 : decode cL_law 1306 = .ok (.iconst 2, 1) := by decide +kernel
theorem dL_law_1307 : decode cL_law 1307 = .ok (.iadd, 1) := by decide +kernel
theorem dL_law_1308 : decode cL_law 1308 = .ok (.iaload, 1) := by decide +kernel
theorem dL_law_1309 : decode cL_law 1309 = .ok (.invokevirtual 164, 3) := by decide +kernel
theorem dL_law_1312 : decode cL_law 1312 = .ok (.if_icmp .eq 1012, 3) := by decide +kernel
theorem dL_law_1315 : decode cL_law 1315 = .ok (.iconst 0, 1) := by decide +kernel
theorem dL_law_1316 : decode cL_law 1316 = .ok (.ireturn, 1) := by decide +kernel
theorem dL_law_1317 : decode cL_law 1317 = .ok (.aload_n 1, 1) := by decide +kernel
theorem dL_law_1318 : decode cL_law 1318 = .ok (.aload_n 0, 1) := by decide +kernel
theorem dL_law_1319 : decode cL_law 1319 = .ok (.iload_n 3, 1) := by decide +kernel
theorem dL_law_1320 : decode cL_law 1320 = .ok (.iconst 1, 1) := by decide +kernel
theorem dL_law_1321 : decode cL_law 1321 = .ok (.iadd, 1) := by decide +kernel
theorem dL_law_1322 : decode cL_law 1322 = .ok (.iaload, 1) := by decide +kernel
theorem dL_law_1323 : decode cL_law 1323 = .ok (.aload_n 0, 1) := by decide +kernel
theorem dL_law_1324 : decode cL_law 1324 = .ok (.iload_n 3, 1) := by decide +kernel
theorem dL_law_1325 : decode cL_law 1325 = .ok (.iconst 2, 1) := by decide +kernel
theorem dL_law_1326 : decode cL_law 1326 = .ok (.iadd, 1) := by decide +kernel
theorem dL_law_1327 : decode cL_law 1327 = .ok (.iaload, 1) := by decide +kernel
theorem dL_law_1328 : decode cL_law 1328 = .ok (.aload_n 0, 1) := by decide +kernel
theorem dL_law_1329 : decode cL_law 1329 = .ok (.iload_n 3, 1) := by decide +kernel
theorem dL_law_1330 : decode cL_law 1330 = .ok (.iconst 3, 1) := by decide +kernel
theorem dL_law_1331 : decode cL_law 1331 = .ok (.iadd, 1) := by decide +kernel
theorem dL_law_1332 : decode cL_law 1332 = .ok (.iaload, 1) := by decide +kernel
theorem dL_law_1333 : decode cL_law 1333 = .ok (.invokevirtual 165, 3) := by decide +kernel
theorem dL_law_1336 : decode cL_law 1336 = .ok (.aload_n 2, 1) := by decide +kernel
theorem dL_law_1337 : decode cL_law 1337 = .ok (.aload_n 0, 1) := by decide +kernel
theorem dL_law_1338 : decode cL_law 1338 = .ok (.iload_n 3, 1) := by decide +kernel
theorem dL_law_1339 : decode cL_law 1339 = .ok (.iconst 1, 1) := by decide +kernel
theorem dL_law_1340 : decode cL_law 1340 = .ok (.iadd, 1) := by decide +kernel
theorem dL_law_1341 : decode cL_law 1341 = .ok (.iaload, 1) := by decide +kernel
theorem dL_law_1342 : decode cL_law 1342 = .ok (.aload_n 0, 1) := by decide +kernel
theorem dL_law_1343 : decode cL_law 1343 = .ok (.iload_n 3, 1) := by decide +kernel
theorem dL_law_1344 : decode cL_law 1344 = .ok (.iconst 2, 1) := by decide +kernel
theorem dL_law_1345 : decode cL_law 1345 = .ok (.iadd, 1) := by decide +kernel
theorem dL_law_1346 : decode cL_law 1346 = .ok (.iaload, 1) := by decide +kernel
theorem dL_law_1347 : decode cL_law 1347 = .ok (.aload_n 0, 1) := by decide +kernel
theorem dL_law_1348 : decode cL_law 1348 = .ok (.iload_n 3, 1) := by decide +kernel
theorem dL_law_1349 : decode cL_law 1349 = .ok (.iconst 3, 1) := by decide +kernel
theorem dL_law_1350 : decode cL_law 1350 = .ok (.iadd, 1) := by decide +kernel
theorem dL_law_1351 : decode cL_law 1351 = .ok (.iaload, 1) := by decide +kernel
theorem dL_law_1352 : decode cL_law 1352 = .ok (.invokevirtual 169, 3) := by decide +kernel
theorem dL_law_1355 : decode cL_law 1355 = .ok (.lcmp, 1) := by decide +kernel
theorem dL_law_1356 : decode cL_law 1356 = .ok (.ifCond .eq 968, 3) := by decide +kernel
theorem dL_law_1359 : decode cL_law 1359 = .ok (.iconst 0, 1) := by decide +kernel
theorem dL_law_1360 : decode cL_law 1360 = .ok (.ireturn, 1) := by decide +kernel
theorem dL_law_1361 : decode cL_law 1361 = .ok (.aload_n 1, 1) := by decide +kernel
theorem dL_law_1362 : decode cL_law 1362 = .ok (.aload_n 0, 1) := by decide +kernel
theorem dL_law_1363 : decode cL_law 1363 = .ok (.iload_n 3, 1) := by decide +kernel
theorem dL_law_1364 : decode cL_law 1364 = .ok (.iconst 1, 1) := by decide +kernel
theorem dL_law_1365 : decode cL_law 1365 = .ok (.iadd, 1) := by decide +kernel
theorem dL_law_1366 : decode cL_law 1366 = .ok (.iaload, 1) := by decide +kernel
theorem dL_law_1367 : decode cL_law 1367 = .ok (.invokevirtual 170, 3) := by decide +kernel
theorem dL_law_1370 : decode cL_law 1370 = .ok (.aload_n 2, 1) := by decide +kernel
theorem dL_law_1371 : decode cL_law 1371 = .ok (.aload_n 0, 1) := by decide +kernel
theorem dL_law_1372 : decode cL_law 1372 = .ok (.iload_n 3, 1) := by decide +kernel
theorem dL_law_1373 : decode cL_law 1373 = .ok (.iconst 1, 1) := by decide +kernel
theorem dL_law_1374 : decode cL_law 1374 = .ok (.iadd, 1) := by decide +kernel
theorem dL_law_1375 : decode cL_law 1375 = .ok (.iaload, 1) := by decide +kernel
theorem dL_law_1376 : decode cL_law 1376 = .ok (.invokevirtual 173, 3) := by decide +kernel
theorem dL_law_1379 : decode cL_law 1379 = .ok (.if_icmp .eq 945, 3) := by decide +kernel
theorem dL_law_1382 : decode cL_law 1382 = .ok (.iconst 0, 1) := by decide +kernel
theorem dL_law_1383 : decode cL_law 1383 = .ok (.ireturn, 1) := by decide +kernel
theorem dL_law_1384 : decode cL_law 1384 = .ok (.aload_n 1, 1) := by decide +kernel
theorem dL_law_1385 : decode cL_law 1385 = .ok (.aload_n 0, 1) := by decide +kernel
theorem dL_law_1386 : decode cL_law 1386 = .ok (.iload_n 3, 1) := by decide +kernel
theorem dL_law_1387 : decode cL_law 1387 = .ok (.iconst 1, 1) := by decide +kernel
theorem dL_law_1388 : decode cL_law 1388 = .ok (.iadd, 1) := by decide +kernel
theorem dL_law_1389 : decode cL_law 1389 = .ok (.iaload, 1) := by decide +kernel
theorem dL_law_1390 : decode cL_law 1390 = .ok (.aload_n 0, 1) := by decide +kernel
theorem dL_law_1391 : decode cL_law 1391 = .ok (.iload_n 3, 1) := by decide +kernel
theorem dL_law_1392 : decode cL_law 1392 = .ok (.iconst 2, 1) := by decide +kernel
theorem dL_law_1393 : decode cL_law 1393 = .ok (.iadd, 1) := by decide +kernel
theorem dL_law_1394 : decode cL_law 1394 = .ok (.iaload, 1) := by decide +kernel
theorem dL_law_1395 : decode cL_law 1395 = .ok (.invokevirtual 174, 3) := by decide +kernel
theorem dL_law_1398 : decode cL_law 1398 = .ok (.aload_n 2, 1) := by decide +kernel
theorem dL_law_1399 : decode cL_law 1399 = .ok (.aload_n 0, 1) := by decide +kernel
theorem dL_law_1400 : decode cL_law 1400 = .ok (.iload_n 3, 1) := by decide +kernel
theorem dL_law_1401 : decode cL_law 1401 = .ok (.iconst 1, 1) := by decide +kernel
theorem dL_law_1402 : decode cL_law 1402 = .ok (.iadd, 1) := by decide +kernel
theorem dL_law_1403 : decode cL_law 1403 = .ok (.iaload, 1) := by decide +kernel
theorem dL_law_1404 : decode cL_law 1404 = .ok (.aload_n 0, 1) := by decide +kernel
theorem dL_law_1405 : decode cL_law 1405 = .ok (.iload_n 3, 1) := by decide +kernel
theorem dL_law_1406 : decode cL_law 1406 = .ok (.iconst 2, 1) := by decide +kernel
theorem dL_law_1407 : decode cL_law 1407 = .ok (.iadd, 1) := by decide +kernel
theorem dL_law_1408 : decode cL_law 1408 = .ok (.iaload, 1) := by decide +kernel
theorem dL_law_1409 : decode cL_law 1409 = .ok (.invokevirtual 177, 3) := by decide +kernel
theorem dL_law_1412 : decode cL_law 1412 = .ok (.if_icmp .eq 912, 3) := by decide +kernel
theorem dL_law_1415 : decode cL_law 1415 = .ok (.iconst 0, 1) := by decide +kernel
theorem dL_law_1416 : decode cL_law 1416 = .ok (.ireturn, 1) := by decide +kernel
theorem dL_law_1417 : decode cL_law 1417 = .ok (.aload_n 1, 1) := by decide +kernel
theorem dL_law_1418 : decode cL_law 1418 = .ok (.invokevirtual 178, 3) := by decide +kernel
theorem dL_law_1421 : decode cL_law 1421 = .ok (.aload_n 2, 1) := by decide +kernel
theorem dL_law_1422 : decode cL_law 1422 = .ok (.invokevirtual 181, 3) := by decide +kernel
theorem dL_law_1425 : decode cL_law 1425 = .ok (.if_icmp .eq 899, 3) := by decide +kernel
theorem dL_law_1428 : decode cL_law 1428 = .ok (.iconst 0, 1) := by decide +kernel
theorem dL_law_1429 : decode cL_law 1429 = .ok (.ireturn, 1) := by decide +kernel
theorem dL_law_1430 : decode cL_law 1430 = .ok (.aload_n 1, 1) := by decide +kernel
theorem dL_law_1431 : decode cL_law 1431 = .ok (.aload_n 0, 1) := by decide +kernel
theorem dL_law_1432 : decode cL_law 1432 = .ok (.iload_n 3, 1) := by decide +kernel
theorem dL_law_1433 : decode cL_law 1433 = .ok (.iconst 1, 1) := by decide +kernel
theorem dL_law_1434 : decode cL_law 1434 = .ok (.iadd, 1) := by decide +kernel
theorem dL_law_1435 : decode cL_law 1435 = .ok (.iaload, 1) := by decide +kernel
theorem dL_law_1436 : decode cL_law 1436 = .ok (.invokevirtual 182, 3) := by decide +kernel
theorem dL_law_1439 : decode cL_law 1439 = .ok (.aload_n 2, 1) := by decide +kernel
theorem dL_law_1440 : decode cL_law 1440 = .ok (.aload_n 0, 1) := by decide +kernel
theorem dL_law_1441 : decode cL_law 1441 = .ok (.iload_n 3, 1) := by decide +kernel
theorem dL_law_1442 : decode cL_law 1442 = .ok (.iconst 1, 1) := by decide +kernel
theorem dL_law_1443 : decode cL_law 1443 = .ok (.iadd, 1) := by decide +kernel
theorem dL_law_1444 : decode cL_law 1444 = .ok (.iaload, 1) := by decide +kernel
theorem dL_law_1445 : decode cL_law 1445 = .ok (.invokevirtual 185, 3) := by decide +kernel
theorem dL_law_1448 : decode cL_law 1448 = .ok (.if_icmp .eq 876, 3) := by decide +kernel
theorem dL_law_1451 : decode cL_law 1451 = .ok (.iconst 0, 1) := by decide +kernel
theorem dL_law_1452 : decode cL_law 1452 = .ok (.ireturn, 1) := by decide +kernel
theorem dL_law_1453 : decode cL_law 1453 = .ok (.aload_n 1, 1) := by decide +kernel
theorem dL_law_1454 : decode cL_law 1454 = .ok (.aload_n 0, 1) := by decide +kernel
theorem dL_law_1455 : decode cL_law 1455 = .ok (.iload_n 3, 1) := by decide +kernel
theorem dL_law_1456 : decode cL_law 1456 = .ok (.iconst 1, 1) := by decide +kernel
theorem dL_law_1457 : decode cL_law 1457 = .ok (.iadd, 1) := by decide +kernel
theorem dL_law_1458 : decode cL_law 1458 = .ok (.iaload, 1) := by decide +kernel
theorem dL_law_1459 : decode cL_law 1459 = .ok (.invokevirtual 186, 3) := by decide +kernel
theorem dL_law_1462 : decode cL_law 1462 = .ok (.aload_n 2, 1) := by decide +kernel
theorem dL_law_1463 : decode cL_law 1463 = .ok (.aload_n 0, 1) := by decide +kernel
theorem dL_law_1464 : decode cL_law 1464 = .ok (.iload_n 3, 1) := by decide +kernel
theorem dL_law_1465 : decode cL_law 1465 = .ok (.iconst 1, 1) := by decide +kernel
theorem dL_law_1466 : decode cL_law 1466 = .ok (.iadd, 1) := by decide +kernel
theorem dL_law_1467 : decode cL_law 1467 = .ok (.iaload, 1) := by decide +kernel
theorem dL_law_1468 : decode cL_law 1468 = .ok (.invokevirtual 189, 3) := by decide +kernel
theorem dL_law_1471 : decode cL_law 1471 = .ok (.if_icmp .eq 853, 3) := by decide +kernel
theorem dL_law_1474 : decode cL_law 1474 = .ok (.iconst 0, 1) := by decide +kernel
theorem dL_law_1475 : decode cL_law 1475 = .ok (.ireturn, 1) := by decide +kernel
theorem dL_law_1476 : decode cL_law 1476 = .ok (.aload_n 1, 1) := by decide +kernel
theorem dL_law_1477 : decode cL_law 1477 = .ok (.aload_n 0, 1) := by decide +kernel
theorem dL_law_1478 : decode cL_law 1478 = .ok (.iload_n 3, 1) := by decide +kernel
theorem dL_law_1479 : decode cL_law 1479 = .ok (.iconst 1, 1) := by decide +kernel
theorem dL_law_1480 : decode cL_law 1480 = .ok (.iadd, 1) := by decide +kernel
theorem dL_law_1481 : decode cL_law 1481 = .ok (.iaload, 1) := by decide +kernel
theorem dL_law_1482 : decode cL_law 1482 = .ok (.aload_n 0, 1) := by decide +kernel
theorem dL_law_1483 : decode cL_law 1483 = .ok (.iload_n 3, 1) := by decide +kernel
theorem dL_law_1484 : decode cL_law 1484 = .ok (.iconst 2, 1) := by decide +kernel
theorem dL_law_1485 : decode cL_law 1485 = .ok (.iadd, 1) := by decide +kernel
theorem dL_law_1486 : decode cL_law 1486 = .ok (.iaload, 1) := by decide +kernel
theorem dL_law_1487 : decode cL_law 1487 = .ok (.invokevirtual 190, 3) := by decide +kernel
theorem dL_law_1490 : decode cL_law 1490 = .ok (.aload_n 2, 1) := by decide +kernel
theorem dL_law_1491 : decode cL_law 1491 = .ok (.aload_n 0, 1) := by decide +kernel
theorem dL_law_1492 : decode cL_law 1492 = .ok (.iload_n 3, 1) := by decide +kernel
theorem dL_law_1493 : decode cL_law 1493 = .ok (.iconst 1, 1) := by decide +kernel
theorem dL_law_1494 : decode cL_law 1494 = .ok (.iadd, 1) := by decide +kernel
theorem dL_law_1495 : decode cL_law 1495 = .ok (.iaload, 1) := by decide +kernel
theorem dL_law_1496 : decode cL_law 1496 = .ok (.aload_n 0, 1) := by decide +kernel
theorem dL_law_1497 : decode cL_law 1497 = .ok (.iload_n 3, 1) := by decide +kernel
theorem dL_law_1498 : decode cL_law 1498 = .ok (.iconst 2, 1) := by decide +kernel
theorem dL_law_1499 : decode cL_law 1499 = .ok (.iadd, 1) := by decide +kernel
theorem dL_law_1500 : decode cL_law 1500 = .ok (.iaload, 1) := by decide +kernel
theorem dL_law_1501 : decode cL_law 1501 = .ok (.invokevirtual 193, 3) := by decide +kernel
theorem dL_law_1504 : decode cL_law 1504 = .ok (.if_icmp .eq 820, 3) := by decide +kernel
theorem dL_law_1507 : decode cL_law 1507 = .ok (.iconst 0, 1) := by decide +kernel
theorem dL_law_1508 : decode cL_law 1508 = .ok (.ireturn, 1) := by decide +kernel
theorem dL_law_1509 : decode cL_law 1509 = .ok (.aload_n 1, 1) := by decide +kernel
theorem dL_law_1510 : decode cL_law 1510 = .ok (.aload_n 0, 1) := by decide +kernel
theorem dL_law_1511 : decode cL_law 1511 = .ok (.iload_n 3, 1) := by decide +kernel
theorem dL_law_1512 : decode cL_law 1512 = .ok (.iconst 1, 1) := by decide +kernel
theorem dL_law_1513 : decode cL_law 1513 = .ok (.iadd, 1) := by decide +kernel
theorem dL_law_1514 : decode cL_law 1514 = .ok (.iaload, 1) := by decide +kernel
theorem dL_law_1515 : decode cL_law 1515 = .ok (.aload_n 0, 1) := by decide +kernel
theorem dL_law_1516 : decode cL_law 1516 = .ok (.iload_n 3, 1) := by decide +kernel
theorem dL_law_1517 : decode cL_law 1517 = .ok (.iconst 2, 1) := by decide +kernel
theorem dL_law_1518 : decode cL_law 1518 = .ok (.iadd, 1) := by decide +kernel
theorem dL_law_1519 : decode cL_law 1519 = .ok (.iaload, 1) := by decide +kernel
theorem dL_law_1520 : decode cL_law 1520 = .ok (.invokevirtual 194, 3) := by decide +kernel
theorem dL_law_1523 : decode cL_law 1523 = .ok (.aload_n 2, 1) := by decide +kernel
theorem dL_law_1524 : decode cL_law 1524 = .ok (.aload_n 0, 1) := by decide +kernel
theorem dL_law_1525 : decode cL_law 1525 = .ok (.iload_n 3, 1) := by decide +kernel
theorem dL_law_1526 : decode cL_law 1526 = .ok (.iconst 1, 1) := by decide +kernel
theorem dL_law_1527 : decode cL_law 1527 = .ok (.iadd, 1) := by decide +kernel
theorem dL_law_1528 : decode cL_law 1528 = .ok (.iaload, 1) := by decide +kernel
theorem dL_law_1529 : decode cL_law 1529 = .ok (.aload_n 0, 1) := by decide +kernel
theorem dL_law_1530 : decode cL_law 1530 = .ok (.iload_n 3, 1) := by decide +kernel
theorem dL_law_1531 : decode cL_law 1531 = .ok (.iconst 2, 1) := by decide +kernel
theorem dL_law_1532 : decode cL_law 1532 = .ok (.iadd, 1) := by decide +kernel
theorem dL_law_1533 : decode cL_law 1533 = .ok (.iaload, 1) := by decide +kernel
theorem dL_law_1534 : decode cL_law 1534 = .ok (.invokevirtual 197, 3) := by decide +kernel
theorem dL_law_1537 : decode cL_law 1537 = .ok (.if_icmp .eq 787, 3) := by decide +kernel
theorem dL_law_1540 : decode cL_law 1540 = .ok (.iconst 0, 1) := by decide +kernel
theorem dL_law_1541 : decode cL_law 1541 = .ok (.ireturn, 1) := by decide +kernel
theorem dL_law_1542 : decode cL_law 1542 = .ok (.aload_n 1, 1) := by decide +kernel
theorem dL_law_1543 : decode cL_law 1543 = .ok (.aload_n 0, 1) := by decide +kernel
theorem dL_law_1544 : decode cL_law 1544 = .ok (.iload_n 3, 1) := by decide +kernel
theorem dL_law_1545 : decode cL_law 1545 = .ok (.iconst 1, 1) := by decide +kernel
theorem dL_law_1546 : decode cL_law 1546 = .ok (.iadd, 1) := by decide +kernel
theorem dL_law_1547 : decode cL_law 1547 = .ok (.iaload, 1) := by decide +kernel
theorem dL_law_1548 : decode cL_law 1548 = .ok (.invokevirtual 198, 3) := by decide +kernel
theorem dL_law_1551 : decode cL_law 1551 = .ok (.aload_n 2, 1) := by decide +kernel
theorem dL_law_1552 : decode cL_law 1552 = .ok (.aload_n 0, 1) := by decide +kernel
theorem dL_law_1553 : decode cL_law 1553 = .ok (.iload_n 3, 1) := by decide +kernel
theorem dL_law_1554 : decode cL_law 1554 = .ok (.iconst 1, 1) := by decide +kernel
theorem dL_law_1555 : decode cL_law 1555 = .ok (.iadd, 1) := by decide +kernel
theorem dL_law_1556 : decode cL_law 1556 = .ok (.iaload, 1) := by decide +kernel
theorem dL_law_1557 : decode cL_law 1557 = .ok (.invokevirtual 201, 3) := by decide +kernel
theorem dL_law_1560 : decode cL_law 1560 = .ok (.if_icmp .eq 764, 3) := by decide +kernel
theorem dL_law_1563 : decode cL_law 1563 = .ok (.iconst 0, 1) := by decide +kernel
theorem dL_law_1564 : decode cL_law 1564 = .ok (.ireturn, 1) := by decide +kernel
theorem dL_law_1565 : decode cL_law 1565 = .ok (.aload_n 1, 1) := by decide +kernel
theorem dL_law_1566 : decode cL_law 1566 = .ok (.invokevirtual 202, 3) := by decide +kernel
theorem dL_law_1569 : decode cL_law 1569 = .ok (.aload_n 2, 1) := by decide +kernel
theorem dL_law_1570 : decode cL_law 1570 = .ok (.invokevirtual 205, 3) := by decide +kernel
theorem dL_law_1573 : decode cL_law 1573 = .ok (.if_icmp .eq 751, 3) := by decide +kernel
theorem dL_law_1576 : decode cL_law 1576 = .ok (.iconst 0, 1) := by decide +kernel
theorem dL_law_1577 : decode cL_law 1577 = .ok (.ireturn, 1) := by decide +kernel
theorem dL_law_1578 : decode cL_law 1578 = .ok (.aload_n 1, 1) := by decide +kernel
theorem dL_law_1579 : decode cL_law 1579 = .ok (.aload_n 0, 1) := by decide +kernel
theorem dL_law_1580 : decode cL_law 1580 = .ok (.iload_n 3, 1) := by decide +kernel
theorem dL_law_1581 : decode cL_law 1581 = .ok (.iconst 1, 1) := by decide +kernel
theorem dL_law_1582 : decode cL_law 1582 = .ok (.iadd, 1) := by decide +kernel
theorem dL_law_1583 : decode cL_law 1583 = .ok (.iaload, 1) := by decide +kernel
theorem dL_law_1584 : decode cL_law 1584 = .ok (.aload_n 0, 1) := by decide +kernel
theorem dL_law_1585 : decode cL_law 1585 = .ok (.iload_n 3, 1) := by decide +kernel
theorem dL_law_1586 : decode cL_law 1586 = .ok (.iconst 2, 1) := by decide +kernel
theorem dL_law_1587 : decode cL_law 1587 = .ok (.iadd, 1) := by decide +kernel
theorem dL_law_1588 : decode cL_law 1588 = .ok (.iaload, 1) := by decide +kernel
theorem dL_law_1589 : decode cL_law 1589 = .ok (.invokevirtual 206, 3) := by decide +kernel
theorem dL_law_1592 : decode cL_law 1592 = .ok (.aload_n 2, 1) := by decide +kernel
theorem dL_law_1593 : decode cL_law 1593 = .ok (.aload_n 0, 1) := by decide +kernel
theorem dL_law_1594 : decode cL_law 1594 = .ok (.iload_n 3, 1) := by decide +kernel
theorem dL_law_1595 : decode cL_law 1595 = .ok (.iconst 1, 1) := by decide +kernel
theorem dL_law_1596 : decode cL_law 1596 = .ok (.iadd, 1) := by decide +kernel
theorem dL_law_1597 : decode cL_law 1597 = .ok (.iaload, 1) := by decide +kernel
theorem dL_law_1598 : decode cL_law 1598 = .ok (.aload_n 0, 1) := by decide +kernel
theorem dL_law_1599 : decode cL_law 1599 = .ok (.iload_n 3, 1) := by decide +kernel
theorem dL_law_1600 : decode cL_law 1600 = .ok (.iconst 2, 1) := by decide +kernel
theorem dL_law_1601 : decode cL_law 1601 = .ok (.iadd, 1) := by decide +kernel
theorem dL_law_1602 : decode cL_law 1602 = .ok (.iaload, 1) := by decide +kernel
theorem dL_law_1603 : decode cL_law 1603 = .ok (.invokevirtual 209, 3) := by decide +kernel
theorem dL_law_1606 : decode cL_law 1606 = .ok (.if_icmp .eq 718, 3) := by decide +kernel
theorem dL_law_1609 : decode cL_law 1609 = .ok (.iconst 0, 1) := by decide +kernel
theorem dL_law_1610 : decode cL_law 1610 = .ok (.ireturn, 1) := by decide +kernel
theorem dL_law_1611 : decode cL_law 1611 = .ok (.aload_n 1, 1) := by decide +kernel
theorem dL_law_1612 : decode cL_law 1612 = .ok (.aload_n 0, 1) := by decide +kernel
theorem dL_law_1613 : decode cL_law 1613 = .ok (.iload_n 3, 1) := by decide +kernel
theorem dL_law_1614 : decode cL_law 1614 = .ok (.iconst 1, 1) := by decide +kernel
theorem dL_law_1615 : decode cL_law 1615 = .ok (.iadd, 1) := by decide +kernel
theorem dL_law_1616 : decode cL_law 1616 = .ok (.iaload, 1) := by decide +kernel
theorem dL_law_1617 : decode cL_law 1617 = .ok (.invokevirtual 210, 3) := by decide +kernel
theorem dL_law_1620 : decode cL_law 1620 = .ok (.aload_n 2, 1) := by decide +kernel
theorem dL_law_1621 : decode cL_law 1621 = .ok (.aload_n 0, 1) := by decide +kernel
theorem dL_law_1622 : decode cL_law 1622 = .ok (.iload_n 3, 1) := by decide +kernel
theorem dL_law_1623 : decode cL_law 1623 = .ok (.iconst 1, 1) := by decide +kernel
theorem dL_law_1624 : decode cL_law 1624 = .ok (.iadd, 1) := by decide +kernel
theorem dL_law_1625 : decode cL_law 1625 = .ok (.iaload, 1) := by decide +kernel
theorem dL_law_1626 : decode cL_law 1626 = .ok (.invokevirtual 213, 3) := by decide +kernel
theorem dL_law_1629 : decode cL_law 1629 = .ok (.if_icmp .eq 695, 3) := by decide +kernel
theorem dL_law_1632 : decode cL_law 1632 = .ok (.iconst 0, 1) := by decide +kernel
theorem dL_law_1633 : decode cL_law 1633 = .ok (.ireturn, 1) := by decide +kernel
theorem dL_law_1634 : decode cL_law 1634 = .ok (.aload_n 1, 1) := by decide +kernel
theorem dL_law_1635 : decode cL_law 1635 = .ok (.aload_n 0, 1) := by decide +kernel
theorem dL_law_1636 : decode cL_law 1636 = .ok (.iload_n 3, 1) := by decide +kernel
theorem dL_law_1637 : decode cL_law 1637 = .ok (.iconst 1, 1) := by decide +kernel
theorem dL_law_1638 : decode cL_law 1638 = .ok (.iadd, 1) := by decide +kernel
theorem dL_law_1639 : decode cL_law 1639 = .ok (.iaload, 1) := by decide +kernel
theorem dL_law_1640 : decode cL_law 1640 = .ok (.aload_n 0, 1) := by decide +kernel
theorem dL_law_1641 : decode cL_law 1641 = .ok (.iload_n 3, 1) := by decide +kernel
theorem dL_law_1642 : decode cL_law 1642 = .ok (.iconst 2, 1) := by decide +kernel
theorem dL_law_1643 : decode cL_law 1643 = .ok (.iadd, 1) := by decide +kernel
theorem dL_law_1644 : decode cL_law 1644 = .ok (.iaload, 1) := by decide +kernel
theorem dL_law_1645 : decode cL_law 1645 = .ok (.invokevirtual 214, 3) := by decide +kernel
theorem dL_law_1648 : decode cL_law 1648 = .ok (.aload_n 2, 1) := by decide +kernel
theorem dL_law_1649 : decode cL_law 1649 = .ok (.aload_n 0, 1) := by decide +kernel
theorem dL_law_1650 : decode cL_law 1650 = .ok (.iload_n 3, 1) := by decide +kernel
theorem dL_law_1651 : decode cL_law 1651 = .ok (.iconst 1, 1) := by decide +kernel
theorem dL_law_1652 : decode cL_law 1652 = .ok (.iadd, 1) := by decide +kernel
theorem dL_law_1653 : decode cL_law 1653 = .ok (.iaload, 1) := by decide +kernel
theorem dL_law_1654 : decode cL_law 1654 = .ok (.aload_n 0, 1) := by decide +kernel
theorem dL_law_1655 : decode cL_law 1655 = .ok (.iload_n 3, 1) := by decide +kernel
theorem dL_law_1656 : decode cL_law 1656 = .ok (.iconst 2, 1) := by decide +kernel
theorem dL_law_1657 : decode cL_law 1657 = .ok (.iadd, 1) := by decide +kernel
theorem dL_law_1658 : decode cL_law 1658 = .ok (.iaload, 1) := by decide +kernel
theorem dL_law_1659 : decode cL_law 1659 = .ok (.invokevirtual 217, 3) := by decide +kernel
theorem dL_law_1662 : decode cL_law 1662 = .ok (.if_icmp .eq 662, 3) := by decide +kernel
theorem dL_law_1665 : decode cL_law 1665 = .ok (.iconst 0, 1) := by decide +kernel
theorem dL_law_1666 : decode cL_law 1666 = .ok (.ireturn, 1) := by decide +kernel
theorem dL_law_1667 : decode cL_law 1667 = .ok (.aload_n 1, 1) := by decide +kernel
theorem dL_law_1668 : decode cL_law 1668 = .ok (.aload_n 0, 1) := by decide +kernel
theorem dL_law_1669 : decode cL_law 1669 = .ok (.iload_n 3, 1) := by decide +kernel
theorem dL_law_1670 : decode cL_law 1670 = .ok (.iconst 1, 1) := by decide +kernel
theorem dL_law_1671 : decode cL_law 1671 = .ok (.iadd, 1) := by decide +kernel
theorem dL_law_1672 : decode cL_law 1672 = .ok (.iaload, 1) := by decide +kernel
theorem dL_law_1673 : decode cL_law 1673 = .ok (.invokevirtual 218, 3) := by decide +kernel
theorem dL_law_1676 : decode cL_law 1676 = .ok (.aload_n 2, 1) := by decide +kernel
theorem dL_law_1677 : decode cL_law 1677 = .ok (.aload_n 0, 1) := by decide +kernel
theorem dL_law_1678 : decode cL_law 1678 = .ok (.iload_n 3, 1) := by decide +kernel
theorem dL_law_1679 : decode cL_law 1679 = .ok (.iconst 1, 1) := by decide +kernel
theorem dL_law_1680 : decode cL_law 1680 = .ok (.iadd, 1) := by decide +kernel
theorem dL_law_1681 : decode cL_law 1681 = .ok (.iaload, 1) := by decide +kernel
theorem dL_law_1682 : decode cL_law 1682 = .ok (.invokevirtual 221, 3) := by decide +kernel
theorem dL_law_1685 : decode cL_law 1685 = .ok (.if_icmp .eq 639, 3) := by decide +kernel
theorem dL_law_1688 : decode cL_law 1688 = .ok (.iconst 0, 1) := by decide +kernel
theorem dL_law_1689 : decode cL_law 1689 = .ok (.ireturn, 1) := by decide +kernel
theorem dL_law_1690 : decode cL_law 1690 = .ok (.aload_n 1, 1) := by decide +kernel
theorem dL_law_1691 : decode cL_law 1691 = .ok (.aload_n 0, 1) := by decide +kernel
theorem dL_law_1692 : decode cL_law 1692 = .ok (.iload_n 3, 1) := by decide +kernel
theorem dL_law_1693 : decode cL_law 1693 = .ok (.iconst 1, 1) := by decide +kernel
theorem dL_law_1694 : decode cL_law 1694 = .ok (.iadd, 1) := by decide +kernel
theorem dL_law_1695 : decode cL_law 1695 = .ok (.iaload, 1) := by decide +kernel
theorem dL_law_1696 : decode cL_law 1696 = .ok (.invokevirtual 222, 3) := by decide +kernel
theorem dL_law_1699 : decode cL_law 1699 = .ok (.aload_n 2, 1) := by decide +kernel
theorem dL_law_1700 : decode cL_law 1700 = .ok (.aload_n 0, 1) := by decide +kernel
theorem dL_law_1701 : decode cL_law 1701 = .ok (.iload_n 3, 1) := by decide +kernel
theorem dL_law_1702 : decode cL_law 1702 = .ok (.iconst 1, 1) := by decide +kernel
theorem dL_law_1703 : decode cL_law 1703 = .ok (.iadd, 1) := by decide +kernel
theorem dL_law_1704 : decode cL_law 1704 = .ok (.iaload, 1) := by decide +kernel
theorem dL_law_1705 : decode cL_law 1705 = .ok (.invokevirtual 225, 3) := by decide +kernel
theorem dL_law_1708 : decode cL_law 1708 = .ok (.if_icmp .eq 616, 3) := by decide +kernel
theorem dL_law_1711 : decode cL_law 1711 = .ok (.iconst 0, 1) := by decide +kernel
theorem dL_law_1712 : decode cL_law 1712 = .ok (.ireturn, 1) := by decide +kernel
theorem dL_law_1713 : decode cL_law 1713 = .ok (.aload_n 1, 1) := by decide +kernel
theorem dL_law_1714 : decode cL_law 1714 = .ok (.aload_n 0, 1) := by decide +kernel
theorem dL_law_1715 : decode cL_law 1715 = .ok (.iload_n 3, 1) := by decide +kernel
theorem dL_law_1716 : decode cL_law 1716 = .ok (.iconst 1, 1) := by decide +kernel
theorem dL_law_1717 : decode cL_law 1717 = .ok (.iadd, 1) := by decide +kernel
theorem dL_law_1718 : decode cL_law 1718 = .ok (.iaload, 1) := by decide +kernel
theorem dL_law_1719 : decode cL_law 1719 = .ok (.invokevirtual 226, 3) := by decide +kernel
theorem dL_law_1722 : decode cL_law 1722 = .ok (.aload_n 2, 1) := by decide +kernel
theorem dL_law_1723 : decode cL_law 1723 = .ok (.aload_n 0, 1) := by decide +kernel
theorem dL_law_1724 : decode cL_law 1724 = .ok (.iload_n 3, 1) := by decide +kernel
theorem dL_law_1725 : decode cL_law 1725 = .ok (.iconst 1, 1) := by decide +kernel
theorem dL_law_1726 : decode cL_law 1726 = .ok (.iadd, 1) := by decide +kernel
theorem dL_law_1727 : decode cL_law 1727 = .ok (.iaload, 1) := by decide +kernel
theorem dL_law_1728 : decode cL_law 1728 = .ok (.invokevirtual 229, 3) := by decide +kernel
theorem dL_law_1731 : decode cL_law 1731 = .ok (.if_icmp .eq 593, 3) := by decide +kernel
theorem dL_law_1734 : decode cL_law 1734 = .ok (.iconst 0, 1) := by decide +kernel
theorem dL_law_1735 : decode cL_law 1735 = .ok (.ireturn, 1) := by decide +kernel
theorem dL_law_1736 : decode cL_law 1736 = .ok (.aload_n 1, 1) := by decide +kernel
theorem dL_law_1737 : decode cL_law 1737 = .ok (.invokevirtual 230, 3) := by decide +kernel
theorem dL_law_1740 : decode cL_law 1740 = .ok (.aload_n 2, 1) := by decide +kernel
theorem dL_law_1741 : decode cL_law 1741 = .ok (.invokevirtual 233, 3) := by decide +kernel
theorem dL_law_1744 : decode cL_law 1744 = .ok (.if_icmp .eq 580, 3) := by decide +kernel
theorem dL_law_1747 : decode cL_law 1747 = .ok (.iconst 0, 1) := by decide +kernel
theorem dL_law_1748 : decode cL_law 1748 = .ok (.ireturn, 1) := by decide +kernel
theorem dL_law_1749 : decode cL_law 1749 = .ok (.aload_n 1, 1) := by decide +kernel
theorem dL_law_1750 : decode cL_law 1750 = .ok (.aload_n 0, 1) := by decide +kernel
theorem dL_law_1751 : decode cL_law 1751 = .ok (.iload_n 3, 1) := by decide +kernel
theorem dL_law_1752 : decode cL_law 1752 = .ok (.iconst 1, 1) := by decide +kernel
theorem dL_law_1753 : decode cL_law 1753 = .ok (.iadd, 1) := by decide +kernel
theorem dL_law_1754 : decode cL_law 1754 = .ok (.iaload, 1) := by decide +kernel
theorem dL_law_1755 : decode cL_law 1755 = .ok (.invokevirtual 234, 3) := by decide +kernel
theorem dL_law_1758 : decode cL_law 1758 = .ok (.aload_n 2, 1) := by decide +kernel
theorem dL_law_1759 : decode cL_law 1759 = .ok (.aload_n 0, 1) := by decide +kernel
theorem dL_law_1760 : decode cL_law 1760 = .ok (.iload_n 3, 1) := by decide +kernel
theorem dL_law_1761 : decode cL_law 1761 = .ok (.iconst 1, 1) := by decide +kernel
theorem dL_law_1762 : decode cL_law 1762 = .ok (.iadd, 1) := by decide +kernel
theorem dL_law_1763 : decode cL_law 1763 = .ok (.iaload, 1) := by decide +kernel
theorem dL_law_1764 : decode cL_law 1764 = .ok (.invokevirtual 237, 3) := by decide +kernel
theorem dL_law_1767 : decode cL_law 1767 = .ok (.if_icmp .eq 557, 3) := by decide +kernel
theorem dL_law_1770 : decode cL_law 1770 = .ok (.iconst 0, 1) := by decide +kernel
theorem dL_law_1771 : decode cL_law 1771 = .ok (.ireturn, 1) := by decide +kernel
theorem dL_law_1772 : decode cL_law 1772 = .ok (.aload_n 1, 1) := by decide +kernel
theorem dL_law_1773 : decode cL_law 1773 = .ok (.invokevirtual 238, 3) := by decide +kernel
theorem dL_law_1776 : decode cL_law 1776 = .ok (.aload_n 2, 1) := by decide +kernel
theorem dL_law_1777 : decode cL_law 1777 = .ok (.invokevirtual 241, 3) := by decide +kernel
theorem dL_law_1780 : decode cL_law 1780 = .ok (.if_icmp .eq 544, 3) := by decide +kernel
theorem dL_law_1783 : decode cL_law 1783 = .ok (.iconst 0, 1) := by decide +kernel
theorem dL_law_1784 : decode cL_law 1784 = .ok (.ireturn, 1) := by decide +kernel
theorem dL_law_1785 : decode cL_law 1785 = .ok (.aload_n 1, 1) := by decide +kernel
theorem dL_law_1786 : decode cL_law 1786 = .ok (.invokevirtual 242, 3) := by decide +kernel
theorem dL_law_1789 : decode cL_law 1789 = .ok (.aload_n 2, 1) := by decide +kernel
theorem dL_law_1790 : decode cL_law 1790 = .ok (.invokevirtual 245, 3) := by decide +kernel
theorem dL_law_1793 : decode cL_law 1793 = .ok (.if_icmp .eq 531, 3) := by decide +kernel
theorem dL_law_1796 : decode cL_law 1796 = .ok (.iconst 0, 1) := by decide +kernel
theorem dL_law_1797 : decode cL_law 1797 = .ok (.ireturn, 1) := by decide +kernel
theorem dL_law_1798 : decode cL_law 1798 = .ok (.aload_n 1, 1) := by decide +kernel
theorem dL_law_1799 : decode cL_law 1799 = .ok (.aload_n 0, 1) := by decide +kernel
theorem dL_law_1800 : decode cL_law 1800 = .ok (.iload_n 3, 1) := by decide +kernel
theorem dL_law_1801 : decode cL_law 1801 = .ok (.iconst 1, 1) := by decide +kernel
theorem dL_law_1802 : decode cL_law 1802 = .ok (.iadd, 1) := by decide +kernel
theorem dL_law_1803 : decode cL_law 1803 = .ok (.iaload, 1) := by decide +kernel
theorem dL_law_1804 : decode cL_law 1804 = .ok (.invokevirtual 246, 3) := by decide +kernel
theorem dL_law_1807 : decode cL_law 1807 = .ok (.aload_n 2, 1) := by decide +kernel
theorem dL_law_1808 : decode cL_law 1808 = .ok (.aload_n 0, 1) := by decide +kernel
theorem dL_law_1809 : decode cL_law 1809 = .ok (.iload_n 3, 1) := by decide +kernel
theorem dL_law_1810 : decode cL_law 1810 = .ok (.iconst 1, 1) := by decide +kernel
theorem dL_law_1811 : decode cL_law 1811 = .ok (.iadd, 1) := by decide +kernel
theorem dL_law_1812 : decode cL_law 1812 = .ok (.iaload, 1) := by decide +kernel
theorem dL_law_1813 : decode cL_law 1813 = .ok (.invokevirtual 249, 3) := by decide +kernel
theorem dL_law_1816 : decode cL_law 1816 = .ok (.if_icmp .eq 508, 3) := by decide +kernel
theorem dL_law_1819 : decode cL_law 1819 = .ok (.iconst 0, 1) := by decide +kernel
theorem dL_law_1820 : decode cL_law 1820 = .ok (.ireturn, 1) := by decide +kernel
theorem dL_law_1821 : decode cL_law 1821 = .ok (.aload_n 1, 1) := by decide +kernel
theorem dL_law_1822 : decode cL_law 1822 = .ok (.invokevirtual 250, 3) := by decide +kernel
theorem dL_law_1825 : decode cL_law 1825 = .ok (.aload_n 2, 1) := by decide +kernel
theorem dL_law_1826 : decode cL_law 1826 = .ok (.invokevirtual 253, 3) := by decide +kernel
theorem dL_law_1829 : decode cL_law 1829 = .ok (.if_icmp .eq 495, 3) := by decide +kernel
theorem dL_law_1832 : decode cL_law 1832 = .ok (.iconst 0, 1) := by decide +kernel
theorem dL_law_1833 : decode cL_law 1833 = .ok (.ireturn, 1) := by decide +kernel
theorem dL_law_1834 : decode cL_law 1834 = .ok (.aload_n 1, 1) := by decide +kernel
theorem dL_law_1835 : decode cL_law 1835 = .ok (.aload_n 0, 1) := by decide +kernel
theorem dL_law_1836 : decode cL_law 1836 = .ok (.iload_n 3, 1) := by decide +kernel
theorem dL_law_1837 : decode cL_law 1837 = .ok (.iconst 1, 1) := by decide +kernel
theorem dL_law_1838 : decode cL_law 1838 = .ok (.iadd, 1) := by decide +kernel
theorem dL_law_1839 : decode cL_law 1839 = .ok (.iaload, 1) := by decide +kernel
theorem dL_law_1840 : decode cL_law 1840 = .ok (.invokevirtual 254, 3) := by decide +kernel
theorem dL_law_1843 : decode cL_law 1843 = .ok (.aload_n 2, 1) := by decide +kernel
theorem dL_law_1844 : decode cL_law 1844 = .ok (.aload_n 0, 1) := by decide +kernel
theorem dL_law_1845 : decode cL_law 1845 = .ok (.iload_n 3, 1) := by decide +kernel
theorem dL_law_1846 : decode cL_law 1846 = .ok (.iconst 1, 1) := by decide +kernel
theorem dL_law_1847 : decode cL_law 1847 = .ok (.iadd, 1) := by decide +kernel
theorem dL_law_1848 : decode cL_law 1848 = .ok (.iaload, 1) := by decide +kernel
theorem dL_law_1849 : decode cL_law 1849 = .ok (.invokevirtual 257, 3) := by decide +kernel
theorem dL_law_1852 : decode cL_law 1852 = .ok (.if_icmp .eq 472, 3) := by decide +kernel
theorem dL_law_1855 : decode cL_law 1855 = .ok (.iconst 0, 1) := by decide +kernel
theorem dL_law_1856 : decode cL_law 1856 = .ok (.ireturn, 1) := by decide +kernel
theorem dL_law_1857 : decode cL_law 1857 = .ok (.aload_n 1, 1) := by decide +kernel
theorem dL_law_1858 : decode cL_law 1858 = .ok (.aload_n 0, 1) := by decide +kernel
theorem dL_law_1859 : decode cL_law 1859 = .ok (.iload_n 3, 1) := by decide +kernel
theorem dL_law_1860 : decode cL_law 1860 = .ok (.iconst 1, 1) := by decide +kernel
theorem dL_law_1861 : decode cL_law 1861 = .ok (.iadd, 1) := by decide +kernel
theorem dL_law_1862 : decode cL_law 1862 = .ok (.iaload, 1) := by decide +kernel
theorem dL_law_1863 : decode cL_law 1863 = .ok (.aload_n 0, 1) := by decide +kernel
theorem dL_law_1864 : decode cL_law 1864 = .ok (.iload_n 3, 1) := by decide +kernel
theorem dL_law_1865 : decode cL_law 1865 = .ok (.iconst 2, 1) := by decide +kernel
theorem dL_law_1866 : decode cL_law 1866 = .ok (.iadd, 1) := by decide +kernel
theorem dL_law_1867 : decode cL_law 1867 = .ok (.iaload, 1) := by decide +kernel
theorem dL_law_1868 : decode cL_law 1868 = .ok (.invokevirtual 258, 3) := by decide +kernel
theorem dL_law_1871 : decode cL_law 1871 = .ok (.aload_n 2, 1) := by decide +kernel
theorem dL_law_1872 : decode cL_law 1872 = .ok (.aload_n 0, 1) := by decide +kernel
theorem dL_law_1873 : decode cL_law 1873 = .ok (.iload_n 3, 1) := by decide +kernel
theorem dL_law_1874 : decode cL_law 1874 = .ok (.iconst 1, 1) := by decide +kernel
theorem dL_law_1875 : decode cL_law 1875 = .ok (.iadd, 1) := by decide +kernel
theorem dL_law_1876 : decode cL_law 1876 = .ok (.iaload, 1) := by decide +kernel
theorem dL_law_1877 : decode cL_law 1877 = .ok (.aload_n 0, 1) := by decide +kernel
theorem dL_law_1878 : decode cL_law 1878 = .ok (.iload_n 3, 1) := by decide +kernel
theorem dL_law_1879 : decode cL_law 1879 = .ok (.iconst 2, 1) := by decide +kernel
theorem dL_law_1880 : decode cL_law 1880 = .ok (.iadd, 1) := by decide +kernel
theorem dL_law_1881 : decode cL_law 1881 = .ok (.iaload, 1) := by decide +kernel
theorem dL_law_1882 : decode cL_law 1882 = .ok (.invokevirtual 261, 3) := by decide +kernel
theorem dL_law_1885 : decode cL_law 1885 = .ok (.if_icmp .eq 439, 3) := by decide +kernel
theorem dL_law_1888 : decode cL_law 1888 = .ok (.iconst 0, 1) := by decide +kernel
theorem dL_law_1889 : decode cL_law 1889 = .ok (.ireturn, 1) := by decide +kernel
theorem dL_law_1890 : decode cL_law 1890 = .ok (.aload_n 1, 1) := by decide +kernel
theorem dL_law_1891 : decode cL_law 1891 = .ok (.aload_n 0, 1) := by decide +kernel
theorem dL_law_1892 : decode cL_law 1892 = .ok (.iload_n 3, 1) := by decide +kernel
theorem dL_law_1893 : decode cL_law 1893 = .ok (.iconst 1, 1) := by decide +kernel
theorem dL_law_1894 : decode cL_law 1894 = .ok (.iadd, 1) := by decide +kernel
theorem dL_law_1895 : decode cL_law 1895 = .ok (.iaload, 1) := by decide +kernel
theorem dL_law_1896 : decode cL_law 1896 = .ok (.invokevirtual 262, 3) := by decide +kernel
theorem dL_law_1899 : decode cL_law 1899 = .ok (.aload_n 2, 1) := by decide +kernel
theorem dL_law_1900 : decode cL_law 1900 = .ok (.aload_n 0, 1) := by decide +kernel
theorem dL_law_1901 : decode cL_law 1901 = .ok (.iload_n 3, 1) := by decide +kernel
theorem dL_law_1902 : decode cL_law 1902 = .ok (.iconst 1, 1) := by decide +kernel
theorem dL_law_1903 : decode cL_law 1903 = .ok (.iadd, 1) := by decide +kernel
theorem dL_law_1904 : decode cL_law 1904 = .ok (.iaload, 1) := by decide +kernel
theorem dL_law_1905 : decode cL_law 1905 = .ok (.invokevirtual 265, 3) := by decide +kernel
theorem dL_law_1908 : decode cL_law 1908 = .ok (.if_icmp .eq 416, 3) := by decide +kernel
theorem dL_law_1911 : decode cL_law 1911 = .ok (.iconst 0, 1) := by decide +kernel
theorem dL_law_1912 : decode cL_law 1912 = .ok (.ireturn, 1) := by decide +kernel
theorem dL_law_1913 : decode cL_law 1913 = .ok (.aload_n 1, 1) := by decide +kernel
theorem dL_law_1914 : decode cL_law 1914 = .ok (.invokevirtual 266, 3) := by decide +kernel
theorem dL_law_1917 : decode cL_law 1917 = .ok (.aload_n 2, 1) := by decide +kernel
theorem dL_law_1918 : decode cL_law 1918 = .ok (.invokevirtual 269, 3) := by decide +kernel
theorem dL_law_1921 : decode cL_law 1921 = .ok (.if_icmp .eq 403, 3) := by decide +kernel
theorem dL_law_1924 : decode cL_law 1924 = .ok (.iconst 0, 1) := by decide +kernel
theorem dL_law_1925 : decode cL_law 1925 = .ok (.ireturn, 1) := by decide +kernel
theorem dL_law_1926 : decode cL_law 1926 = .ok (.aload_n 1, 1) := by decide +kernel
theorem dL_law_1927 : decode cL_law 1927 = .ok (.aload_n 0, 1) := by decide +kernel
theorem dL_law_1928 : decode cL_law 1928 = .ok (.iload_n 3, 1) := by decide +kernel
theorem dL_law_1929 : decode cL_law 1929 = .ok (.iconst 1, 1) := by decide +kernel
theorem dL_law_1930 : decode cL_law 1930 = .ok (.iadd, 1) := by decide +kernel
theorem dL_law_1931 : decode cL_law 1931 = .ok (.iaload, 1) := by decide +kernel
theorem dL_law_1932 : decode cL_law 1932 = .ok (.invokevirtual 270, 3) := by decide +kernel
theorem dL_law_1935 : decode cL_law 1935 = .ok (.aload_n 2, 1) := by decide +kernel
theorem dL_law_1936 : decode cL_law 1936 = .ok (.aload_n 0, 1) := by decide +kernel
theorem dL_law_1937 : decode cL_law 1937 = .ok (.iload_n 3, 1) := by decide +kernel
theorem dL_law_1938 : decode cL_law 1938 = .ok (.iconst 1, 1) := by decide +kernel
theorem dL_law_1939 : decode cL_law 1939 = .ok (.iadd, 1) := by decide +kernel
theorem dL_law_1940 : decode cL_law 1940 = .ok (.iaload, 1) := by decide +kernel
theorem dL_law_1941 : decode cL_law 1941 = .ok (.invokevirtual 273, 3) := by decide +kernel
theorem dL_law_1944 : decode cL_law 1944 = .ok (.if_icmp .eq 380, 3) := by decide +kernel
theorem dL_law_1947 : decode cL_law 1947 = .ok (.iconst 0, 1) := by decide +kernel
theorem dL_law_1948 : decode cL_law 1948 = .ok (.ireturn, 1) := by decide +kernel
theorem dL_law_1949 : decode cL_law 1949 = .ok (.aload_n 1, 1) := by decide +kernel
theorem dL_law_1950 : decode cL_law 1950 = .ok (.invokevirtual 274, 3) := by decide +kernel
theorem dL_law_1953 : decode cL_law 1953 = .ok (.aload_n 2, 1) := by decide +kernel
theorem dL_law_1954 : decode cL_law 1954 = .ok (.invokevirtual 277, 3) := by decide +kernel
theorem dL_law_1957 : decode cL_law 1957 = .ok (.if_icmp .eq 367, 3) := by decide +kernel
theorem dL_law_1960 : decode cL_law 1960 = .ok (.iconst 0, 1) := by decide +kernel
theorem dL_law_1961 : decode cL_law 1961 = .ok (.ireturn, 1) := by decide +kernel
theorem dL_law_1962 : decode cL_law 1962 = .ok (.aload_n 1, 1) := by decide +kernel
theorem dL_law_1963 : decode cL_law 1963 = .ok (.aload_n 0, 1) := by decide +kernel
theorem dL_law_1964 : decode cL_law 1964 = .ok (.iload_n 3, 1) := by decide +kernel
theorem dL_law_1965 : decode cL_law 1965 = .ok (.iconst 1, 1) := by decide +kernel
theorem dL_law_1966 : decode cL_law 1966 = .ok (.iadd, 1) := by decide +kernel
theorem dL_law_1967 : decode cL_law 1967 = .ok (.iaload, 1) := by decide +kernel
theorem dL_law_1968 : decode cL_law 1968 = .ok (.invokevirtual 278, 3) := by decide +kernel
theorem dL_law_1971 : decode cL_law 1971 = .ok (.aload_n 2, 1) := by decide +kernel
theorem dL_law_1972 : decode cL_law 1972 = .ok (.aload_n 0, 1) := by decide +kernel
theorem dL_law_1973 : decode cL_law 1973 = .ok (.iload_n 3, 1) := by decide +kernel
theorem dL_law_1974 : decode cL_law 1974 = .ok (.iconst 1, 1) := by decide +kernel
theorem dL_law_1975 : decode cL_law 1975 = .ok (.iadd, 1) := by decide +kernel
theorem dL_law_1976 : decode cL_law 1976 = .ok (.iaload, 1) := by decide +kernel
theorem dL_law_1977 : decode cL_law 1977 = .ok (.invokevirtual 281, 3) := by decide +kernel
theorem dL_law_1980 : decode cL_law 1980 = .ok (.if_icmp .eq 344, 3) := by decide +kernel
theorem dL_law_1983 : decode cL_law 1983 = .ok (.iconst 0, 1) := by decide +kernel
theorem dL_law_1984 : decode cL_law 1984 = .ok (.ireturn, 1) := by decide +kernel
theorem dL_law_1985 : decode cL_law 1985 = .ok (.aload_n 1, 1) := by decide +kernel
theorem dL_law_1986 : decode cL_law 1986 = .ok (.invokevirtual 282, 3) := by decide +kernel
theorem dL_law_1989 : decode cL_law 1989 = .ok (.aload_n 2, 1) := by decide +kernel
theorem dL_law_1990 : decode cL_law 1990 = .ok (.invokevirtual 285, 3) := by decide +kernel
theorem dL_law_1993 : decode cL_law 1993 = .ok (.if_icmp .eq 331, 3) := by decide +kernel
theorem dL_law_1996 : decode cL_law 1996 = .ok (.iconst 0, 1) := by decide +kernel
theorem dL_law_1997 : decode cL_law 1997 = .ok (.ireturn, 1) := by decide +kernel
theorem dL_law_1998 : decode cL_law 1998 = .ok (.aload_n 1, 1) := by decide +kernel
theorem dL_law_1999 : decode cL_law 1999 = .ok (.invokevirtual 286, 3) := by decide +kernel
theorem dL_law_2002 : decode cL_law 2002 = .ok (.aload_n 2, 1) := by decide +kernel
theorem dL_law_2003 : decode cL_law 2003 = .ok (.invokevirtual 289, 3) := by decide +kernel
theorem dL_law_2006 : decode cL_law 2006 = .ok (.if_icmp .eq 318, 3) := by decide +kernel
theorem dL_law_2009 : decode cL_law 2009 = .ok (.iconst 0, 1) := by decide +kernel
theorem dL_law_2010 : decode cL_law 2010 = .ok (.ireturn, 1) := by decide +kernel
theorem dL_law_2011 : decode cL_law 2011 = .ok (.aload_n 1, 1) := by decide +kernel
theorem dL_law_2012 : decode cL_law 2012 = .ok (.invokevirtual 290, 3) := by decide +kernel
theorem dL_law_2015 : decode cL_law 2015 = .ok (.aload_n 2, 1) := by decide +kernel
theorem dL_law_2016 : decode cL_law 2016 = .ok (.invokevirtual 293, 3) := by decide +kernel
theorem dL_law_2019 : decode cL_law 2019 = .ok (.if_icmp .eq 305, 3) := by decide +kernel
theorem dL_law_2022 : decode cL_law 2022 = .ok (.iconst 0, 1) := by decide +kernel
theorem dL_law_2023 : decode cL_law 2023 = .ok (.ireturn, 1) := by decide +kernel
theorem dL_law_2024 : decode cL_law 2024 = .ok (.aload_n 1, 1) := by decide +kernel
theorem dL_law_2025 : decode cL_law 2025 = .ok (.aload_n 0, 1) := by decide +kernel
theorem dL_law_2026 : decode cL_law 2026 = .ok (.iload_n 3, 1) := by decide +kernel
theorem dL_law_2027 : decode cL_law 2027 = .ok (.iconst 1, 1) := by decide +kernel
theorem dL_law_2028 : decode cL_law 2028 = .ok (.iadd, 1) := by decide +kernel
theorem dL_law_2029 : decode cL_law 2029 = .ok (.iaload, 1) := by decide +kernel
theorem dL_law_2030 : decode cL_law 2030 = .ok (.invokevirtual 294, 3) := by decide +kernel
theorem dL_law_2033 : decode cL_law 2033 = .ok (.aload_n 2, 1) := by decide +kernel
theorem dL_law_2034 : decode cL_law 2034 = .ok (.aload_n 0, 1) := by decide +kernel
theorem dL_law_2035 : decode cL_law 2035 = .ok (.iload_n 3, 1) := by decide +kernel
theorem dL_law_2036 : decode cL_law 2036 = .ok (.iconst 1, 1) := by decide +kernel
theorem dL_law_2037 : decode cL_law 2037 = .ok (.iadd, 1) := by decide +kernel
theorem dL_law_2038 : decode cL_law 2038 = .ok (.iaload, 1) := by decide +kernel
theorem dL_law_2039 : decode cL_law 2039 = .ok (.invokevirtual 297, 3) := by decide +kernel
theorem dL_law_2042 : decode cL_law 2042 = .ok (.if_icmp .eq 282, 3) := by decide +kernel
theorem dL_law_2045 : decode cL_law 2045 = .ok (.iconst 0, 1) := by decide +kernel
theorem dL_law_2046 : decode cL_law 2046 = .ok (.ireturn, 1) := by decide +kernel
theorem dL_law_2047 : decode cL_law 2047 = .ok (.aload_n 1, 1) := by decide +kernel
theorem dL_law_2048 : decode cL_law 2048 = .ok (.aload_n 0, 1) := by decide +kernel
theorem dL_law_2049 : decode cL_law 2049 = .ok (.iload_n 3, 1) := by decide +kernel
theorem dL_law_2050 : decode cL_law 2050 = .ok (.iconst 1, 1) := by decide +kernel
theorem dL_law_2051 : decode cL_law 2051 = .ok (.iadd, 1) := by decide +kernel
theorem dL_law_2052 : decode cL_law 2052 = .ok (.iaload, 1) := by decide +kernel
theorem dL_law_2053 : decode cL_law 2053 = .ok (.invokevirtual 298, 3) := by decide +kernel
theorem dL_law_2056 : decode cL_law 2056 = .ok (.aload_n 2, 1) := by decide +kernel
theorem dL_law_2057 : decode cL_law 2057 = .ok (.aload_n 0, 1) := by decide +kernel
theorem dL_law_2058 : decode cL_law 2058 = .ok (.iload_n 3, 1) := by decide +kernel
theorem dL_law_2059 : decode cL_law 2059 = .ok (.iconst 1, 1) := by decide +kernel
theorem dL_law_2060 : decode cL_law 2060 = .ok (.iadd, 1) := by decide +kernel
theorem dL_law_2061 : decode cL_law 2061 = .ok (.iaload, 1) := by decide +kernel
theorem dL_law_2062 : decode cL_law 2062 = .ok (.invokevirtual 301, 3) := by decide +kernel
end
section
theorem dL_law_2065 : decode cL_law 2065 = .ok (.if_icmp .eq 259, 3) := by decide +kernel
theorem dL_law_2068 : decode cL_law 2068 = .ok (.iconst 0, 1) := by decide +kernel
theorem dL_law_2069 : decode cL_law 2069 = .ok (.ireturn, 1) := by decide +kernel
theorem dL_law_2070 : decode cL_law 2070 = .ok (.aload_n 1, 1) := by decide +kernel
theorem dL_law_2071 : decode cL_law 2071 = .ok (.aload_n 0, 1) := by decide +kernel
theorem dL_law_2072 : decode cL_law 2072 = .ok (.iload_n 3, 1) := by decide +kernel
theorem dL_law_2073 : decode cL_law 2073 = .ok (.iconst 1, 1) := by decide +kernel
theorem dL_law_2074 : decode cL_law 2074 = .ok (.iadd, 1) := by decide +kernel
theorem dL_law_2075 : decode cL_law 2075 = .ok (.iaload, 1) := by decide +kernel
theorem dL_law_2076 : decode cL_law 2076 = .ok (.invokevirtual 302, 3) := by decide +kernel
theorem dL_law_2079 : decode cL_law 2079 = .ok (.aload_n 2, 1) := by decide +kernel
theorem dL_law_2080 : decode cL_law 2080 = .ok (.aload_n 0, 1) := by decide +kernel
theorem dL_law_2081 : decode cL_law 2081 = .ok (.iload_n 3, 1) := by decide +kernel
theorem dL_law_2082 : decode cL_law 2082 = .ok (.iconst 1, 1) := by decide +kernel
theorem dL_law_2083 : decode cL_law 2083 = .ok (.iadd, 1) := by decide +kernel
theorem dL_law_2084 : decode cL_law 2084 = .ok (.iaload, 1) := by decide +kernel
theorem dL_law_2085 : decode cL_law 2085 = .ok (.invokevirtual 305, 3) := by decide +kernel
theorem dL_law_2088 : decode cL_law 2088 = .ok (.if_icmp .eq 236, 3) := by decide +kernel
theorem dL_law_2091 : decode cL_law 2091 = .ok (.iconst 0, 1) := by decide +kernel
theorem dL_law_2092 : decode cL_law 2092 = .ok (.ireturn, 1) := by decide +kernel
theorem dL_law_2093 : decode cL_law 2093 = .ok (.aload_n 1, 1) := by decide +kernel
theorem dL_law_2094 : decode cL_law 2094 = .ok (.aload_n 0, 1) := by decide +kernel
theorem dL_law_2095 : decode cL_law 2095 = .ok (.iload_n 3, 1) := by decide +kernel
theorem dL_law_2096 : decode cL_law 2096 = .ok (.iconst 1, 1) := by decide +kernel
theorem dL_law_2097 : decode cL_law 2097 = .ok (.iadd, 1) := by decide +kernel
theorem dL_law_2098 : decode cL_law 2098 = .ok (.iaload, 1) := by decide +kernel
theorem dL_law_2099 : decode cL_law 2099 = .ok (.invokevirtual 306, 3) := by decide +kernel
theorem dL_law_2102 : decode cL_law 2102 = .ok (.aload_n 2, 1) := by decide +kernel
theorem dL_law_2103 : decode cL_law 2103 = .ok (.aload_n 0, 1) := by decide +kernel
theorem dL_law_2104 : decode cL_law 2104 = .ok (.iload_n 3, 1) := by decide +kernel
theorem dL_law_2105 : decode cL_law 2105 = .ok (.iconst 1, 1) := by decide +kernel
theorem dL_law_2106 : decode cL_law 2106 = .ok (.iadd, 1) := by decide +kernel
theorem dL_law_2107 : decode cL_law 2107 = .ok (.iaload, 1) := by decide +kernel
theorem dL_law_2108 : decode cL_law 2108 = .ok (.invokevirtual 309, 3) := by decide +kernel
theorem dL_law_2111 : decode cL_law 2111 = .ok (.if_icmp .eq 213, 3) := by decide +kernel
theorem dL_law_2114 : decode cL_law 2114 = .ok (.iconst 0, 1) := by decide +kernel
theorem dL_law_2115 : decode cL_law 2115 = .ok (.ireturn, 1) := by decide +kernel
theorem dL_law_2116 : decode cL_law 2116 = .ok (.aload_n 1, 1) := by decide +kernel
theorem dL_law_2117 : decode cL_law 2117 = .ok (.aload_n 0, 1) := by decide +kernel
theorem dL_law_2118 : decode cL_law 2118 = .ok (.iload_n 3, 1) := by decide +kernel
theorem dL_law_2119 : decode cL_law 2119 = .ok (.iconst 1, 1) := by decide +kernel
theorem dL_law_2120 : decode cL_law 2120 = .ok (.iadd, 1) := by decide +kernel
theorem dL_law_2121 : decode cL_law 2121 = .ok (.iaload, 1) := by decide +kernel
theorem dL_law_2122 : decode cL_law 2122 = .ok (.aload_n 0, 1) := by decide +kernel
theorem dL_law_2123 : decode cL_law 2123 = .ok (.iload_n 3, 1) := by decide +kernel
theorem dL_law_2124 : decode cL_law 2124 = .ok (.iconst 2, 1) := by decide +kernel
theorem dL_law_2125 : decode cL_law 2125 = .ok (.iadd, 1) := by decide +kernel
theorem dL_law_2126 : decode cL_law 2126 = .ok (.iaload, 1) := by decide +kernel
theorem dL_law_2127 : decode cL_law 2127 = .ok (.invokevirtual 310, 3) := by decide +kernel
theorem dL_law_2130 : decode cL_law 2130 = .ok (.aload_n 2, 1) := by decide +kernel
theorem dL_law_2131 : decode cL_law 2131 = .ok (.aload_n 0, 1) := by decide +kernel
theorem dL_law_2132 : decode cL_law 2132 = .ok (.iload_n 3, 1) := by decide +kernel
theorem dL_law_2133 : decode cL_law 2133 = .ok (.iconst 1, 1) := by decide +kernel
theorem dL_law_2134 : decode cL_law 2134 = .ok (.iadd, 1) := by decide +kernel
theorem dL_law_2135 : decode cL_law 2135 = .ok (.iaload, 1) := by decide +kernel
theorem dL_law_2136 : decode cL_law 2136 = .ok (.aload_n 0, 1) := by decide +kernel
theorem dL_law_2137 : decode cL_law 2137 = .ok (.iload_n 3, 1) := by decide +kernel
theorem dL_law_2138 : decode cL_law 2138 = .ok (.iconst 2, 1) := by decide +kernel
theorem dL_law_2139 : decode cL_law 2139 = .ok (.iadd, 1) := by decide +kernel
theorem dL_law_2140 : decode cL_law 2140 = .ok (.iaload, 1) := by decide +kernel
theorem dL_law_2141 : decode cL_law 2141 = .ok (.invokevirtual 313, 3) := by decide +kernel
theorem dL_law_2144 : decode cL_law 2144 = .ok (.if_icmp .eq 180, 3) := by decide +kernel
theorem dL_law_2147 : decode cL_law 2147 = .ok (.iconst 0, 1) := by decide +kernel
theorem dL_law_2148 : decode cL_law 2148 = .ok (.ireturn, 1) := by decide +kernel
theorem dL_law_2149 : decode cL_law 2149 = .ok (.aload_n 1, 1) := by decide +kernel
theorem dL_law_2150 : decode cL_law 2150 = .ok (.aload_n 0, 1) := by decide +kernel
theorem dL_law_2151 : decode cL_law 2151 = .ok (.iload_n 3, 1) := by decide +kernel
theorem dL_law_2152 : decode cL_law 2152 = .ok (.iconst 1, 1) := by decide +kernel
theorem dL_law_2153 : decode cL_law 2153 = .ok (.iadd, 1) := by decide +kernel
theorem dL_law_2154 : decode cL_law 2154 = .ok (.iaload, 1) := by decide +kernel
theorem dL_law_2155 : decode cL_law 2155 = .ok (.aload_n 0, 1) := by decide +kernel
theorem dL_law_2156 : decode cL_law 2156 = .ok (.iload_n 3, 1) := by decide +kernel
theorem dL_law_2157 : decode cL_law 2157 = .ok (.iconst 2, 1) := by decide +kernel
theorem dL_law_2158 : decode cL_law 2158 = .ok (.iadd, 1) := by decide +kernel
theorem dL_law_2159 : decode cL_law 2159 = .ok (.iaload, 1) := by decide +kernel
theorem dL_law_2160 : decode cL_law 2160 = .ok (.aload_n 0, 1) := by decide +kernel
theorem dL_law_2161 : decode cL_law 2161 = .ok (.iload_n 3, 1) := by decide +kernel
theorem dL_law_2162 : decode cL_law 2162 = .ok (.iconst 3, 1) := by decide +kernel
theorem dL_law_2163 : decode cL_law 2163 = .ok (.iadd, 1) := by decide +kernel
theorem dL_law_2164 : decode cL_law 2164 = .ok (.iaload, 1) := by decide +kernel
theorem dL_law_2165 : decode cL_law 2165 = .ok (.invokevirtual 314, 3) := by decide +kernel
theorem dL_law_2168 : decode cL_law 2168 = .ok (.aload_n 2, 1) := by decide +kernel
theorem dL_law_2169 : decode cL_law 2169 = .ok (.aload_n 0, 1) := by decide +kernel
theorem dL_law_2170 : decode cL_law 2170 = .ok (.iload_n 3, 1) := by decide +kernel
theorem dL_law_2171 : decode cL_law 2171 = .ok (.iconst 1, 1) := by decide +kernel
theorem dL_law_2172 : decode cL_law 2172 = .ok (.iadd, 1) := by decide +kernel
theorem dL_law_2173 : decode cL_law 2173 = .ok (.iaload, 1) := by decide +kernel
theorem dL_law_2174 : decode cL_law 2174 = .ok (.aload_n 0, 1) := by decide +kernel
theorem dL_law_2175 : decode cL_law 2175 = .ok (.iload_n 3, 1) := by decide +kernel
theorem dL_law_2176 : decode cL_law 2176 = .ok (.iconst 2, 1) := by decide +kernel
theorem dL_law_2177 : decode cL_law 2177 = .ok (.iadd, 1) := by decide +kernel
theorem dL_law_2178 : decode cL_law 2178 = .ok (.iaload, 1) := by decide +kernel
theorem dL_law_2179 : decode cL_law 2179 = .ok (.aload_n 0, 1) := by decide +kernel
theorem dL_law_2180 : decode cL_law 2180 = .ok (.iload_n 3, 1) := by decide +kernel
theorem dL_law_2181 : decode cL_law 2181 = .ok (.iconst 3, 1) := by decide +kernel
theorem dL_law_2182 : decode cL_law 2182 = .ok (.iadd, 1) := by decide +kernel
theorem dL_law_2183 : decode cL_law 2183 = .ok (.iaload, 1) := by decide +kernel
theorem dL_law_2184 : decode cL_law 2184 = .ok (.invokevirtual 317, 3) := by decide +kernel
theorem dL_law_2187 : decode cL_law 2187 = .ok (.if_icmp .eq 137, 3) := by decide +kernel
theorem dL_law_2190 : decode cL_law 2190 = .ok (.iconst 0, 1) := by decide +kernel
theorem dL_law_2191 : decode cL_law 2191 = .ok (.ireturn, 1) := by decide +kernel
theorem dL_law_2192 : decode cL_law 2192 = .ok (.aload_n 1, 1) := by decide +kernel
theorem dL_law_2193 : decode cL_law 2193 = .ok (.aload_n 0, 1) := by decide +kernel
theorem dL_law_2194 : decode cL_law 2194 = .ok (.iload_n 3, 1) := by decide +kernel
theorem dL_law_2195 : decode cL_law 2195 = .ok (.iconst 1, 1) := by decide +kernel
theorem dL_law_2196 : decode cL_law 2196 = .ok (.iadd, 1) := by decide +kernel
theorem dL_law_2197 : decode cL_law 2197 = .ok (.iaload, 1) := by decide +kernel
theorem dL_law_2198 : decode cL_law 2198 = .ok (.aload_n 0, 1) := by decide +kernel
theorem dL_law_2199 : decode cL_law 2199 = .ok (.iload_n 3, 1) := by decide +kernel
theorem dL_law_2200 : decode cL_law 2200 = .ok (.iconst 2, 1) := by decide +kernel
theorem dL_law_2201 : decode cL_law 2201 = .ok (.iadd, 1) := by decide +kernel
theorem dL_law_2202 : decode cL_law 2202 = .ok (.iaload, 1) := by decide +kernel
theorem dL_law_2203 : decode cL_law 2203 = .ok (.invokevirtual 318, 3) := by decide +kernel
theorem dL_law_2206 : decode cL_law 2206 = .ok (.aload_n 2, 1) := by decide +kernel
theorem dL_law_2207 : decode cL_law 2207 = .ok (.aload_n 0, 1) := by decide +kernel
theorem dL_law_2208 : decode cL_law 2208 = .ok (.iload_n 3, 1) := by decide +kernel
theorem dL_law_2209 : decode cL_law 2209 = .ok (.iconst 1, 1) := by decide +kernel
theorem dL_law_2210 : decode cL_law 2210 = .ok (.iadd, 1) := by decide +kernel
theorem dL_law_2211 : decode cL_law 2211 = .ok (.iaload, 1) := by decide +kernel
theorem dL_law_2212 : decode cL_law 2212 = .ok (.aload_n 0, 1) := by decide +kernel
theorem dL_law_2213 : decode cL_law 2213 = .ok (.iload_n 3, 1) := by decide +kernel
theorem dL_law_2214 : decode cL_law 2214 = .ok (.iconst 2, 1) := by decide +kernel
theorem dL_law_2215 : decode cL_law 2215 = .ok (.iadd, 1) := by decide +kernel
theorem dL_law_2216 : decode cL_law 2216 = .ok (.iaload, 1) := by decide +kernel
theorem dL_law_2217 : decode cL_law 2217 = .ok (.invokevirtual 322, 3) := by decide +kernel
theorem dL_law_2220 : decode cL_law 2220 = .ok (.lcmp, 1) := by decide +kernel
theorem dL_law_2221 : decode cL_law 2221 = .ok (.ifCond .eq 103, 3) := by decide +kernel
theorem dL_law_2224 : decode cL_law 2224 = .ok (.iconst 0, 1) := by decide +kernel
theorem dL_law_2225 : decode cL_law 2225 = .ok (.ireturn, 1) := by decide +kernel
theorem dL_law_2226 : decode cL_law 2226 = .ok (.aload_n 1, 1) := by decide +kernel
theorem dL_law_2227 : decode cL_law 2227 = .ok (.aload_n 0, 1) := by decide +kernel
theorem dL_law_2228 : decode cL_law 2228 = .ok (.iload_n 3, 1) := by decide +kernel
theorem dL_law_2229 : decode cL_law 2229 = .ok (.iconst 1, 1) := by decide +kernel
theorem dL_law_2230 : decode cL_law 2230 = .ok (.iadd, 1) := by decide +kernel
theorem dL_law_2231 : decode cL_law 2231 = .ok (.iaload, 1) := by decide +kernel
theorem dL_law_2232 : decode cL_law 2232 = .ok (.aload_n 0, 1) := by decide +kernel
theorem dL_law_2233 : decode cL_law 2233 = .ok (.iload_n 3, 1) := by decide +kernel
theorem dL_law_2234 : decode cL_law 2234 = .ok (.iconst 2, 1) := by decide +kernel
theorem dL_law_2235 : decode cL_law 2235 = .ok (.iadd, 1) := by decide +kernel
theorem dL_law_2236 : decode cL_law 2236 = .ok (.iaload, 1) := by decide +kernel
theorem dL_law_2237 : decode cL_law 2237 = .ok (.invokevirtual 323, 3) := by decide +kernel
theorem dL_law_2240 : decode cL_law 2240 = .ok (.aload_n 2, 1) := by decide +kernel
theorem dL_law_2241 : decode cL_law 2241 = .ok (.aload_n 0, 1) := by decide +kernel
theorem dL_law_2242 : decode cL_law 2242 = .ok (.iload_n 3, 1) := by decide +kernel
theorem dL_law_2243 : decode cL_law 2243 = .ok (.iconst 1, 1) := by decide +kernel
theorem dL_law_2244 : decode cL_law 2244 = .ok (.iadd, 1) := by decide +kernel
theorem dL_law_2245 : decode cL_law 2245 = .ok (.iaload, 1) := by decide +kernel
theorem dL_law_2246 : decode cL_law 2246 = .ok (.aload_n 0, 1) := by decide +kernel
theorem dL_law_2247 : decode cL_law 2247 = .ok (.iload_n 3, 1) := by decide +kernel
theorem dL_law_2248 : decode cL_law 2248 = .ok (.iconst 2, 1) := by decide +kernel
theorem dL_law_2249 : decode cL_law 2249 = .ok (.iadd, 1) := by decide +kernel
theorem dL_law_2250 : decode cL_law 2250 = .ok (.iaload, 1) := by decide +kernel
theorem dL_law_2251 : decode cL_law 2251 = .ok (.invokevirtual 326, 3) := by decide +kernel
theorem dL_law_2254 : decode cL_law 2254 = .ok (.if_icmp .eq 70, 3) := by decide +kernel
theorem dL_law_2257 : decode cL_law 2257 = .ok (.iconst 0, 1) := by decide +kernel
theorem dL_law_2258 : decode cL_law 2258 = .ok (.ireturn, 1) := by decide +kernel
theorem dL_law_2259 : decode cL_law 2259 = .ok (.aload_n 1, 1) := by decide +kernel
theorem dL_law_2260 : decode cL_law 2260 = .ok (.invokevirtual 327, 3) := by decide +kernel
theorem dL_law_2263 : decode cL_law 2263 = .ok (.aload_n 2, 1) := by decide +kernel
theorem dL_law_2264 : decode cL_law 2264 = .ok (.invokevirtual 330, 3) := by decide +kernel
theorem dL_law_2267 : decode cL_law 2267 = .ok (.if_icmp .eq 57, 3) := by decide +kernel
theorem dL_law_2270 : decode cL_law 2270 = .ok (.iconst 0, 1) := by decide +kernel
theorem dL_law_2271 : decode cL_law 2271 = .ok (.ireturn, 1) := by decide +kernel
theorem dL_law_2272 : decode cL_law 2272 = .ok (.aload_n 1, 1) := by decide +kernel
theorem dL_law_2273 : decode cL_law 2273 = .ok (.invokevirtual 331, 3) := by decide +kernel
theorem dL_law_2276 : decode cL_law 2276 = .ok (.aload_n 2, 1) := by decide +kernel
theorem dL_law_2277 : decode cL_law 2277 = .ok (.invokevirtual 334, 3) := by decide +kernel
theorem dL_law_2280 : decode cL_law 2280 = .ok (.if_icmp .eq 44, 3) := by decide +kernel
theorem dL_law_2283 : decode cL_law 2283 = .ok (.iconst 0, 1) := by decide +kernel
theorem dL_law_2284 : decode cL_law 2284 = .ok (.ireturn, 1) := by decide +kernel
theorem dL_law_2285 : decode cL_law 2285 = .ok (.aload_n 1, 1) := by decide +kernel
theorem dL_law_2286 : decode cL_law 2286 = .ok (.invokevirtual 335, 3) := by decide +kernel
theorem dL_law_2289 : decode cL_law 2289 = .ok (.aload_n 2, 1) := by decide +kernel
theorem dL_law_2290 : decode cL_law 2290 = .ok (.invokevirtual 338, 3) := by decide +kernel
theorem dL_law_2293 : decode cL_law 2293 = .ok (.if_icmp .eq 31, 3) := by decide +kernel
theorem dL_law_2296 : decode cL_law 2296 = .ok (.iconst 0, 1) := by decide +kernel
theorem dL_law_2297 : decode cL_law 2297 = .ok (.ireturn, 1) := by decide +kernel
theorem dL_law_2298 : decode cL_law 2298 = .ok (.aload_n 1, 1) := by decide +kernel
theorem dL_law_2299 : decode cL_law 2299 = .ok (.invokevirtual 339, 3) := by decide +kernel
theorem dL_law_2302 : decode cL_law 2302 = .ok (.aload_n 2, 1) := by decide +kernel
theorem dL_law_2303 : decode cL_law 2303 = .ok (.invokevirtual 342, 3) := by decide +kernel
theorem dL_law_2306 : decode cL_law 2306 = .ok (.if_icmp .eq 18, 3) := by decide +kernel
theorem dL_law_2309 : decode cL_law 2309 = .ok (.iconst 0, 1) := by decide +kernel
theorem dL_law_2310 : decode cL_law 2310 = .ok (.ireturn, 1) := by decide +kernel
theorem dL_law_2311 : decode cL_law 2311 = .ok (.aload_n 1, 1) := by decide +kernel
theorem dL_law_2312 : decode cL_law 2312 = .ok (.invokevirtual 343, 3) := by decide +kernel
theorem dL_law_2315 : decode cL_law 2315 = .ok (.aload_n 2, 1) := by decide +kernel
theorem dL_law_2316 : decode cL_law 2316 = .ok (.invokevirtual 346, 3) := by decide +kernel
theorem dL_law_2319 : decode cL_law 2319 = .ok (.if_icmp .eq 5, 3) := by decide +kernel
theorem dL_law_2322 : decode cL_law 2322 = .ok (.iconst 0, 1) := by decide +kernel
theorem dL_law_2323 : decode cL_law 2323 = .ok (.ireturn, 1) := by decide +kernel
theorem dL_law_2324 : decode cL_law 2324 = .ok (.iinc 3 4, 3) := by decide +kernel
theorem dL_law_2327 : decode cL_law 2327 = .ok (.goto (-2309), 3) := by decide +kernel
theorem dL_law_2330 : decode cL_law 2330 = .ok (.iconst 1, 1) := by decide +kernel
theorem dL_law_2331 : decode cL_law 2331 = .ok (.ireturn, 1) := by decide +kernel
end
