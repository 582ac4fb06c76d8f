theorem iw_X0 : ∀ w ∈ u_ws RX0 TX0 2, w ∈ m_tbl := by decide +kernel
theorem iw_X1 : ∀ w ∈ u_ws RX1 TX1 3, w ∈ m_tbl := by decide +kernel
theorem iw_X2 : ∀ w ∈ u_ws RX2 TX2 10, w ∈ m_tbl := by decide +kernel
theorem iw_X3 : ∀ w ∈ u_ws RX3 TX3 5, w ∈ m_tbl := by decide +kernel
theorem iw_X4 : ∀ w ∈ u_ws RX4 TX4 7, w ∈ m_tbl := by decide +kernel
theorem iw_X5 : ∀ w ∈ u_ws RX5 TX5 3, w ∈ m_tbl := by decide +kernel
theorem iw_X7 : ∀ w ∈ u_ws RX7 TX7 2, w ∈ m_tbl := by decide +kernel
theorem iw_X8 : ∀ w ∈ u_ws RX8 TX8 2, w ∈ m_tbl := by decide +kernel
theorem iw_X9 : ∀ w ∈ u_ws RX9 TX9 5, w ∈ m_tbl := by decide +kernel
theorem iw_X10 : ∀ w ∈ u_ws RX10 TX10 5, w ∈ m_tbl := by decide +kernel
theorem iw_X11 : ∀ w ∈ u_ws RX11 TX11 9, w ∈ m_tbl := by decide +kernel
theorem iw_X12 : ∀ w ∈ u_ws RX12 TX12 31, w ∈ m_tbl := by decide +kernel
def M_X11_init : MI := (yX11_init, cX11_init, 2, none)
def M_X1_init : MI := (yX1_init, cX1_init, 1, none)
def M_X7_init : MI := (yX7_init, cX7_init, 2, none)
def M_J9_max_7cf53 : MI := (yJ9_max_7cf53, cJ9_max_7cf53, 2, some (.int))
def M_X2_init : MI := (yX2_init, cX2_init, 3, none)
def M_X4_init : MI := (yX4_init, cX4_init, 3, none)
def M_X0_init : MI := (yX0_init, cX0_init, 1, none)
def M_X10_init : MI := (yX10_init, cX10_init, 1, none)
def M_X5_init : MI := (yX5_init, cX5_init, 1, none)
def M_X3_init : MI := (yX3_init, cX3_init, 1, none)
def M_X8_init : MI := (yX8_init, cX8_init, 1, none)
def M_X9_init : MI := (yX9_init, cX9_init, 1, none)
def M_X11_setVertexCount : MI := (yX11_setVertexCount, cX11_setVertexCount, 3, some (.int))
def M_X11_replaceGraph : MI := (yX11_replaceGraph, cX11_replaceGraph, 4, none)
def M_X2_forget : MI := (yX2_forget, cX2_forget, 2, none)
def M_X4_forget : MI := (yX4_forget, cX4_forget, 1, none)
def M_X11_toggleEdge : MI := (yX11_toggleEdge, cX11_toggleEdge, 3, some (.int))
def M_X11_isVertex : MI := (yX11_isVertex, cX11_isVertex, 2, some (.boolean))
def M_X1_edgeBits : MI := (yX1_edgeBits, cX1_edgeBits, 2, some (.long))
def M_X11_recordChange : MI := (yX11_recordChange, cX11_recordChange, 3, none)
def M_X0_push : MI := (yX0_push, cX0_push, 3, none)
def M_X1_neighborsIn : MI := (yX1_neighborsIn, cX1_neighborsIn, 3, some (.int))
def M_X11_build : MI := (yX11_build, cX11_build, 2, some (.int))
def M_X1_matrixOfKind : MI := (yX1_matrixOfKind, cX1_matrixOfKind, 2, some (.long))
def M_X1_pathMatrix : MI := (yX1_pathMatrix, cX1_pathMatrix, 4, some (.long))
def M_X1_completeMatrix : MI := (yX1_completeMatrix, cX1_completeMatrix, 5, some (.long))
def M_X1_starMatrix : MI := (yX1_starMatrix, cX1_starMatrix, 4, some (.long))
def M_X1_edgeTotal : MI := (yX1_edgeTotal, cX1_edgeTotal, 1, some (.int))
def M_J13_bitCount_95d88 : MI := (yJ13_bitCount_95d88, cJ13_bitCount_95d88, 2, some (.int))
def M_X11_revertChange : MI := (yX11_revertChange, cX11_revertChange, 1, some (.int))
def M_X0_pop : MI := (yX0_pop, cX0_pop, 1, some (.long))
def M_X11_changeCount : MI := (yX11_changeCount, cX11_changeCount, 1, some (.int))
def M_X11_vertexCount : MI := (yX11_vertexCount, cX11_vertexCount, 1, some (.int))
def M_X11_edgeCount : MI := (yX11_edgeCount, cX11_edgeCount, 1, some (.int))
def M_X11_neighbors : MI := (yX11_neighbors, cX11_neighbors, 2, some (.int))
def M_X11_componentCount : MI := (yX11_componentCount, cX11_componentCount, 1, some (.int))
def M_X1_componentTotal : MI := (yX1_componentTotal, cX1_componentTotal, 4, some (.int))
def M_X1_allVertices : MI := (yX1_allVertices, cX1_allVertices, 1, some (.int))
def M_X1_componentOf : MI := (yX1_componentOf, cX1_componentOf, 6, some (.int))
def M_X11_hasOddCycle : MI := (yX11_hasOddCycle, cX11_hasOddCycle, 1, some (.int))
def M_X1_isBipartite : MI := (yX1_isBipartite, cX1_isBipartite, 3, some (.boolean))
def M_X1_isIndependent : MI := (yX1_isIndependent, cX1_isIndependent, 3, some (.boolean))
def M_X11_matchingNumber : MI := (yX11_matchingNumber, cX11_matchingNumber, 1, some (.int))
def M_X1_greatestCode : MI := (yX1_greatestCode, cX1_greatestCode, 1, some (.int))
def M_X2_powerOrderOf : MI := (yX2_powerOrderOf, cX2_powerOrderOf, 3, some (.int))
def M_X2_orderFromLowerCodes : MI := (yX2_orderFromLowerCodes, cX2_orderFromLowerCodes, 6, some (.int))
def M_J6_numberOfTrailingZeros_0f7a4 : MI := (yJ6_numberOfTrailingZeros_0f7a4, cJ6_numberOfTrailingZeros_0f7a4, 2, some (.int))
def M_X6_unit : MI := (yX6_unit, cX6_unit, 1, some (.int))
def M_X6_exponentOf : MI := (yX6_exponentOf, cX6_exponentOf, 2, some (.int))
def M_X11_coverCount : MI := (yX11_coverCount, cX11_coverCount, 1, some (.int))
def M_X2_minimalCovers : MI := (yX2_minimalCovers, cX2_minimalCovers, 2, some ((.object "EdgeIdeals$Row")))
def M_X1_isMinimalCover : MI := (yX1_isMinimalCover, cX1_isMinimalCover, 5, some (.boolean))
def M_X7_add : MI := (yX7_add, cX7_add, 2, some (.boolean))
def M_X6_maskOf : MI := (yX6_maskOf, cX6_maskOf, 3, some (.int))
def M_X11_cover : MI := (yX11_cover, cX11_cover, 2, some (.int))
def M_X11_itemOrError : MI := (yX11_itemOrError, cX11_itemOrError, 2, some (.int))
def M_X11_height : MI := (yX11_height, cX11_height, 1, some (.int))
def M_X2_smallestCoverSize : MI := (yX2_smallestCoverSize, cX2_smallestCoverSize, 4, some (.int))
def M_J6_bitCount_0f7a4 : MI := (yJ6_bitCount_0f7a4, cJ6_bitCount_0f7a4, 1, some (.int))
def M_J9_min_7cf53 : MI := (yJ9_min_7cf53, cJ9_min_7cf53, 2, some (.int))
def M_X11_bigHeight : MI := (yX11_bigHeight, cX11_bigHeight, 1, some (.int))
def M_X2_largestCoverSize : MI := (yX2_largestCoverSize, cX2_largestCoverSize, 4, some (.int))
def M_X11_eliminationLength : MI := (yX11_eliminationLength, cX11_eliminationLength, 2, some (.int))
def M_X11_isFlag : MI := (yX11_isFlag, cX11_isFlag, 1, some (.boolean))
def M_X1_elimination : MI := (yX1_elimination, cX1_elimination, 7, some ((.object "EdgeIdeals$Row")))
def M_X1_firstSimplicial : MI := (yX1_firstSimplicial, cX1_firstSimplicial, 5, some (.int))
def M_X1_isClique : MI := (yX1_isClique, cX1_isClique, 5, some (.boolean))
def M_X11_eliminated : MI := (yX11_eliminated, cX11_eliminated, 3, some (.int))
def M_X11_isChordal : MI := (yX11_isChordal, cX11_isChordal, 2, some (.int))
def M_X11_degree : MI := (yX11_degree, cX11_degree, 2, some (.int))
def M_X11_isCode : MI := (yX11_isCode, cX11_isCode, 2, some (.boolean))
def M_X6_degreeOf : MI := (yX6_degreeOf, cX6_degreeOf, 1, some (.int))
def M_X11_exponent : MI := (yX11_exponent, cX11_exponent, 3, some (.int))
def M_X11_powerOrder : MI := (yX11_powerOrder, cX11_powerOrder, 2, some (.int))
def M_X11_symbolicOrder : MI := (yX11_symbolicOrder, cX11_symbolicOrder, 2, some (.int))
def M_X2_symbolicOrderOf : MI := (yX2_symbolicOrderOf, cX2_symbolicOrderOf, 5, some (.int))
def M_X11_multiply : MI := (yX11_multiply, cX11_multiply, 3, some (.int))
def M_X6_divides : MI := (yX6_divides, cX6_divides, 2, some (.boolean))
def M_X6_exceeding : MI := (yX6_exceeding, cX6_exceeding, 6, some (.int))
def M_X11_divide : MI := (yX11_divide, cX11_divide, 3, some (.int))
def M_X11_lcm : MI := (yX11_lcm, cX11_lcm, 3, some (.int))
def M_X6_commonDivisor : MI := (yX6_commonDivisor, cX6_commonDivisor, 3, some (.int))
def M_X11_gcd : MI := (yX11_gcd, cX11_gcd, 3, some (.int))
def M_X11_generatorCount : MI := (yX11_generatorCount, cX11_generatorCount, 2, some (.int))
def M_X11_isPower : MI := (yX11_isPower, cX11_isPower, 1, some (.boolean))
def M_X2_generators : MI := (yX2_generators, cX2_generators, 4, some ((.object "EdgeIdeals$Row")))
def M_X11_generator : MI := (yX11_generator, cX11_generator, 3, some (.int))
def M_X11_symbolicGeneratorCount : MI := (yX11_symbolicGeneratorCount, cX11_symbolicGeneratorCount, 2, some (.int))
def M_X2_symbolicGenerators : MI := (yX2_symbolicGenerators, cX2_symbolicGenerators, 4, some ((.object "EdgeIdeals$Row")))
def M_X2_isSymbolicGenerator : MI := (yX2_isSymbolicGenerator, cX2_isSymbolicGenerator, 6, some (.boolean))
def M_X11_symbolicGenerator : MI := (yX11_symbolicGenerator, cX11_symbolicGenerator, 3, some (.int))
def M_X11_powersAgree : MI := (yX11_powersAgree, cX11_powersAgree, 2, some (.int))
def M_X7_mismatch : MI := (yX7_mismatch, cX7_mismatch, 4, some (.int))
def M_X11_firstDifference : MI := (yX11_firstDifference, cX11_firstDifference, 2, some (.int))
def M_X2_lowestOnlySymbolic : MI := (yX2_lowestOnlySymbolic, cX2_lowestOnlySymbolic, 4, some (.int))
def M_X11_countInPower : MI := (yX11_countInPower, cX11_countInPower, 6, some (.int))
def M_X11_isDegree : MI := (yX11_isDegree, cX11_isDegree, 1, some (.boolean))
def M_X11_countInSymbolicPower : MI := (yX11_countInSymbolicPower, cX11_countInSymbolicPower, 6, some (.int))
def M_X11_orderedGenerator : MI := (yX11_orderedGenerator, cX11_orderedGenerator, 5, some (.int))
def M_X11_stepError : MI := (yX11_stepError, cX11_stepError, 4, some (.int))
def M_X4_prepare : MI := (yX4_prepare, cX4_prepare, 3, some (.boolean))
def M_X4_readSequence : MI := (yX4_readSequence, cX4_readSequence, 6, some (.boolean))
def M_X7_copyFrom : MI := (yX7_copyFrom, cX7_copyFrom, 2, none)
def M_X4_sortBySequence : MI := (yX4_sortBySequence, cX4_sortBySequence, 3, none)
def M_X4_moveToSpare : MI := (yX4_moveToSpare, cX4_moveToSpare, 4, none)
def M_X11_colonVariables : MI := (yX11_colonVariables, cX11_colonVariables, 5, some (.int))
def M_X4_colonUnits : MI := (yX4_colonUnits, cX4_colonUnits, 6, some (.int))
def M_X4_hasExchange : MI := (yX4_hasExchange, cX4_hasExchange, 6, some (.boolean))
def M_X2_isListedGenerator : MI := (yX2_isListedGenerator, cX2_isListedGenerator, 3, some (.boolean))
def M_X6_supportOf : MI := (yX6_supportOf, cX6_supportOf, 3, some (.int))
def M_X11_isLinearStep : MI := (yX11_isLinearStep, cX11_isLinearStep, 5, some (.int))
def M_X4_isLinearAt : MI := (yX4_isLinearAt, cX4_isLinearAt, 5, some (.boolean))
def M_X11_firstNonLinearStep : MI := (yX11_firstNonLinearStep, cX11_firstNonLinearStep, 3, some (.int))
def M_X4_firstNonLinear : MI := (yX4_firstNonLinear, cX4_firstNonLinear, 2, some (.int))
def M_X11_bettiNumber : MI := (yX11_bettiNumber, cX11_bettiNumber, 4, some (.long))
def M_X4_bettiSum : MI := (yX4_bettiSum, cX4_bettiSum, 5, some (.long))
def M_X4_binomial : MI := (yX4_binomial, cX4_binomial, 4, some (.int))
def M_X11_addDegreeTest : MI := (yX11_addDegreeTest, cX11_addDegreeTest, 2, some (.int))
def M_X10_add : MI := (yX10_add, cX10_add, 5, some (.int))
def M_X11_addExponentTest : MI := (yX11_addExponentTest, cX11_addExponentTest, 3, some (.int))
def M_X11_isVariable : MI := (yX11_isVariable, cX11_isVariable, 1, some (.boolean))
def M_X11_addSquareFreeTest : MI := (yX11_addSquareFreeTest, cX11_addSquareFreeTest, 1, some (.int))
def M_X11_addPowerTest : MI := (yX11_addPowerTest, cX11_addPowerTest, 2, some (.int))
def M_X11_addSymbolicTest : MI := (yX11_addSymbolicTest, cX11_addSymbolicTest, 2, some (.int))
def M_X11_addAndTest : MI := (yX11_addAndTest, cX11_addAndTest, 3, some (.int))
def M_X11_isTest : MI := (yX11_isTest, cX11_isTest, 2, some (.boolean))
def M_X11_addOrTest : MI := (yX11_addOrTest, cX11_addOrTest, 3, some (.int))
def M_X11_addNotTest : MI := (yX11_addNotTest, cX11_addNotTest, 2, some (.int))
def M_X11_testCount : MI := (yX11_testCount, cX11_testCount, 1, some (.int))
def M_X11_passes : MI := (yX11_passes, cX11_passes, 3, some (.int))
def M_X10_accepts : MI := (yX10_accepts, cX10_accepts, 6, some (.boolean))
def M_X10_holds : MI := (yX10_holds, cX10_holds, 7, some (.boolean))
def M_X11_passCount : MI := (yX11_passCount, cX11_passCount, 5, some (.int))
def M_X11_passing : MI := (yX11_passing, cX11_passing, 6, some (.int))
def M_X11_append : MI := (yX11_append, cX11_append, 2, some (.int))
def M_X11_fillWithGenerators : MI := (yX11_fillWithGenerators, cX11_fillWithGenerators, 2, some (.int))
def M_X11_fillList : MI := (yX11_fillList, cX11_fillList, 2, some (.int))
def M_X11_fillWithSymbolicGenerators : MI := (yX11_fillWithSymbolicGenerators, cX11_fillWithSymbolicGenerators, 2, some (.int))
def M_X11_listSize : MI := (yX11_listSize, cX11_listSize, 1, some (.int))
def M_X11_element : MI := (yX11_element, cX11_element, 2, some (.int))
def M_X11_clearList : MI := (yX11_clearList, cX11_clearList, 2, some (.int))
def M_X11_minimizeList : MI := (yX11_minimizeList, cX11_minimizeList, 1, some (.int))
def M_X5_minimize : MI := (yX5_minimize, cX5_minimize, 2, none)
def M_X5_isSuperfluous : MI := (yX5_isSuperfluous, cX5_isSuperfluous, 4, some (.boolean))
def M_X11_divideListBy : MI := (yX11_divideListBy, cX11_divideListBy, 2, some (.int))
def M_X5_decreaseExponents : MI := (yX5_decreaseExponents, cX5_decreaseExponents, 3, none)
def M_X11_reverseList : MI := (yX11_reverseList, cX11_reverseList, 1, some (.int))
def M_X5_reverse : MI := (yX5_reverse, cX5_reverse, 2, none)
def M_X5_swap : MI := (yX5_swap, cX5_swap, 4, none)
def M_X11_rotateList : MI := (yX11_rotateList, cX11_rotateList, 2, some (.int))
def M_X5_rotate : MI := (yX5_rotate, cX5_rotate, 4, none)
def M_X11_swapElements : MI := (yX11_swapElements, cX11_swapElements, 3, some (.int))
def M_X7_has : MI := (yX7_has, cX7_has, 2, some (.boolean))
def M_X11_indexOfDivisor : MI := (yX11_indexOfDivisor, cX11_indexOfDivisor, 2, some (.int))
def M_X5_firstDivisorOf : MI := (yX5_firstDivisorOf, cX5_firstDivisorOf, 3, some (.int))
def M_X11_polarizedVariableCount : MI := (yX11_polarizedVariableCount, cX11_polarizedVariableCount, 1, some (.int))
def M_X5_polarizedTotal : MI := (yX5_polarizedTotal, cX5_polarizedTotal, 3, some (.int))
def M_X5_greatestExponentOf : MI := (yX5_greatestExponentOf, cX5_greatestExponentOf, 4, some (.int))
def M_X11_polarized : MI := (yX11_polarized, cX11_polarized, 2, some (.int))
def M_X5_polarizationOf : MI := (yX5_polarizationOf, cX5_polarizationOf, 6, some (.int))
def M_X11_hittingNumber : MI := (yX11_hittingNumber, cX11_hittingNumber, 1, some (.int))
def M_X5_smallestHittingSize : MI := (yX5_smallestHittingSize, cX5_smallestHittingSize, 3, some (.int))
def M_X5_hitsAll : MI := (yX5_hitsAll, cX5_hitsAll, 3, some (.boolean))
def M_X11_feed : MI := (yX11_feed, cX11_feed, 2, some (.int))
def M_X11_discardInput : MI := (yX11_discardInput, cX11_discardInput, 2, some (.int))
def M_X11_inputLength : MI := (yX11_inputLength, cX11_inputLength, 1, some (.int))
def M_X11_parse : MI := (yX11_parse, cX11_parse, 2, some (.int))
def M_X3_read : MI := (yX3_read, cX3_read, 2, some (.int))
def M_X3_take : MI := (yX3_take, cX3_take, 2, some (.boolean))
def M_X3_takeComma : MI := (yX3_takeComma, cX3_takeComma, 1, some (.boolean))
def M_X3_takeOne : MI := (yX3_takeOne, cX3_takeOne, 1, some (.boolean))
def M_X3_takeDigit : MI := (yX3_takeDigit, cX3_takeDigit, 2, some (.boolean))
def M_X3_takeLetter : MI := (yX3_takeLetter, cX3_takeLetter, 2, some (.boolean))
def M_X11_formattedLength : MI := (yX11_formattedLength, cX11_formattedLength, 1, some (.int))
def M_X5_formatted : MI := (yX5_formatted, cX5_formatted, 2, some ((.object "EdgeIdeals$Row")))
def M_X5_formatMonomial : MI := (yX5_formatMonomial, cX5_formatMonomial, 4, none)
def M_X11_formattedByte : MI := (yX11_formattedByte, cX11_formattedByte, 2, some (.int))
def M_X11_saveList : MI := (yX11_saveList, cX11_saveList, 2, some (.int))
def M_X11_isSlot : MI := (yX11_isSlot, cX11_isSlot, 1, some (.boolean))
def M_X11_loadList : MI := (yX11_loadList, cX11_loadList, 3, some (.int))
def M_X11_slotError : MI := (yX11_slotError, cX11_slotError, 3, some (.int))
def M_X11_clearSlot : MI := (yX11_clearSlot, cX11_clearSlot, 3, some (.int))
def M_X11_newArray : MI := (yX11_newArray, cX11_newArray, 3, some (.int))
def M_X7_fillWithZeros : MI := (yX7_fillWithZeros, cX7_fillWithZeros, 3, none)
def M_X11_setArrayElement : MI := (yX11_setArrayElement, cX11_setArrayElement, 5, some (.int))
def M_X11_arrayElement : MI := (yX11_arrayElement, cX11_arrayElement, 3, some (.long))
def M_X11_firstMismatch : MI := (yX11_firstMismatch, cX11_firstMismatch, 4, some (.int))
def M_X11_usedSlotCount : MI := (yX11_usedSlotCount, cX11_usedSlotCount, 3, some (.int))
def M_X11_takeSnapshot : MI := (yX11_takeSnapshot, cX11_takeSnapshot, 1, some (.int))
def M_X11_restoreSnapshot : MI := (yX11_restoreSnapshot, cX11_restoreSnapshot, 1, some (.int))
def M_X12_init : MI := (yX12_init, cX12_init, 1, none)
def M_X12_setVertexCount : MI := (yX12_setVertexCount, cX12_setVertexCount, 4, some (.int))
def M_X12_isBetween : MI := (yX12_isBetween, cX12_isBetween, 6, some (.boolean))
def M_X12_toggleEdge : MI := (yX12_toggleEdge, cX12_toggleEdge, 3, some (.int))
def M_X12_isVertex : MI := (yX12_isVertex, cX12_isVertex, 2, some (.boolean))
def M_X12_recordChange : MI := (yX12_recordChange, cX12_recordChange, 2, none)
def M_X12_isEdge : MI := (yX12_isEdge, cX12_isEdge, 3, some (.boolean))
def M_X12_build : MI := (yX12_build, cX12_build, 5, some (.int))
def M_X12_hasBuiltEdge : MI := (yX12_hasBuiltEdge, cX12_hasBuiltEdge, 6, some (.boolean))
def M_X12_edgeCount : MI := (yX12_edgeCount, cX12_edgeCount, 3, some (.int))
def M_X12_bitCount : MI := (yX12_bitCount, cX12_bitCount, 3, some (.int))
def M_X12_revertChange : MI := (yX12_revertChange, cX12_revertChange, 2, some (.int))
def M_X12_vertexCount : MI := (yX12_vertexCount, cX12_vertexCount, 1, some (.int))
def M_X12_neighbors : MI := (yX12_neighbors, cX12_neighbors, 2, some (.int))
def M_X12_componentCount : MI := (yX12_componentCount, cX12_componentCount, 4, some (.int))
def M_X12_reachable : MI := (yX12_reachable, cX12_reachable, 6, some (.int))
def M_X12_hasOddCycle : MI := (yX12_hasOddCycle, cX12_hasOddCycle, 5, some (.int))
def M_X12_allVertices : MI := (yX12_allVertices, cX12_allVertices, 1, some (.int))
def M_X12_matchingNumber : MI := (yX12_matchingNumber, cX12_matchingNumber, 1, some (.int))
def M_X12_matchingWithin : MI := (yX12_matchingWithin, cX12_matchingWithin, 7, some (.int))
def M_X12_coverCount : MI := (yX12_coverCount, cX12_coverCount, 1, some (.int))
def M_X12_update : MI := (yX12_update, cX12_update, 2, none)
def M_X12_isMinimalCover : MI := (yX12_isMinimalCover, cX12_isMinimalCover, 3, some (.boolean))
def M_X12_isCover : MI := (yX12_isCover, cX12_isCover, 3, some (.boolean))
def M_X12_codeCount : MI := (yX12_codeCount, cX12_codeCount, 1, some (.int))
def M_X12_findPowerOrder : MI := (yX12_findPowerOrder, cX12_findPowerOrder, 6, some (.int))
def M_X12_exponentOf : MI := (yX12_exponentOf, cX12_exponentOf, 2, some (.int))
def M_X12_findSymbolicOrder : MI := (yX12_findSymbolicOrder, cX12_findSymbolicOrder, 6, some (.int))
def M_X12_cover : MI := (yX12_cover, cX12_cover, 2, some (.int))
def M_X12_height : MI := (yX12_height, cX12_height, 4, some (.int))
def M_X12_bigHeight : MI := (yX12_bigHeight, cX12_bigHeight, 4, some (.int))
def M_X12_eliminationLength : MI := (yX12_eliminationLength, cX12_eliminationLength, 2, some (.int))
def M_X12_eliminate : MI := (yX12_eliminate, cX12_eliminate, 4, none)
def M_X12_isSimplicial : MI := (yX12_isSimplicial, cX12_isSimplicial, 7, some (.boolean))
def M_X12_isAdjacentIn : MI := (yX12_isAdjacentIn, cX12_isAdjacentIn, 4, some (.boolean))
def M_X12_eliminated : MI := (yX12_eliminated, cX12_eliminated, 3, some (.int))
def M_X12_isChordal : MI := (yX12_isChordal, cX12_isChordal, 2, some (.int))
def M_X12_degree : MI := (yX12_degree, cX12_degree, 2, some (.int))
def M_X12_isCode : MI := (yX12_isCode, cX12_isCode, 2, some (.boolean))
def M_X12_degreeOf : MI := (yX12_degreeOf, cX12_degreeOf, 3, some (.int))
def M_X12_exponent : MI := (yX12_exponent, cX12_exponent, 3, some (.int))
def M_X12_powerOrder : MI := (yX12_powerOrder, cX12_powerOrder, 2, some (.int))
def M_X12_symbolicOrder : MI := (yX12_symbolicOrder, cX12_symbolicOrder, 2, some (.int))
def M_X12_multiply : MI := (yX12_multiply, cX12_multiply, 4, some (.int))
def M_X12_divide : MI := (yX12_divide, cX12_divide, 3, some (.int))
def M_X12_divides : MI := (yX12_divides, cX12_divides, 3, some (.boolean))
def M_X12_lcm : MI := (yX12_lcm, cX12_lcm, 3, some (.int))
def M_X12_combined : MI := (yX12_combined, cX12_combined, 8, some (.int))
def M_X12_gcd : MI := (yX12_gcd, cX12_gcd, 3, some (.int))
def M_X12_generatorCount : MI := (yX12_generatorCount, cX12_generatorCount, 2, some (.int))
def M_X12_countGenerators : MI := (yX12_countGenerators, cX12_countGenerators, 3, some (.int))
def M_X12_isPower : MI := (yX12_isPower, cX12_isPower, 1, some (.boolean))
def M_X12_findGenerators : MI := (yX12_findGenerators, cX12_findGenerators, 4, none)
def M_X12_isGenerator : MI := (yX12_isGenerator, cX12_isGenerator, 5, some (.boolean))
def M_X12_isIn : MI := (yX12_isIn, cX12_isIn, 4, some (.boolean))
def M_X12_generator : MI := (yX12_generator, cX12_generator, 3, some (.int))
def M_X12_generatorAt : MI := (yX12_generatorAt, cX12_generatorAt, 4, some (.int))
def M_X12_symbolicGeneratorCount : MI := (yX12_symbolicGeneratorCount, cX12_symbolicGeneratorCount, 2, some (.int))
def M_X12_symbolicGenerator : MI := (yX12_symbolicGenerator, cX12_symbolicGenerator, 3, some (.int))
def M_X12_powersAgree : MI := (yX12_powersAgree, cX12_powersAgree, 3, some (.int))
def M_X12_firstDifference : MI := (yX12_firstDifference, cX12_firstDifference, 3, some (.int))
def M_X12_countInPower : MI := (yX12_countInPower, cX12_countInPower, 3, some (.int))
def M_X12_countIn : MI := (yX12_countIn, cX12_countIn, 6, some (.int))
def M_X12_countInSymbolicPower : MI := (yX12_countInSymbolicPower, cX12_countInSymbolicPower, 3, some (.int))
def M_X12_orderedGenerator : MI := (yX12_orderedGenerator, cX12_orderedGenerator, 5, some (.int))
def M_X12_orderError : MI := (yX12_orderError, cX12_orderError, 4, some (.int))
def M_X12_readOrder : MI := (yX12_readOrder, cX12_readOrder, 6, some (.boolean))
def M_X12_sortGenerators : MI := (yX12_sortGenerators, cX12_sortGenerators, 5, none)
def M_X12_isBefore : MI := (yX12_isBefore, cX12_isBefore, 5, some (.boolean))
def M_X12_colonVariables : MI := (yX12_colonVariables, cX12_colonVariables, 5, some (.int))
def M_X12_colonSet : MI := (yX12_colonSet, cX12_colonSet, 5, some (.int))
def M_X12_singleStep : MI := (yX12_singleStep, cX12_singleStep, 6, some (.int))
def M_X12_isLinearStep : MI := (yX12_isLinearStep, cX12_isLinearStep, 5, some (.int))
def M_X12_isLinear : MI := (yX12_isLinear, cX12_isLinear, 6, some (.boolean))
def M_X12_firstNonLinearStep : MI := (yX12_firstNonLinearStep, cX12_firstNonLinearStep, 3, some (.int))
def M_X12_firstNonLinear : MI := (yX12_firstNonLinear, cX12_firstNonLinear, 2, some (.int))
def M_X12_bettiNumber : MI := (yX12_bettiNumber, cX12_bettiNumber, 8, some (.long))
def M_X12_choose : MI := (yX12_choose, cX12_choose, 5, some (.long))
def M_X12_addDegreeTest : MI := (yX12_addDegreeTest, cX12_addDegreeTest, 2, some (.int))
def M_X12_addTest : MI := (yX12_addTest, cX12_addTest, 5, some (.int))
def M_X12_addExponentTest : MI := (yX12_addExponentTest, cX12_addExponentTest, 3, some (.int))
def M_X12_addSquareFreeTest : MI := (yX12_addSquareFreeTest, cX12_addSquareFreeTest, 1, some (.int))
def M_X12_addPowerTest : MI := (yX12_addPowerTest, cX12_addPowerTest, 2, some (.int))
def M_X12_addSymbolicTest : MI := (yX12_addSymbolicTest, cX12_addSymbolicTest, 2, some (.int))
def M_X12_addAndTest : MI := (yX12_addAndTest, cX12_addAndTest, 3, some (.int))
def M_X12_isTest : MI := (yX12_isTest, cX12_isTest, 2, some (.boolean))
def M_X12_addOrTest : MI := (yX12_addOrTest, cX12_addOrTest, 3, some (.int))
def M_X12_addNotTest : MI := (yX12_addNotTest, cX12_addNotTest, 2, some (.int))
def M_X12_testCount : MI := (yX12_testCount, cX12_testCount, 1, some (.int))
def M_X12_passes : MI := (yX12_passes, cX12_passes, 3, some (.int))
def M_X12_isPassed : MI := (yX12_isPassed, cX12_isPassed, 5, some (.boolean))
def M_X12_passCount : MI := (yX12_passCount, cX12_passCount, 4, some (.int))
def M_X12_passing : MI := (yX12_passing, cX12_passing, 5, some (.int))
def M_X12_append : MI := (yX12_append, cX12_append, 2, some (.int))
def M_X12_fillWithGenerators : MI := (yX12_fillWithGenerators, cX12_fillWithGenerators, 2, some (.int))
def M_X12_fill : MI := (yX12_fill, cX12_fill, 5, some (.int))
def M_X12_fillWithSymbolicGenerators : MI := (yX12_fillWithSymbolicGenerators, cX12_fillWithSymbolicGenerators, 2, some (.int))
def M_X12_listSize : MI := (yX12_listSize, cX12_listSize, 1, some (.int))
def M_X12_element : MI := (yX12_element, cX12_element, 2, some (.int))
def M_X12_clearList : MI := (yX12_clearList, cX12_clearList, 2, some (.int))
def M_X12_minimizeList : MI := (yX12_minimizeList, cX12_minimizeList, 3, some (.int))
def M_X12_isRedundant : MI := (yX12_isRedundant, cX12_isRedundant, 3, some (.boolean))
def M_X12_divideListBy : MI := (yX12_divideListBy, cX12_divideListBy, 3, some (.int))
def M_X12_reverseList : MI := (yX12_reverseList, cX12_reverseList, 2, some (.int))
def M_X12_swapElements : MI := (yX12_swapElements, cX12_swapElements, 4, some (.int))
def M_X12_isPosition : MI := (yX12_isPosition, cX12_isPosition, 2, some (.boolean))
def M_X12_rotateList : MI := (yX12_rotateList, cX12_rotateList, 3, some (.int))
def M_X12_indexOfDivisor : MI := (yX12_indexOfDivisor, cX12_indexOfDivisor, 3, some (.int))
def M_X12_polarizedVariableCount : MI := (yX12_polarizedVariableCount, cX12_polarizedVariableCount, 3, some (.int))
def M_X12_greatestExponent : MI := (yX12_greatestExponent, cX12_greatestExponent, 4, some (.int))
def M_X12_polarized : MI := (yX12_polarized, cX12_polarized, 5, some (.int))
def M_X12_hittingNumber : MI := (yX12_hittingNumber, cX12_hittingNumber, 5, some (.int))
def M_X12_support : MI := (yX12_support, cX12_support, 3, some (.int))
def M_X12_feed : MI := (yX12_feed, cX12_feed, 2, some (.int))
def M_X12_discardInput : MI := (yX12_discardInput, cX12_discardInput, 2, some (.int))
def M_X12_parse : MI := (yX12_parse, cX12_parse, 4, some (.int))
def M_X12_current : MI := (yX12_current, cX12_current, 1, some (.int))
def M_X12_readMonomial : MI := (yX12_readMonomial, cX12_readMonomial, 5, some (.int))
def M_X12_formattedLength : MI := (yX12_formattedLength, cX12_formattedLength, 1, some (.int))
def M_X12_format : MI := (yX12_format, cX12_format, 4, none)
def M_X12_write : MI := (yX12_write, cX12_write, 2, none)
def M_X12_formattedByte : MI := (yX12_formattedByte, cX12_formattedByte, 2, some (.int))
def M_X12_saveList : MI := (yX12_saveList, cX12_saveList, 3, some (.int))
def M_X12_isSlot : MI := (yX12_isSlot, cX12_isSlot, 1, some (.boolean))
def M_X12_loadList : MI := (yX12_loadList, cX12_loadList, 4, some (.int))
def M_X12_slotError : MI := (yX12_slotError, cX12_slotError, 3, some (.int))
def M_X12_clearSlot : MI := (yX12_clearSlot, cX12_clearSlot, 3, some (.int))
def M_X12_newArray : MI := (yX12_newArray, cX12_newArray, 4, some (.int))
def M_X12_setArrayElement : MI := (yX12_setArrayElement, cX12_setArrayElement, 5, some (.int))
def M_X12_arrayElement : MI := (yX12_arrayElement, cX12_arrayElement, 3, some (.long))
def M_X12_firstMismatch : MI := (yX12_firstMismatch, cX12_firstMismatch, 5, some (.int))
def M_X12_usedSlotCount : MI := (yX12_usedSlotCount, cX12_usedSlotCount, 3, some (.int))
def M_X12_changeCount : MI := (yX12_changeCount, cX12_changeCount, 1, some (.int))
def M_X12_inputLength : MI := (yX12_inputLength, cX12_inputLength, 1, some (.int))
def M_X12_takeSnapshot : MI := (yX12_takeSnapshot, cX12_takeSnapshot, 1, some (.int))
def M_X12_copy : MI := (yX12_copy, cX12_copy, 6, none)
def M_X12_restoreSnapshot : MI := (yX12_restoreSnapshot, cX12_restoreSnapshot, 1, some (.int))
theorem fl_X7_15 : m_FL RX7 15 6 0 := ⟨RX7, TX7, 2, rfl, by decide, iw_X7, (show Cond.fieldLink RX7 15 (TX7 0).1 (TX7 0).2.1 (TX7 0).2.2.1 ∈ m_tbl from (m_tm (List.mem_of_getElem? (i := 93) (by decide +kernel)) rfl))⟩
theorem fl_X3_30 : m_FL RX3 30 6 0 := ⟨RX7, TX7, 2, rfl, by decide, iw_X7, (show Cond.fieldLink RX3 30 (TX7 0).1 (TX7 0).2.1 (TX7 0).2.2.1 ∈ m_tbl from (m_tm (List.mem_of_getElem? (i := 94) (by decide +kernel)) rfl))⟩
theorem fl_X5_34 : m_FL RX5 34 6 0 := ⟨RX7, TX7, 2, rfl, by decide, iw_X7, (show Cond.fieldLink RX5 34 (TX7 0).1 (TX7 0).2.1 (TX7 0).2.2.1 ∈ m_tbl from (m_tm (List.mem_of_getElem? (i := 95) (by decide +kernel)) rfl))⟩
theorem fl_X4_71 : m_FL RX4 71 6 0 := ⟨RX7, TX7, 2, rfl, by decide, iw_X7, (show Cond.fieldLink RX4 71 (TX7 0).1 (TX7 0).2.1 (TX7 0).2.2.1 ∈ m_tbl from (m_tm (List.mem_of_getElem? (i := 96) (by decide +kernel)) rfl))⟩
theorem fl_X2_110 : m_FL RX2 110 6 0 := ⟨RX7, TX7, 2, rfl, by decide, iw_X7, (show Cond.fieldLink RX2 110 (TX7 0).1 (TX7 0).2.1 (TX7 0).2.2.1 ∈ m_tbl from (m_tm (List.mem_of_getElem? (i := 97) (by decide +kernel)) rfl))⟩
theorem fl_X11_215 : m_FL RX11 215 6 0 := ⟨RX7, TX7, 2, rfl, by decide, iw_X7, (show Cond.fieldLink RX11 215 (TX7 0).1 (TX7 0).2.1 (TX7 0).2.2.1 ∈ m_tbl from (m_tm (List.mem_of_getElem? (i := 98) (by decide +kernel)) rfl))⟩
theorem fl_X7_21 : m_FL RX7 21 6 1 := ⟨RX7, TX7, 2, rfl, by decide, iw_X7, (show Cond.fieldLink RX7 21 (TX7 1).1 (TX7 1).2.1 (TX7 1).2.2.1 ∈ m_tbl from (m_tm (List.mem_of_getElem? (i := 99) (by decide +kernel)) rfl))⟩
theorem fp_X7_21 : m_FP RX7 21 6 1 .int := ⟨RX7, TX7, 2, tyX7, rfl, by decide, iw_X7, (show Cond.fieldLink RX7 21 (TX7 1).1 (TX7 1).2.1 (TX7 1).2.2.1 ∈ m_tbl from (m_tm (List.mem_of_getElem? (i := 99) (by decide +kernel)) rfl)), rfl, by decide +kernel, tyX7_ok, nmX7⟩
theorem fl_X5_26 : m_FL RX5 26 6 1 := ⟨RX7, TX7, 2, rfl, by decide, iw_X7, (show Cond.fieldLink RX5 26 (TX7 1).1 (TX7 1).2.1 (TX7 1).2.2.1 ∈ m_tbl from (m_tm (List.mem_of_getElem? (i := 100) (by decide +kernel)) rfl))⟩
theorem fp_X5_26 : m_FP RX5 26 6 1 .int := ⟨RX7, TX7, 2, tyX7, rfl, by decide, iw_X7, (show Cond.fieldLink RX5 26 (TX7 1).1 (TX7 1).2.1 (TX7 1).2.2.1 ∈ m_tbl from (m_tm (List.mem_of_getElem? (i := 100) (by decide +kernel)) rfl)), rfl, by decide +kernel, tyX7_ok, nmX7⟩
theorem fl_X3_27 : m_FL RX3 27 6 1 := ⟨RX7, TX7, 2, rfl, by decide, iw_X7, (show Cond.fieldLink RX3 27 (TX7 1).1 (TX7 1).2.1 (TX7 1).2.2.1 ∈ m_tbl from (m_tm (List.mem_of_getElem? (i := 101) (by decide +kernel)) rfl))⟩
theorem fp_X3_27 : m_FP RX3 27 6 1 .int := ⟨RX7, TX7, 2, tyX7, rfl, by decide, iw_X7, (show Cond.fieldLink RX3 27 (TX7 1).1 (TX7 1).2.1 (TX7 1).2.2.1 ∈ m_tbl from (m_tm (List.mem_of_getElem? (i := 101) (by decide +kernel)) rfl)), rfl, by decide +kernel, tyX7_ok, nmX7⟩
theorem fl_X2_89 : m_FL RX2 89 6 1 := ⟨RX7, TX7, 2, rfl, by decide, iw_X7, (show Cond.fieldLink RX2 89 (TX7 1).1 (TX7 1).2.1 (TX7 1).2.2.1 ∈ m_tbl from (m_tm (List.mem_of_getElem? (i := 102) (by decide +kernel)) rfl))⟩
theorem fp_X2_89 : m_FP RX2 89 6 1 .int := ⟨RX7, TX7, 2, tyX7, rfl, by decide, iw_X7, (show Cond.fieldLink RX2 89 (TX7 1).1 (TX7 1).2.1 (TX7 1).2.2.1 ∈ m_tbl from (m_tm (List.mem_of_getElem? (i := 102) (by decide +kernel)) rfl)), rfl, by decide +kernel, tyX7_ok, nmX7⟩
theorem fl_X4_64 : m_FL RX4 64 6 1 := ⟨RX7, TX7, 2, rfl, by decide, iw_X7, (show Cond.fieldLink RX4 64 (TX7 1).1 (TX7 1).2.1 (TX7 1).2.2.1 ∈ m_tbl from (m_tm (List.mem_of_getElem? (i := 103) (by decide +kernel)) rfl))⟩
theorem fp_X4_64 : m_FP RX4 64 6 1 .int := ⟨RX7, TX7, 2, tyX7, rfl, by decide, iw_X7, (show Cond.fieldLink RX4 64 (TX7 1).1 (TX7 1).2.1 (TX7 1).2.2.1 ∈ m_tbl from (m_tm (List.mem_of_getElem? (i := 103) (by decide +kernel)) rfl)), rfl, by decide +kernel, tyX7_ok, nmX7⟩
theorem fl_X11_148 : m_FL RX11 148 6 1 := ⟨RX7, TX7, 2, rfl, by decide, iw_X7, (show Cond.fieldLink RX11 148 (TX7 1).1 (TX7 1).2.1 (TX7 1).2.2.1 ∈ m_tbl from (m_tm (List.mem_of_getElem? (i := 104) (by decide +kernel)) rfl))⟩
theorem fp_X11_148 : m_FP RX11 148 6 1 .int := ⟨RX7, TX7, 2, tyX7, rfl, by decide, iw_X7, (show Cond.fieldLink RX11 148 (TX7 1).1 (TX7 1).2.1 (TX7 1).2.2.1 ∈ m_tbl from (m_tm (List.mem_of_getElem? (i := 104) (by decide +kernel)) rfl)), rfl, by decide +kernel, tyX7_ok, nmX7⟩
theorem fl_X1_70 : m_FL RX1 70 6 1 := ⟨RX7, TX7, 2, rfl, by decide, iw_X7, (show Cond.fieldLink RX1 70 (TX7 1).1 (TX7 1).2.1 (TX7 1).2.2.1 ∈ m_tbl from (m_tm (List.mem_of_getElem? (i := 105) (by decide +kernel)) rfl))⟩
theorem fp_X1_70 : m_FP RX1 70 6 1 .int := ⟨RX7, TX7, 2, tyX7, rfl, by decide, iw_X7, (show Cond.fieldLink RX1 70 (TX7 1).1 (TX7 1).2.1 (TX7 1).2.2.1 ∈ m_tbl from (m_tm (List.mem_of_getElem? (i := 105) (by decide +kernel)) rfl)), rfl, by decide +kernel, tyX7_ok, nmX7⟩
theorem fl_X1_9 : m_FL RX1 9 1 0 := ⟨RX1, TX1, 3, rfl, by decide, iw_X1, (show Cond.fieldLink RX1 9 (TX1 0).1 (TX1 0).2.1 (TX1 0).2.2.1 ∈ m_tbl from (m_tm (List.mem_of_getElem? (i := 112) (by decide +kernel)) rfl))⟩
theorem fp_X1_9 : m_FP RX1 9 1 0 .int := ⟨RX1, TX1, 3, tyX1, rfl, by decide, iw_X1, (show Cond.fieldLink RX1 9 (TX1 0).1 (TX1 0).2.1 (TX1 0).2.2.1 ∈ m_tbl from (m_tm (List.mem_of_getElem? (i := 112) (by decide +kernel)) rfl)), rfl, by decide +kernel, tyX1_ok, nmX1⟩
theorem fl_X11_78 : m_FL RX11 78 1 0 := ⟨RX1, TX1, 3, rfl, by decide, iw_X1, (show Cond.fieldLink RX11 78 (TX1 0).1 (TX1 0).2.1 (TX1 0).2.2.1 ∈ m_tbl from (m_tm (List.mem_of_getElem? (i := 113) (by decide +kernel)) rfl))⟩
theorem fp_X11_78 : m_FP RX11 78 1 0 .int := ⟨RX1, TX1, 3, tyX1, rfl, by decide, iw_X1, (show Cond.fieldLink RX11 78 (TX1 0).1 (TX1 0).2.1 (TX1 0).2.2.1 ∈ m_tbl from (m_tm (List.mem_of_getElem? (i := 113) (by decide +kernel)) rfl)), rfl, by decide +kernel, tyX1_ok, nmX1⟩
theorem fl_X4_59 : m_FL RX4 59 1 0 := ⟨RX1, TX1, 3, rfl, by decide, iw_X1, (show Cond.fieldLink RX4 59 (TX1 0).1 (TX1 0).2.1 (TX1 0).2.2.1 ∈ m_tbl from (m_tm (List.mem_of_getElem? (i := 114) (by decide +kernel)) rfl))⟩
theorem fp_X4_59 : m_FP RX4 59 1 0 .int := ⟨RX1, TX1, 3, tyX1, rfl, by decide, iw_X1, (show Cond.fieldLink RX4 59 (TX1 0).1 (TX1 0).2.1 (TX1 0).2.2.1 ∈ m_tbl from (m_tm (List.mem_of_getElem? (i := 114) (by decide +kernel)) rfl)), rfl, by decide +kernel, tyX1_ok, nmX1⟩
theorem fl_X2_83 : m_FL RX2 83 1 0 := ⟨RX1, TX1, 3, rfl, by decide, iw_X1, (show Cond.fieldLink RX2 83 (TX1 0).1 (TX1 0).2.1 (TX1 0).2.2.1 ∈ m_tbl from (m_tm (List.mem_of_getElem? (i := 115) (by decide +kernel)) rfl))⟩
theorem fp_X2_83 : m_FP RX2 83 1 0 .int := ⟨RX1, TX1, 3, tyX1, rfl, by decide, iw_X1, (show Cond.fieldLink RX2 83 (TX1 0).1 (TX1 0).2.1 (TX1 0).2.2.1 ∈ m_tbl from (m_tm (List.mem_of_getElem? (i := 115) (by decide +kernel)) rfl)), rfl, by decide +kernel, tyX1_ok, nmX1⟩
theorem fl_X1_15 : m_FL RX1 15 1 1 := ⟨RX1, TX1, 3, rfl, by decide, iw_X1, (show Cond.fieldLink RX1 15 (TX1 1).1 (TX1 1).2.1 (TX1 1).2.2.1 ∈ m_tbl from (m_tm (List.mem_of_getElem? (i := 116) (by decide +kernel)) rfl))⟩
theorem fp_X1_15 : m_FP RX1 15 1 1 .long := ⟨RX1, TX1, 3, tyX1, rfl, by decide, iw_X1, (show Cond.fieldLink RX1 15 (TX1 1).1 (TX1 1).2.1 (TX1 1).2.2.1 ∈ m_tbl from (m_tm (List.mem_of_getElem? (i := 116) (by decide +kernel)) rfl)), rfl, by decide +kernel, tyX1_ok, nmX1⟩
theorem fl_X11_93 : m_FL RX11 93 1 1 := ⟨RX1, TX1, 3, rfl, by decide, iw_X1, (show Cond.fieldLink RX11 93 (TX1 1).1 (TX1 1).2.1 (TX1 1).2.2.1 ∈ m_tbl from (m_tm (List.mem_of_getElem? (i := 117) (by decide +kernel)) rfl))⟩
theorem fp_X11_93 : m_FP RX11 93 1 1 .long := ⟨RX1, TX1, 3, tyX1, rfl, by decide, iw_X1, (show Cond.fieldLink RX11 93 (TX1 1).1 (TX1 1).2.1 (TX1 1).2.2.1 ∈ m_tbl from (m_tm (List.mem_of_getElem? (i := 117) (by decide +kernel)) rfl)), rfl, by decide +kernel, tyX1_ok, nmX1⟩
theorem fl_X2_73 : m_FL RX2 73 1 1 := ⟨RX1, TX1, 3, rfl, by decide, iw_X1, (show Cond.fieldLink RX2 73 (TX1 1).1 (TX1 1).2.1 (TX1 1).2.2.1 ∈ m_tbl from (m_tm (List.mem_of_getElem? (i := 118) (by decide +kernel)) rfl))⟩
theorem fp_X2_73 : m_FP RX2 73 1 1 .long := ⟨RX1, TX1, 3, tyX1, rfl, by decide, iw_X1, (show Cond.fieldLink RX2 73 (TX1 1).1 (TX1 1).2.1 (TX1 1).2.2.1 ∈ m_tbl from (m_tm (List.mem_of_getElem? (i := 118) (by decide +kernel)) rfl)), rfl, by decide +kernel, tyX1_ok, nmX1⟩
theorem fl_X1_24 : m_FL RX1 24 1 2 := ⟨RX1, TX1, 3, rfl, by decide, iw_X1, (show Cond.fieldLink RX1 24 (TX1 2).1 (TX1 2).2.1 (TX1 2).2.2.1 ∈ m_tbl from (m_tm (List.mem_of_getElem? (i := 119) (by decide +kernel)) rfl))⟩
theorem fl_X2_9 : m_FL RX2 9 2 0 := ⟨RX2, TX2, 10, rfl, by decide, iw_X2, (show Cond.fieldLink RX2 9 (TX2 0).1 (TX2 0).2.1 (TX2 0).2.2.1 ∈ m_tbl from (m_tm (List.mem_of_getElem? (i := 136) (by decide +kernel)) rfl))⟩
theorem fl_X2_17 : m_FL RX2 17 2 1 := ⟨RX2, TX2, 10, rfl, by decide, iw_X2, (show Cond.fieldLink RX2 17 (TX2 1).1 (TX2 1).2.1 (TX2 1).2.2.1 ∈ m_tbl from (m_tm (List.mem_of_getElem? (i := 137) (by decide +kernel)) rfl))⟩
theorem fl_X2_47 : m_FL RX2 47 2 2 := ⟨RX2, TX2, 10, rfl, by decide, iw_X2, (show Cond.fieldLink RX2 47 (TX2 2).1 (TX2 2).2.1 (TX2 2).2.2.1 ∈ m_tbl from (m_tm (List.mem_of_getElem? (i := 138) (by decide +kernel)) rfl))⟩
theorem fp_X2_47 : m_FP RX2 47 2 2 .int := ⟨RX2, TX2, 10, tyX2, rfl, by decide, iw_X2, (show Cond.fieldLink RX2 47 (TX2 2).1 (TX2 2).2.1 (TX2 2).2.2.1 ∈ m_tbl from (m_tm (List.mem_of_getElem? (i := 138) (by decide +kernel)) rfl)), rfl, by decide +kernel, tyX2_ok, nmX2⟩
theorem fl_X2_26 : m_FL RX2 26 2 3 := ⟨RX2, TX2, 10, rfl, by decide, iw_X2, (show Cond.fieldLink RX2 26 (TX2 3).1 (TX2 3).2.1 (TX2 3).2.2.1 ∈ m_tbl from (m_tm (List.mem_of_getElem? (i := 139) (by decide +kernel)) rfl))⟩
theorem fl_X2_30 : m_FL RX2 30 2 4 := ⟨RX2, TX2, 10, rfl, by decide, iw_X2, (show Cond.fieldLink RX2 30 (TX2 4).1 (TX2 4).2.1 (TX2 4).2.2.1 ∈ m_tbl from (m_tm (List.mem_of_getElem? (i := 140) (by decide +kernel)) rfl))⟩
theorem fl_X2_51 : m_FL RX2 51 2 5 := ⟨RX2, TX2, 10, rfl, by decide, iw_X2, (show Cond.fieldLink RX2 51 (TX2 5).1 (TX2 5).2.1 (TX2 5).2.2.1 ∈ m_tbl from (m_tm (List.mem_of_getElem? (i := 141) (by decide +kernel)) rfl))⟩
theorem fp_X2_51 : m_FP RX2 51 2 5 .boolean := ⟨RX2, TX2, 10, tyX2, rfl, by decide, iw_X2, (show Cond.fieldLink RX2 51 (TX2 5).1 (TX2 5).2.1 (TX2 5).2.2.1 ∈ m_tbl from (m_tm (List.mem_of_getElem? (i := 141) (by decide +kernel)) rfl)), rfl, by decide +kernel, tyX2_ok, nmX2⟩
theorem fl_X2_33 : m_FL RX2 33 2 6 := ⟨RX2, TX2, 10, rfl, by decide, iw_X2, (show Cond.fieldLink RX2 33 (TX2 6).1 (TX2 6).2.1 (TX2 6).2.2.1 ∈ m_tbl from (m_tm (List.mem_of_getElem? (i := 142) (by decide +kernel)) rfl))⟩
theorem fl_X2_37 : m_FL RX2 37 2 7 := ⟨RX2, TX2, 10, rfl, by decide, iw_X2, (show Cond.fieldLink RX2 37 (TX2 7).1 (TX2 7).2.1 (TX2 7).2.2.1 ∈ m_tbl from (m_tm (List.mem_of_getElem? (i := 143) (by decide +kernel)) rfl))⟩
theorem fl_X2_41 : m_FL RX2 41 2 8 := ⟨RX2, TX2, 10, rfl, by decide, iw_X2, (show Cond.fieldLink RX2 41 (TX2 8).1 (TX2 8).2.1 (TX2 8).2.2.1 ∈ m_tbl from (m_tm (List.mem_of_getElem? (i := 144) (by decide +kernel)) rfl))⟩
theorem fl_X2_44 : m_FL RX2 44 2 9 := ⟨RX2, TX2, 10, rfl, by decide, iw_X2, (show Cond.fieldLink RX2 44 (TX2 9).1 (TX2 9).2.1 (TX2 9).2.2.1 ∈ m_tbl from (m_tm (List.mem_of_getElem? (i := 145) (by decide +kernel)) rfl))⟩
theorem fl_X4_9 : m_FL RX4 9 4 0 := ⟨RX4, TX4, 7, rfl, by decide, iw_X4, (show Cond.fieldLink RX4 9 (TX4 0).1 (TX4 0).2.1 (TX4 0).2.2.1 ∈ m_tbl from (m_tm (List.mem_of_getElem? (i := 176) (by decide +kernel)) rfl))⟩
theorem fl_X4_15 : m_FL RX4 15 4 1 := ⟨RX4, TX4, 7, rfl, by decide, iw_X4, (show Cond.fieldLink RX4 15 (TX4 1).1 (TX4 1).2.1 (TX4 1).2.2.1 ∈ m_tbl from (m_tm (List.mem_of_getElem? (i := 177) (by decide +kernel)) rfl))⟩
theorem fl_X4_19 : m_FL RX4 19 4 2 := ⟨RX4, TX4, 7, rfl, by decide, iw_X4, (show Cond.fieldLink RX4 19 (TX4 2).1 (TX4 2).2.1 (TX4 2).2.2.1 ∈ m_tbl from (m_tm (List.mem_of_getElem? (i := 178) (by decide +kernel)) rfl))⟩
theorem fl_X4_30 : m_FL RX4 30 4 3 := ⟨RX4, TX4, 7, rfl, by decide, iw_X4, (show Cond.fieldLink RX4 30 (TX4 3).1 (TX4 3).2.1 (TX4 3).2.2.1 ∈ m_tbl from (m_tm (List.mem_of_getElem? (i := 179) (by decide +kernel)) rfl))⟩
theorem fl_X11_211 : m_FL RX11 211 4 3 := ⟨RX4, TX4, 7, rfl, by decide, iw_X4, (show Cond.fieldLink RX11 211 (TX4 3).1 (TX4 3).2.1 (TX4 3).2.2.1 ∈ m_tbl from (m_tm (List.mem_of_getElem? (i := 180) (by decide +kernel)) rfl))⟩
theorem fl_X4_34 : m_FL RX4 34 4 4 := ⟨RX4, TX4, 7, rfl, by decide, iw_X4, (show Cond.fieldLink RX4 34 (TX4 4).1 (TX4 4).2.1 (TX4 4).2.2.1 ∈ m_tbl from (m_tm (List.mem_of_getElem? (i := 181) (by decide +kernel)) rfl))⟩
theorem fl_X4_37 : m_FL RX4 37 4 5 := ⟨RX4, TX4, 7, rfl, by decide, iw_X4, (show Cond.fieldLink RX4 37 (TX4 5).1 (TX4 5).2.1 (TX4 5).2.2.1 ∈ m_tbl from (m_tm (List.mem_of_getElem? (i := 182) (by decide +kernel)) rfl))⟩
theorem fp_X4_37 : m_FP RX4 37 4 5 .int := ⟨RX4, TX4, 7, tyX4, rfl, by decide, iw_X4, (show Cond.fieldLink RX4 37 (TX4 5).1 (TX4 5).2.1 (TX4 5).2.2.1 ∈ m_tbl from (m_tm (List.mem_of_getElem? (i := 182) (by decide +kernel)) rfl)), rfl, by decide +kernel, tyX4_ok, nmX4⟩
theorem fl_X4_41 : m_FL RX4 41 4 6 := ⟨RX4, TX4, 7, rfl, by decide, iw_X4, (show Cond.fieldLink RX4 41 (TX4 6).1 (TX4 6).2.1 (TX4 6).2.2.1 ∈ m_tbl from (m_tm (List.mem_of_getElem? (i := 183) (by decide +kernel)) rfl))⟩
theorem fp_X4_41 : m_FP RX4 41 4 6 .int := ⟨RX4, TX4, 7, tyX4, rfl, by decide, iw_X4, (show Cond.fieldLink RX4 41 (TX4 6).1 (TX4 6).2.1 (TX4 6).2.2.1 ∈ m_tbl from (m_tm (List.mem_of_getElem? (i := 183) (by decide +kernel)) rfl)), rfl, by decide +kernel, tyX4_ok, nmX4⟩
theorem fl_X0_9 : m_FL RX0 9 0 0 := ⟨RX0, TX0, 2, rfl, by decide, iw_X0, (show Cond.fieldLink RX0 9 (TX0 0).1 (TX0 0).2.1 (TX0 0).2.2.1 ∈ m_tbl from (m_tm (List.mem_of_getElem? (i := 205) (by decide +kernel)) rfl))⟩
theorem fl_X0_13 : m_FL RX0 13 0 1 := ⟨RX0, TX0, 2, rfl, by decide, iw_X0, (show Cond.fieldLink RX0 13 (TX0 1).1 (TX0 1).2.1 (TX0 1).2.2.1 ∈ m_tbl from (m_tm (List.mem_of_getElem? (i := 206) (by decide +kernel)) rfl))⟩
theorem fp_X0_13 : m_FP RX0 13 0 1 .int := ⟨RX0, TX0, 2, tyX0, rfl, by decide, iw_X0, (show Cond.fieldLink RX0 13 (TX0 1).1 (TX0 1).2.1 (TX0 1).2.2.1 ∈ m_tbl from (m_tm (List.mem_of_getElem? (i := 206) (by decide +kernel)) rfl)), rfl, by decide +kernel, tyX0_ok, nmX0⟩
theorem fl_X11_86 : m_FL RX11 86 0 1 := ⟨RX0, TX0, 2, rfl, by decide, iw_X0, (show Cond.fieldLink RX11 86 (TX0 1).1 (TX0 1).2.1 (TX0 1).2.2.1 ∈ m_tbl from (m_tm (List.mem_of_getElem? (i := 207) (by decide +kernel)) rfl))⟩
theorem fp_X11_86 : m_FP RX11 86 0 1 .int := ⟨RX0, TX0, 2, tyX0, rfl, by decide, iw_X0, (show Cond.fieldLink RX11 86 (TX0 1).1 (TX0 1).2.1 (TX0 1).2.2.1 ∈ m_tbl from (m_tm (List.mem_of_getElem? (i := 207) (by decide +kernel)) rfl)), rfl, by decide +kernel, tyX0_ok, nmX0⟩
theorem fl_X10_11 : m_FL RX10 11 9 0 := ⟨RX10, TX10, 5, rfl, by decide, iw_X10, (show Cond.fieldLink RX10 11 (TX10 0).1 (TX10 0).2.1 (TX10 0).2.2.1 ∈ m_tbl from (m_tm (List.mem_of_getElem? (i := 220) (by decide +kernel)) rfl))⟩
theorem fl_X10_15 : m_FL RX10 15 9 1 := ⟨RX10, TX10, 5, rfl, by decide, iw_X10, (show Cond.fieldLink RX10 15 (TX10 1).1 (TX10 1).2.1 (TX10 1).2.2.1 ∈ m_tbl from (m_tm (List.mem_of_getElem? (i := 221) (by decide +kernel)) rfl))⟩
theorem fl_X10_18 : m_FL RX10 18 9 2 := ⟨RX10, TX10, 5, rfl, by decide, iw_X10, (show Cond.fieldLink RX10 18 (TX10 2).1 (TX10 2).2.1 (TX10 2).2.2.1 ∈ m_tbl from (m_tm (List.mem_of_getElem? (i := 222) (by decide +kernel)) rfl))⟩
theorem fl_X10_21 : m_FL RX10 21 9 3 := ⟨RX10, TX10, 5, rfl, by decide, iw_X10, (show Cond.fieldLink RX10 21 (TX10 3).1 (TX10 3).2.1 (TX10 3).2.2.1 ∈ m_tbl from (m_tm (List.mem_of_getElem? (i := 223) (by decide +kernel)) rfl))⟩
theorem fl_X10_24 : m_FL RX10 24 9 4 := ⟨RX10, TX10, 5, rfl, by decide, iw_X10, (show Cond.fieldLink RX10 24 (TX10 4).1 (TX10 4).2.1 (TX10 4).2.2.1 ∈ m_tbl from (m_tm (List.mem_of_getElem? (i := 224) (by decide +kernel)) rfl))⟩
theorem fp_X10_24 : m_FP RX10 24 9 4 .int := ⟨RX10, TX10, 5, tyX10, rfl, by decide, iw_X10, (show Cond.fieldLink RX10 24 (TX10 4).1 (TX10 4).2.1 (TX10 4).2.2.1 ∈ m_tbl from (m_tm (List.mem_of_getElem? (i := 224) (by decide +kernel)) rfl)), rfl, by decide +kernel, tyX10_ok, nmX10⟩
theorem fl_X11_248 : m_FL RX11 248 9 4 := ⟨RX10, TX10, 5, rfl, by decide, iw_X10, (show Cond.fieldLink RX11 248 (TX10 4).1 (TX10 4).2.1 (TX10 4).2.2.1 ∈ m_tbl from (m_tm (List.mem_of_getElem? (i := 225) (by decide +kernel)) rfl))⟩
theorem fp_X11_248 : m_FP RX11 248 9 4 .int := ⟨RX10, TX10, 5, tyX10, rfl, by decide, iw_X10, (show Cond.fieldLink RX11 248 (TX10 4).1 (TX10 4).2.1 (TX10 4).2.2.1 ∈ m_tbl from (m_tm (List.mem_of_getElem? (i := 225) (by decide +kernel)) rfl)), rfl, by decide +kernel, tyX10_ok, nmX10⟩
theorem fl_X5_14 : m_FL RX5 14 5 0 := ⟨RX5, TX5, 3, rfl, by decide, iw_X5, (show Cond.fieldLink RX5 14 (TX5 0).1 (TX5 0).2.1 (TX5 0).2.2.1 ∈ m_tbl from (m_tm (List.mem_of_getElem? (i := 245) (by decide +kernel)) rfl))⟩
theorem fl_X11_253 : m_FL RX11 253 5 0 := ⟨RX5, TX5, 3, rfl, by decide, iw_X5, (show Cond.fieldLink RX11 253 (TX5 0).1 (TX5 0).2.1 (TX5 0).2.2.1 ∈ m_tbl from (m_tm (List.mem_of_getElem? (i := 246) (by decide +kernel)) rfl))⟩
theorem fl_X5_20 : m_FL RX5 20 5 1 := ⟨RX5, TX5, 3, rfl, by decide, iw_X5, (show Cond.fieldLink RX5 20 (TX5 1).1 (TX5 1).2.1 (TX5 1).2.2.1 ∈ m_tbl from (m_tm (List.mem_of_getElem? (i := 247) (by decide +kernel)) rfl))⟩
theorem fl_X5_23 : m_FL RX5 23 5 2 := ⟨RX5, TX5, 3, rfl, by decide, iw_X5, (show Cond.fieldLink RX5 23 (TX5 2).1 (TX5 2).2.1 (TX5 2).2.2.1 ∈ m_tbl from (m_tm (List.mem_of_getElem? (i := 248) (by decide +kernel)) rfl))⟩
theorem fl_X3_14 : m_FL RX3 14 3 0 := ⟨RX3, TX3, 5, rfl, by decide, iw_X3, (show Cond.fieldLink RX3 14 (TX3 0).1 (TX3 0).2.1 (TX3 0).2.2.1 ∈ m_tbl from (m_tm (List.mem_of_getElem? (i := 264) (by decide +kernel)) rfl))⟩
theorem fl_X11_297 : m_FL RX11 297 3 0 := ⟨RX3, TX3, 5, rfl, by decide, iw_X3, (show Cond.fieldLink RX11 297 (TX3 0).1 (TX3 0).2.1 (TX3 0).2.2.1 ∈ m_tbl from (m_tm (List.mem_of_getElem? (i := 265) (by decide +kernel)) rfl))⟩
theorem fl_X3_20 : m_FL RX3 20 3 1 := ⟨RX3, TX3, 5, rfl, by decide, iw_X3, (show Cond.fieldLink RX3 20 (TX3 1).1 (TX3 1).2.1 (TX3 1).2.2.1 ∈ m_tbl from (m_tm (List.mem_of_getElem? (i := 266) (by decide +kernel)) rfl))⟩
theorem fl_X11_303 : m_FL RX11 303 3 1 := ⟨RX3, TX3, 5, rfl, by decide, iw_X3, (show Cond.fieldLink RX11 303 (TX3 1).1 (TX3 1).2.1 (TX3 1).2.2.1 ∈ m_tbl from (m_tm (List.mem_of_getElem? (i := 267) (by decide +kernel)) rfl))⟩
theorem fl_X3_23 : m_FL RX3 23 3 2 := ⟨RX3, TX3, 5, rfl, by decide, iw_X3, (show Cond.fieldLink RX3 23 (TX3 2).1 (TX3 2).2.1 (TX3 2).2.2.1 ∈ m_tbl from (m_tm (List.mem_of_getElem? (i := 268) (by decide +kernel)) rfl))⟩
theorem fp_X3_23 : m_FP RX3 23 3 2 .int := ⟨RX3, TX3, 5, tyX3, rfl, by decide, iw_X3, (show Cond.fieldLink RX3 23 (TX3 2).1 (TX3 2).2.1 (TX3 2).2.2.1 ∈ m_tbl from (m_tm (List.mem_of_getElem? (i := 268) (by decide +kernel)) rfl)), rfl, by decide +kernel, tyX3_ok, nmX3⟩
theorem fl_X3_38 : m_FL RX3 38 3 3 := ⟨RX3, TX3, 5, rfl, by decide, iw_X3, (show Cond.fieldLink RX3 38 (TX3 3).1 (TX3 3).2.1 (TX3 3).2.2.1 ∈ m_tbl from (m_tm (List.mem_of_getElem? (i := 269) (by decide +kernel)) rfl))⟩
theorem fp_X3_38 : m_FP RX3 38 3 3 .int := ⟨RX3, TX3, 5, tyX3, rfl, by decide, iw_X3, (show Cond.fieldLink RX3 38 (TX3 3).1 (TX3 3).2.1 (TX3 3).2.2.1 ∈ m_tbl from (m_tm (List.mem_of_getElem? (i := 269) (by decide +kernel)) rfl)), rfl, by decide +kernel, tyX3_ok, nmX3⟩
theorem fl_X3_57 : m_FL RX3 57 3 4 := ⟨RX3, TX3, 5, rfl, by decide, iw_X3, (show Cond.fieldLink RX3 57 (TX3 4).1 (TX3 4).2.1 (TX3 4).2.2.1 ∈ m_tbl from (m_tm (List.mem_of_getElem? (i := 270) (by decide +kernel)) rfl))⟩
theorem fp_X3_57 : m_FP RX3 57 3 4 .int := ⟨RX3, TX3, 5, tyX3, rfl, by decide, iw_X3, (show Cond.fieldLink RX3 57 (TX3 4).1 (TX3 4).2.1 (TX3 4).2.2.1 ∈ m_tbl from (m_tm (List.mem_of_getElem? (i := 270) (by decide +kernel)) rfl)), rfl, by decide +kernel, tyX3_ok, nmX3⟩
theorem fl_X8_11 : m_FL RX8 11 7 0 := ⟨RX8, TX8, 2, rfl, by decide, iw_X8, (show Cond.fieldLink RX8 11 (TX8 0).1 (TX8 0).2.1 (TX8 0).2.2.1 ∈ m_tbl from (m_tm (List.mem_of_getElem? (i := 291) (by decide +kernel)) rfl))⟩
theorem fp_X8_11 : m_FP RX8 11 7 0 .int := ⟨RX8, TX8, 2, tyX8, rfl, by decide, iw_X8, (show Cond.fieldLink RX8 11 (TX8 0).1 (TX8 0).2.1 (TX8 0).2.2.1 ∈ m_tbl from (m_tm (List.mem_of_getElem? (i := 291) (by decide +kernel)) rfl)), rfl, by decide +kernel, tyX8_ok, nmX8⟩
theorem fl_X11_312 : m_FL RX11 312 7 0 := ⟨RX8, TX8, 2, rfl, by decide, iw_X8, (show Cond.fieldLink RX11 312 (TX8 0).1 (TX8 0).2.1 (TX8 0).2.2.1 ∈ m_tbl from (m_tm (List.mem_of_getElem? (i := 292) (by decide +kernel)) rfl))⟩
theorem fp_X11_312 : m_FP RX11 312 7 0 .int := ⟨RX8, TX8, 2, tyX8, rfl, by decide, iw_X8, (show Cond.fieldLink RX11 312 (TX8 0).1 (TX8 0).2.1 (TX8 0).2.2.1 ∈ m_tbl from (m_tm (List.mem_of_getElem? (i := 292) (by decide +kernel)) rfl)), rfl, by decide +kernel, tyX8_ok, nmX8⟩
theorem fl_X8_20 : m_FL RX8 20 7 1 := ⟨RX8, TX8, 2, rfl, by decide, iw_X8, (show Cond.fieldLink RX8 20 (TX8 1).1 (TX8 1).2.1 (TX8 1).2.2.1 ∈ m_tbl from (m_tm (List.mem_of_getElem? (i := 293) (by decide +kernel)) rfl))⟩
theorem fl_X11_315 : m_FL RX11 315 7 1 := ⟨RX8, TX8, 2, rfl, by decide, iw_X8, (show Cond.fieldLink RX11 315 (TX8 1).1 (TX8 1).2.1 (TX8 1).2.2.1 ∈ m_tbl from (m_tm (List.mem_of_getElem? (i := 294) (by decide +kernel)) rfl))⟩
theorem fl_X9_9 : m_FL RX9 9 8 0 := ⟨RX9, TX9, 5, rfl, by decide, iw_X9, (show Cond.fieldLink RX9 9 (TX9 0).1 (TX9 0).2.1 (TX9 0).2.2.1 ∈ m_tbl from (m_tm (List.mem_of_getElem? (i := 308) (by decide +kernel)) rfl))⟩
theorem fp_X9_9 : m_FP RX9 9 8 0 .boolean := ⟨RX9, TX9, 5, tyX9, rfl, by decide, iw_X9, (show Cond.fieldLink RX9 9 (TX9 0).1 (TX9 0).2.1 (TX9 0).2.2.1 ∈ m_tbl from (m_tm (List.mem_of_getElem? (i := 308) (by decide +kernel)) rfl)), rfl, by decide +kernel, tyX9_ok, nmX9⟩
theorem fl_X11_322 : m_FL RX11 322 8 0 := ⟨RX9, TX9, 5, rfl, by decide, iw_X9, (show Cond.fieldLink RX11 322 (TX9 0).1 (TX9 0).2.1 (TX9 0).2.2.1 ∈ m_tbl from (m_tm (List.mem_of_getElem? (i := 309) (by decide +kernel)) rfl))⟩
theorem fp_X11_322 : m_FP RX11 322 8 0 .boolean := ⟨RX9, TX9, 5, tyX9, rfl, by decide, iw_X9, (show Cond.fieldLink RX11 322 (TX9 0).1 (TX9 0).2.1 (TX9 0).2.2.1 ∈ m_tbl from (m_tm (List.mem_of_getElem? (i := 309) (by decide +kernel)) rfl)), rfl, by decide +kernel, tyX9_ok, nmX9⟩
theorem fl_X11_326 : m_FL RX11 326 8 1 := ⟨RX9, TX9, 5, rfl, by decide, iw_X9, (show Cond.fieldLink RX11 326 (TX9 1).1 (TX9 1).2.1 (TX9 1).2.2.1 ∈ m_tbl from (m_tm (List.mem_of_getElem? (i := 310) (by decide +kernel)) rfl))⟩
theorem fp_X11_326 : m_FP RX11 326 8 1 .int := ⟨RX9, TX9, 5, tyX9, rfl, by decide, iw_X9, (show Cond.fieldLink RX11 326 (TX9 1).1 (TX9 1).2.1 (TX9 1).2.2.1 ∈ m_tbl from (m_tm (List.mem_of_getElem? (i := 310) (by decide +kernel)) rfl)), rfl, by decide +kernel, tyX9_ok, nmX9⟩
theorem fl_X11_327 : m_FL RX11 327 8 2 := ⟨RX9, TX9, 5, rfl, by decide, iw_X9, (show Cond.fieldLink RX11 327 (TX9 2).1 (TX9 2).2.1 (TX9 2).2.2.1 ∈ m_tbl from (m_tm (List.mem_of_getElem? (i := 311) (by decide +kernel)) rfl))⟩
theorem fp_X11_327 : m_FP RX11 327 8 2 .long := ⟨RX9, TX9, 5, tyX9, rfl, by decide, iw_X9, (show Cond.fieldLink RX11 327 (TX9 2).1 (TX9 2).2.1 (TX9 2).2.2.1 ∈ m_tbl from (m_tm (List.mem_of_getElem? (i := 311) (by decide +kernel)) rfl)), rfl, by decide +kernel, tyX9_ok, nmX9⟩
theorem fl_X11_328 : m_FL RX11 328 8 3 := ⟨RX9, TX9, 5, rfl, by decide, iw_X9, (show Cond.fieldLink RX11 328 (TX9 3).1 (TX9 3).2.1 (TX9 3).2.2.1 ∈ m_tbl from (m_tm (List.mem_of_getElem? (i := 312) (by decide +kernel)) rfl))⟩
theorem fp_X11_328 : m_FP RX11 328 8 3 .int := ⟨RX9, TX9, 5, tyX9, rfl, by decide, iw_X9, (show Cond.fieldLink RX11 328 (TX9 3).1 (TX9 3).2.1 (TX9 3).2.2.1 ∈ m_tbl from (m_tm (List.mem_of_getElem? (i := 312) (by decide +kernel)) rfl)), rfl, by decide +kernel, tyX9_ok, nmX9⟩
theorem fl_X9_20 : m_FL RX9 20 8 4 := ⟨RX9, TX9, 5, rfl, by decide, iw_X9, (show Cond.fieldLink RX9 20 (TX9 4).1 (TX9 4).2.1 (TX9 4).2.2.1 ∈ m_tbl from (m_tm (List.mem_of_getElem? (i := 313) (by decide +kernel)) rfl))⟩
theorem fl_X11_331 : m_FL RX11 331 8 4 := ⟨RX9, TX9, 5, rfl, by decide, iw_X9, (show Cond.fieldLink RX11 331 (TX9 4).1 (TX9 4).2.1 (TX9 4).2.2.1 ∈ m_tbl from (m_tm (List.mem_of_getElem? (i := 314) (by decide +kernel)) rfl))⟩
theorem fl_X11_14 : m_FL RX11 14 10 0 := ⟨RX11, TX11, 9, rfl, by decide, iw_X11, (show Cond.fieldLink RX11 14 (TX11 0).1 (TX11 0).2.1 (TX11 0).2.2.1 ∈ m_tbl from (m_tm (List.mem_of_getElem? (i := 326) (by decide +kernel)) rfl))⟩
theorem fl_X11_23 : m_FL RX11 23 10 1 := ⟨RX11, TX11, 9, rfl, by decide, iw_X11, (show Cond.fieldLink RX11 23 (TX11 1).1 (TX11 1).2.1 (TX11 1).2.2.1 ∈ m_tbl from (m_tm (List.mem_of_getElem? (i := 327) (by decide +kernel)) rfl))⟩
theorem fl_X11_32 : m_FL RX11 32 10 2 := ⟨RX11, TX11, 9, rfl, by decide, iw_X11, (show Cond.fieldLink RX11 32 (TX11 2).1 (TX11 2).2.1 (TX11 2).2.2.1 ∈ m_tbl from (m_tm (List.mem_of_getElem? (i := 328) (by decide +kernel)) rfl))⟩
theorem fl_X11_39 : m_FL RX11 39 10 3 := ⟨RX11, TX11, 9, rfl, by decide, iw_X11, (show Cond.fieldLink RX11 39 (TX11 3).1 (TX11 3).2.1 (TX11 3).2.2.1 ∈ m_tbl from (m_tm (List.mem_of_getElem? (i := 329) (by decide +kernel)) rfl))⟩
theorem fl_X11_46 : m_FL RX11 46 10 4 := ⟨RX11, TX11, 9, rfl, by decide, iw_X11, (show Cond.fieldLink RX11 46 (TX11 4).1 (TX11 4).2.1 (TX11 4).2.2.1 ∈ m_tbl from (m_tm (List.mem_of_getElem? (i := 330) (by decide +kernel)) rfl))⟩
theorem fl_X11_53 : m_FL RX11 53 10 5 := ⟨RX11, TX11, 9, rfl, by decide, iw_X11, (show Cond.fieldLink RX11 53 (TX11 5).1 (TX11 5).2.1 (TX11 5).2.2.1 ∈ m_tbl from (m_tm (List.mem_of_getElem? (i := 331) (by decide +kernel)) rfl))⟩
theorem fl_X11_60 : m_FL RX11 60 10 6 := ⟨RX11, TX11, 9, rfl, by decide, iw_X11, (show Cond.fieldLink RX11 60 (TX11 6).1 (TX11 6).2.1 (TX11 6).2.2.1 ∈ m_tbl from (m_tm (List.mem_of_getElem? (i := 332) (by decide +kernel)) rfl))⟩
theorem fl_X11_66 : m_FL RX11 66 10 7 := ⟨RX11, TX11, 9, rfl, by decide, iw_X11, (show Cond.fieldLink RX11 66 (TX11 7).1 (TX11 7).2.1 (TX11 7).2.2.1 ∈ m_tbl from (m_tm (List.mem_of_getElem? (i := 333) (by decide +kernel)) rfl))⟩
theorem fl_X11_74 : m_FL RX11 74 10 8 := ⟨RX11, TX11, 9, rfl, by decide, iw_X11, (show Cond.fieldLink RX11 74 (TX11 8).1 (TX11 8).2.1 (TX11 8).2.2.1 ∈ m_tbl from (m_tm (List.mem_of_getElem? (i := 334) (by decide +kernel)) rfl))⟩
theorem fl_X12_9 : m_FL RX12 9 11 0 := ⟨RX12, TX12, 31, rfl, by decide, iw_X12, (show Cond.fieldLink RX12 9 (TX12 0).1 (TX12 0).2.1 (TX12 0).2.2.1 ∈ m_tbl from (m_tm (List.mem_of_getElem? (i := 1108) (by decide +kernel)) rfl))⟩
theorem fp_X12_9 : m_FP RX12 9 11 0 .int := ⟨RX12, TX12, 31, tyX12, rfl, by decide, iw_X12, (show Cond.fieldLink RX12 9 (TX12 0).1 (TX12 0).2.1 (TX12 0).2.2.1 ∈ m_tbl from (m_tm (List.mem_of_getElem? (i := 1108) (by decide +kernel)) rfl)), rfl, by decide +kernel, tyX12_ok, nmX12⟩
theorem fl_X12_15 : m_FL RX12 15 11 1 := ⟨RX12, TX12, 31, rfl, by decide, iw_X12, (show Cond.fieldLink RX12 15 (TX12 1).1 (TX12 1).2.1 (TX12 1).2.2.1 ∈ m_tbl from (m_tm (List.mem_of_getElem? (i := 1109) (by decide +kernel)) rfl))⟩
theorem fl_X12_19 : m_FL RX12 19 11 2 := ⟨RX12, TX12, 31, rfl, by decide, iw_X12, (show Cond.fieldLink RX12 19 (TX12 2).1 (TX12 2).2.1 (TX12 2).2.2.1 ∈ m_tbl from (m_tm (List.mem_of_getElem? (i := 1110) (by decide +kernel)) rfl))⟩
theorem fl_X12_83 : m_FL RX12 83 11 3 := ⟨RX12, TX12, 31, rfl, by decide, iw_X12, (show Cond.fieldLink RX12 83 (TX12 3).1 (TX12 3).2.1 (TX12 3).2.2.1 ∈ m_tbl from (m_tm (List.mem_of_getElem? (i := 1111) (by decide +kernel)) rfl))⟩
theorem fp_X12_83 : m_FP RX12 83 11 3 .int := ⟨RX12, TX12, 31, tyX12, rfl, by decide, iw_X12, (show Cond.fieldLink RX12 83 (TX12 3).1 (TX12 3).2.1 (TX12 3).2.2.1 ∈ m_tbl from (m_tm (List.mem_of_getElem? (i := 1111) (by decide +kernel)) rfl)), rfl, by decide +kernel, tyX12_ok, nmX12⟩
theorem fl_X12_22 : m_FL RX12 22 11 4 := ⟨RX12, TX12, 31, rfl, by decide, iw_X12, (show Cond.fieldLink RX12 22 (TX12 4).1 (TX12 4).2.1 (TX12 4).2.2.1 ∈ m_tbl from (m_tm (List.mem_of_getElem? (i := 1112) (by decide +kernel)) rfl))⟩
theorem fl_X12_25 : m_FL RX12 25 11 5 := ⟨RX12, TX12, 31, rfl, by decide, iw_X12, (show Cond.fieldLink RX12 25 (TX12 5).1 (TX12 5).2.1 (TX12 5).2.2.1 ∈ m_tbl from (m_tm (List.mem_of_getElem? (i := 1113) (by decide +kernel)) rfl))⟩
theorem fp_X12_25 : m_FP RX12 25 11 5 .boolean := ⟨RX12, TX12, 31, tyX12, rfl, by decide, iw_X12, (show Cond.fieldLink RX12 25 (TX12 5).1 (TX12 5).2.1 (TX12 5).2.2.1 ∈ m_tbl from (m_tm (List.mem_of_getElem? (i := 1113) (by decide +kernel)) rfl)), rfl, by decide +kernel, tyX12_ok, nmX12⟩
theorem fl_X12_29 : m_FL RX12 29 11 6 := ⟨RX12, TX12, 31, rfl, by decide, iw_X12, (show Cond.fieldLink RX12 29 (TX12 6).1 (TX12 6).2.1 (TX12 6).2.2.1 ∈ m_tbl from (m_tm (List.mem_of_getElem? (i := 1114) (by decide +kernel)) rfl))⟩
theorem fl_X12_132 : m_FL RX12 132 11 7 := ⟨RX12, TX12, 31, rfl, by decide, iw_X12, (show Cond.fieldLink RX12 132 (TX12 7).1 (TX12 7).2.1 (TX12 7).2.2.1 ∈ m_tbl from (m_tm (List.mem_of_getElem? (i := 1115) (by decide +kernel)) rfl))⟩
theorem fp_X12_132 : m_FP RX12 132 11 7 .int := ⟨RX12, TX12, 31, tyX12, rfl, by decide, iw_X12, (show Cond.fieldLink RX12 132 (TX12 7).1 (TX12 7).2.1 (TX12 7).2.2.1 ∈ m_tbl from (m_tm (List.mem_of_getElem? (i := 1115) (by decide +kernel)) rfl)), rfl, by decide +kernel, tyX12_ok, nmX12⟩
theorem fl_X12_32 : m_FL RX12 32 11 8 := ⟨RX12, TX12, 31, rfl, by decide, iw_X12, (show Cond.fieldLink RX12 32 (TX12 8).1 (TX12 8).2.1 (TX12 8).2.2.1 ∈ m_tbl from (m_tm (List.mem_of_getElem? (i := 1116) (by decide +kernel)) rfl))⟩
theorem fl_X12_35 : m_FL RX12 35 11 9 := ⟨RX12, TX12, 31, rfl, by decide, iw_X12, (show Cond.fieldLink RX12 35 (TX12 9).1 (TX12 9).2.1 (TX12 9).2.2.1 ∈ m_tbl from (m_tm (List.mem_of_getElem? (i := 1117) (by decide +kernel)) rfl))⟩
theorem fl_X12_38 : m_FL RX12 38 11 10 := ⟨RX12, TX12, 31, rfl, by decide, iw_X12, (show Cond.fieldLink RX12 38 (TX12 10).1 (TX12 10).2.1 (TX12 10).2.2.1 ∈ m_tbl from (m_tm (List.mem_of_getElem? (i := 1118) (by decide +kernel)) rfl))⟩
theorem fl_X12_150 : m_FL RX12 150 11 11 := ⟨RX12, TX12, 31, rfl, by decide, iw_X12, (show Cond.fieldLink RX12 150 (TX12 11).1 (TX12 11).2.1 (TX12 11).2.2.1 ∈ m_tbl from (m_tm (List.mem_of_getElem? (i := 1119) (by decide +kernel)) rfl))⟩
theorem fp_X12_150 : m_FP RX12 150 11 11 .int := ⟨RX12, TX12, 31, tyX12, rfl, by decide, iw_X12, (show Cond.fieldLink RX12 150 (TX12 11).1 (TX12 11).2.1 (TX12 11).2.2.1 ∈ m_tbl from (m_tm (List.mem_of_getElem? (i := 1119) (by decide +kernel)) rfl)), rfl, by decide +kernel, tyX12_ok, nmX12⟩
theorem fl_X12_41 : m_FL RX12 41 11 12 := ⟨RX12, TX12, 31, rfl, by decide, iw_X12, (show Cond.fieldLink RX12 41 (TX12 12).1 (TX12 12).2.1 (TX12 12).2.2.1 ∈ m_tbl from (m_tm (List.mem_of_getElem? (i := 1120) (by decide +kernel)) rfl))⟩
theorem fl_X12_177 : m_FL RX12 177 11 13 := ⟨RX12, TX12, 31, rfl, by decide, iw_X12, (show Cond.fieldLink RX12 177 (TX12 13).1 (TX12 13).2.1 (TX12 13).2.2.1 ∈ m_tbl from (m_tm (List.mem_of_getElem? (i := 1121) (by decide +kernel)) rfl))⟩
theorem fp_X12_177 : m_FP RX12 177 11 13 .int := ⟨RX12, TX12, 31, tyX12, rfl, by decide, iw_X12, (show Cond.fieldLink RX12 177 (TX12 13).1 (TX12 13).2.1 (TX12 13).2.2.1 ∈ m_tbl from (m_tm (List.mem_of_getElem? (i := 1121) (by decide +kernel)) rfl)), rfl, by decide +kernel, tyX12_ok, nmX12⟩
theorem fl_X12_44 : m_FL RX12 44 11 14 := ⟨RX12, TX12, 31, rfl, by decide, iw_X12, (show Cond.fieldLink RX12 44 (TX12 14).1 (TX12 14).2.1 (TX12 14).2.2.1 ∈ m_tbl from (m_tm (List.mem_of_getElem? (i := 1122) (by decide +kernel)) rfl))⟩
theorem fl_X12_47 : m_FL RX12 47 11 15 := ⟨RX12, TX12, 31, rfl, by decide, iw_X12, (show Cond.fieldLink RX12 47 (TX12 15).1 (TX12 15).2.1 (TX12 15).2.2.1 ∈ m_tbl from (m_tm (List.mem_of_getElem? (i := 1123) (by decide +kernel)) rfl))⟩
theorem fl_X12_236 : m_FL RX12 236 11 16 := ⟨RX12, TX12, 31, rfl, by decide, iw_X12, (show Cond.fieldLink RX12 236 (TX12 16).1 (TX12 16).2.1 (TX12 16).2.2.1 ∈ m_tbl from (m_tm (List.mem_of_getElem? (i := 1124) (by decide +kernel)) rfl))⟩
theorem fp_X12_236 : m_FP RX12 236 11 16 .int := ⟨RX12, TX12, 31, tyX12, rfl, by decide, iw_X12, (show Cond.fieldLink RX12 236 (TX12 16).1 (TX12 16).2.1 (TX12 16).2.2.1 ∈ m_tbl from (m_tm (List.mem_of_getElem? (i := 1124) (by decide +kernel)) rfl)), rfl, by decide +kernel, tyX12_ok, nmX12⟩
theorem fl_X12_50 : m_FL RX12 50 11 17 := ⟨RX12, TX12, 31, rfl, by decide, iw_X12, (show Cond.fieldLink RX12 50 (TX12 17).1 (TX12 17).2.1 (TX12 17).2.2.1 ∈ m_tbl from (m_tm (List.mem_of_getElem? (i := 1125) (by decide +kernel)) rfl))⟩
theorem fl_X12_251 : m_FL RX12 251 11 18 := ⟨RX12, TX12, 31, rfl, by decide, iw_X12, (show Cond.fieldLink RX12 251 (TX12 18).1 (TX12 18).2.1 (TX12 18).2.2.1 ∈ m_tbl from (m_tm (List.mem_of_getElem? (i := 1126) (by decide +kernel)) rfl))⟩
theorem fp_X12_251 : m_FP RX12 251 11 18 .int := ⟨RX12, TX12, 31, tyX12, rfl, by decide, iw_X12, (show Cond.fieldLink RX12 251 (TX12 18).1 (TX12 18).2.1 (TX12 18).2.2.1 ∈ m_tbl from (m_tm (List.mem_of_getElem? (i := 1126) (by decide +kernel)) rfl)), rfl, by decide +kernel, tyX12_ok, nmX12⟩
theorem fl_X12_53 : m_FL RX12 53 11 19 := ⟨RX12, TX12, 31, rfl, by decide, iw_X12, (show Cond.fieldLink RX12 53 (TX12 19).1 (TX12 19).2.1 (TX12 19).2.2.1 ∈ m_tbl from (m_tm (List.mem_of_getElem? (i := 1127) (by decide +kernel)) rfl))⟩
theorem fl_X12_56 : m_FL RX12 56 11 20 := ⟨RX12, TX12, 31, rfl, by decide, iw_X12, (show Cond.fieldLink RX12 56 (TX12 20).1 (TX12 20).2.1 (TX12 20).2.2.1 ∈ m_tbl from (m_tm (List.mem_of_getElem? (i := 1128) (by decide +kernel)) rfl))⟩
theorem fl_X12_279 : m_FL RX12 279 11 21 := ⟨RX12, TX12, 31, rfl, by decide, iw_X12, (show Cond.fieldLink RX12 279 (TX12 21).1 (TX12 21).2.1 (TX12 21).2.2.1 ∈ m_tbl from (m_tm (List.mem_of_getElem? (i := 1129) (by decide +kernel)) rfl))⟩
theorem fp_X12_279 : m_FP RX12 279 11 21 .int := ⟨RX12, TX12, 31, tyX12, rfl, by decide, iw_X12, (show Cond.fieldLink RX12 279 (TX12 21).1 (TX12 21).2.1 (TX12 21).2.2.1 ∈ m_tbl from (m_tm (List.mem_of_getElem? (i := 1129) (by decide +kernel)) rfl)), rfl, by decide +kernel, tyX12_ok, nmX12⟩
theorem fl_X12_282 : m_FL RX12 282 11 22 := ⟨RX12, TX12, 31, rfl, by decide, iw_X12, (show Cond.fieldLink RX12 282 (TX12 22).1 (TX12 22).2.1 (TX12 22).2.2.1 ∈ m_tbl from (m_tm (List.mem_of_getElem? (i := 1130) (by decide +kernel)) rfl))⟩
theorem fp_X12_282 : m_FP RX12 282 11 22 .int := ⟨RX12, TX12, 31, tyX12, rfl, by decide, iw_X12, (show Cond.fieldLink RX12 282 (TX12 22).1 (TX12 22).2.1 (TX12 22).2.2.1 ∈ m_tbl from (m_tm (List.mem_of_getElem? (i := 1130) (by decide +kernel)) rfl)), rfl, by decide +kernel, tyX12_ok, nmX12⟩
theorem fl_X12_59 : m_FL RX12 59 11 23 := ⟨RX12, TX12, 31, rfl, by decide, iw_X12, (show Cond.fieldLink RX12 59 (TX12 23).1 (TX12 23).2.1 (TX12 23).2.2.1 ∈ m_tbl from (m_tm (List.mem_of_getElem? (i := 1131) (by decide +kernel)) rfl))⟩
theorem fl_X12_62 : m_FL RX12 62 11 24 := ⟨RX12, TX12, 31, rfl, by decide, iw_X12, (show Cond.fieldLink RX12 62 (TX12 24).1 (TX12 24).2.1 (TX12 24).2.2.1 ∈ m_tbl from (m_tm (List.mem_of_getElem? (i := 1132) (by decide +kernel)) rfl))⟩
theorem fl_X12_293 : m_FL RX12 293 11 25 := ⟨RX12, TX12, 31, rfl, by decide, iw_X12, (show Cond.fieldLink RX12 293 (TX12 25).1 (TX12 25).2.1 (TX12 25).2.2.1 ∈ m_tbl from (m_tm (List.mem_of_getElem? (i := 1133) (by decide +kernel)) rfl))⟩
theorem fp_X12_293 : m_FP RX12 293 11 25 .int := ⟨RX12, TX12, 31, tyX12, rfl, by decide, iw_X12, (show Cond.fieldLink RX12 293 (TX12 25).1 (TX12 25).2.1 (TX12 25).2.2.1 ∈ m_tbl from (m_tm (List.mem_of_getElem? (i := 1133) (by decide +kernel)) rfl)), rfl, by decide +kernel, tyX12_ok, nmX12⟩
theorem fl_X12_65 : m_FL RX12 65 11 26 := ⟨RX12, TX12, 31, rfl, by decide, iw_X12, (show Cond.fieldLink RX12 65 (TX12 26).1 (TX12 26).2.1 (TX12 26).2.2.1 ∈ m_tbl from (m_tm (List.mem_of_getElem? (i := 1134) (by decide +kernel)) rfl))⟩
theorem fl_X12_68 : m_FL RX12 68 11 27 := ⟨RX12, TX12, 31, rfl, by decide, iw_X12, (show Cond.fieldLink RX12 68 (TX12 27).1 (TX12 27).2.1 (TX12 27).2.2.1 ∈ m_tbl from (m_tm (List.mem_of_getElem? (i := 1135) (by decide +kernel)) rfl))⟩
theorem fl_X12_73 : m_FL RX12 73 11 28 := ⟨RX12, TX12, 31, rfl, by decide, iw_X12, (show Cond.fieldLink RX12 73 (TX12 28).1 (TX12 28).2.1 (TX12 28).2.2.1 ∈ m_tbl from (m_tm (List.mem_of_getElem? (i := 1136) (by decide +kernel)) rfl))⟩
theorem fl_X12_76 : m_FL RX12 76 11 29 := ⟨RX12, TX12, 31, rfl, by decide, iw_X12, (show Cond.fieldLink RX12 76 (TX12 29).1 (TX12 29).2.1 (TX12 29).2.2.1 ∈ m_tbl from (m_tm (List.mem_of_getElem? (i := 1137) (by decide +kernel)) rfl))⟩
theorem fl_X12_308 : m_FL RX12 308 11 30 := ⟨RX12, TX12, 31, rfl, by decide, iw_X12, (show Cond.fieldLink RX12 308 (TX12 30).1 (TX12 30).2.1 (TX12 30).2.2.1 ∈ m_tbl from (m_tm (List.mem_of_getElem? (i := 1138) (by decide +kernel)) rfl))⟩
theorem fp_X12_308 : m_FP RX12 308 11 30 .boolean := ⟨RX12, TX12, 31, tyX12, rfl, by decide, iw_X12, (show Cond.fieldLink RX12 308 (TX12 30).1 (TX12 30).2.1 (TX12 30).2.2.1 ∈ m_tbl from (m_tm (List.mem_of_getElem? (i := 1138) (by decide +kernel)) rfl)), rfl, by decide +kernel, tyX12_ok, nmX12⟩
theorem kl_X1_48 : Cond.constantLong RX1 48 (-1 : Int64) ∈ m_tbl := (m_tm (List.mem_of_getElem? (i := 416) (by decide +kernel)) rfl)
theorem kl_J13_314 : Cond.constantLong RJ13 314 (6148914691236517205 : Int64) ∈ m_tbl := (m_tm (List.mem_of_getElem? (i := 424) (by decide +kernel)) rfl)
theorem kl_J13_316 : Cond.constantLong RJ13 316 (3689348814741910323 : Int64) ∈ m_tbl := (m_tm (List.mem_of_getElem? (i := 425) (by decide +kernel)) rfl)
theorem kl_J13_318 : Cond.constantLong RJ13 318 (1085102592571150095 : Int64) ∈ m_tbl := (m_tm (List.mem_of_getElem? (i := 426) (by decide +kernel)) rfl)
theorem ki_J6_264 : Cond.constant RJ6 264 (65536 : Int32) ∈ m_tbl := (m_tm (List.mem_of_getElem? (i := 499) (by decide +kernel)) rfl)
theorem ki_J6_265 : Cond.constant RJ6 265 (1431655765 : Int32) ∈ m_tbl := (m_tm (List.mem_of_getElem? (i := 548) (by decide +kernel)) rfl)
theorem ki_J6_266 : Cond.constant RJ6 266 (858993459 : Int32) ∈ m_tbl := (m_tm (List.mem_of_getElem? (i := 549) (by decide +kernel)) rfl)
theorem ki_J6_267 : Cond.constant RJ6 267 (252645135 : Int32) ∈ m_tbl := (m_tm (List.mem_of_getElem? (i := 550) (by decide +kernel)) rfl)
theorem kl_X11_234 : Cond.constantLong RX11 234 (-9223372036854775808 : Int64) ∈ m_tbl := (m_tm (List.mem_of_getElem? (i := 784) (by decide +kernel)) rfl)
theorem kl_X12_86 : Cond.constantLong RX12 86 (7 : Int64) ∈ m_tbl := (m_tm (List.mem_of_getElem? (i := 1206) (by decide +kernel)) rfl)
theorem kl_X12_99 : Cond.constantLong RX12 99 (5 : Int64) ∈ m_tbl := (m_tm (List.mem_of_getElem? (i := 1230) (by decide +kernel)) rfl)
theorem kl_X12_183 : Cond.constantLong RX12 183 (3 : Int64) ∈ m_tbl := (m_tm (List.mem_of_getElem? (i := 1403) (by decide +kernel)) rfl)
theorem kl_X12_200 : Cond.constantLong RX12 200 (21 : Int64) ∈ m_tbl := (m_tm (List.mem_of_getElem? (i := 1448) (by decide +kernel)) rfl)
theorem kl_X12_230 : Cond.constantLong RX12 230 (-9223372036854775808 : Int64) ∈ m_tbl := (m_tm (List.mem_of_getElem? (i := 1505) (by decide +kernel)) rfl)
theorem kl_X12_243 : Cond.constantLong RX12 243 (6 : Int64) ∈ m_tbl := (m_tm (List.mem_of_getElem? (i := 1521) (by decide +kernel)) rfl)
theorem kl_X12_266 : Cond.constantLong RX12 266 (24 : Int64) ∈ m_tbl := (m_tm (List.mem_of_getElem? (i := 1627) (by decide +kernel)) rfl)
theorem kl_X12_277 : Cond.constantLong RX12 277 (255 : Int64) ∈ m_tbl := (m_tm (List.mem_of_getElem? (i := 1656) (by decide +kernel)) rfl)
theorem kl_X12_288 : Cond.constantLong RX12 288 (103 : Int64) ∈ m_tbl := (m_tm (List.mem_of_getElem? (i := 1673) (by decide +kernel)) rfl)
