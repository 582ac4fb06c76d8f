set_option maxRecDepth 20000 in
theorem ok_J9_max_7cf53 : m_OS M_J9_max_7cf53 2 := ⟨(m_tm (List.mem_of_getElem? (i := 91) (by decide +kernel)) rfl), (m_tm (List.mem_of_getElem? (i := 56) (by decide +kernel)) rfl), (m_tm (List.mem_of_getElem? (i := 92) rfl) rfl), ⟨by decide +kernel, by decide +kernel, by decide +kernel⟩, by decide⟩
set_option maxRecDepth 20000 in
theorem ok_X11_setVertexCount : m_OV M_X11_setVertexCount 1 := ⟨⟨(m_tm (List.mem_of_getElem? (i := 355) (by decide +kernel)) rfl), (m_tm (List.mem_of_getElem? (i := 356) (by decide +kernel)) rfl)⟩, (m_tm (List.mem_of_getElem? (i := 53) (by decide +kernel)) rfl), (m_tm (List.mem_of_getElem? (i := 357) rfl) rfl), ⟨by decide +kernel, by decide +kernel, by decide +kernel⟩, by decide⟩
set_option maxRecDepth 20000 in
theorem ok_X11_replaceGraph : m_OV M_X11_replaceGraph 2 := ⟨⟨(m_tm (List.mem_of_getElem? (i := 360) (by decide +kernel)) rfl), (m_tm (List.mem_of_getElem? (i := 0) (by decide +kernel)) rfl)⟩, (m_tm (List.mem_of_getElem? (i := 53) (by decide +kernel)) rfl), (m_tm (List.mem_of_getElem? (i := 361) rfl) rfl), ⟨by decide +kernel, by decide +kernel, by decide +kernel⟩, by decide⟩
set_option maxRecDepth 20000 in
theorem ok_X2_forget : m_OV M_X2_forget 0 := ⟨⟨(m_tm (List.mem_of_getElem? (i := 363) (by decide +kernel)) rfl), (m_tm (List.mem_of_getElem? (i := 364) (by decide +kernel)) rfl)⟩, (m_tm (List.mem_of_getElem? (i := 57) (by decide +kernel)) rfl), (m_tm (List.mem_of_getElem? (i := 365) rfl) rfl), ⟨by decide +kernel, by decide +kernel, by decide +kernel⟩, by decide⟩
set_option maxRecDepth 20000 in
theorem ok_X4_forget : m_OV M_X4_forget 0 := ⟨⟨(m_tm (List.mem_of_getElem? (i := 367) (by decide +kernel)) rfl), (m_tm (List.mem_of_getElem? (i := 368) (by decide +kernel)) rfl)⟩, (m_tm (List.mem_of_getElem? (i := 58) (by decide +kernel)) rfl), (m_tm (List.mem_of_getElem? (i := 369) rfl) rfl), ⟨by decide +kernel, by decide +kernel, by decide +kernel⟩, by decide⟩
set_option maxRecDepth 20000 in
theorem ok_X11_toggleEdge : m_OV M_X11_toggleEdge 2 := ⟨⟨(m_tm (List.mem_of_getElem? (i := 371) (by decide +kernel)) rfl), (m_tm (List.mem_of_getElem? (i := 372) (by decide +kernel)) rfl)⟩, (m_tm (List.mem_of_getElem? (i := 53) (by decide +kernel)) rfl), (m_tm (List.mem_of_getElem? (i := 373) rfl) rfl), ⟨by decide +kernel, by decide +kernel, by decide +kernel⟩, by decide⟩
set_option maxRecDepth 20000 in
theorem ok_X11_isVertex : m_OV M_X11_isVertex 1 := ⟨⟨(m_tm (List.mem_of_getElem? (i := 376) (by decide +kernel)) rfl), (m_tm (List.mem_of_getElem? (i := 1) (by decide +kernel)) rfl)⟩, (m_tm (List.mem_of_getElem? (i := 53) (by decide +kernel)) rfl), (m_tm (List.mem_of_getElem? (i := 377) rfl) rfl), ⟨by decide +kernel, by decide +kernel, by decide +kernel⟩, by decide⟩
set_option maxRecDepth 20000 in
theorem ok_X1_edgeBits : m_OS M_X1_edgeBits 2 := ⟨(m_tm (List.mem_of_getElem? (i := 379) (by decide +kernel)) rfl), (m_tm (List.mem_of_getElem? (i := 54) (by decide +kernel)) rfl), (m_tm (List.mem_of_getElem? (i := 380) rfl) rfl), ⟨by decide +kernel, by decide +kernel, by decide +kernel⟩, by decide⟩
set_option maxRecDepth 20000 in
theorem ok_X11_recordChange : m_OV M_X11_recordChange 1 := ⟨⟨(m_tm (List.mem_of_getElem? (i := 383) (by decide +kernel)) rfl), (m_tm (List.mem_of_getElem? (i := 2) (by decide +kernel)) rfl)⟩, (m_tm (List.mem_of_getElem? (i := 53) (by decide +kernel)) rfl), (m_tm (List.mem_of_getElem? (i := 384) rfl) rfl), ⟨by decide +kernel, by decide +kernel, by decide +kernel⟩, by decide⟩
set_option maxRecDepth 20000 in
theorem ok_X0_push : m_OV M_X0_push 1 := ⟨⟨(m_tm (List.mem_of_getElem? (i := 386) (by decide +kernel)) rfl), (m_tm (List.mem_of_getElem? (i := 387) (by decide +kernel)) rfl)⟩, (m_tm (List.mem_of_getElem? (i := 59) (by decide +kernel)) rfl), (m_tm (List.mem_of_getElem? (i := 388) rfl) rfl), ⟨by decide +kernel, by decide +kernel, by decide +kernel⟩, by decide⟩
set_option maxRecDepth 20000 in
theorem ok_X1_neighborsIn : m_OS M_X1_neighborsIn 2 := ⟨(m_tm (List.mem_of_getElem? (i := 393) (by decide +kernel)) rfl), (m_tm (List.mem_of_getElem? (i := 54) (by decide +kernel)) rfl), (m_tm (List.mem_of_getElem? (i := 394) rfl) rfl), ⟨by decide +kernel, by decide +kernel, by decide +kernel⟩, by decide⟩
set_option maxRecDepth 20000 in
theorem ok_X11_build : m_OV M_X11_build 1 := ⟨⟨(m_tm (List.mem_of_getElem? (i := 396) (by decide +kernel)) rfl), (m_tm (List.mem_of_getElem? (i := 397) (by decide +kernel)) rfl)⟩, (m_tm (List.mem_of_getElem? (i := 53) (by decide +kernel)) rfl), (m_tm (List.mem_of_getElem? (i := 398) rfl) rfl), ⟨by decide +kernel, by decide +kernel, by decide +kernel⟩, by decide⟩
set_option maxRecDepth 20000 in
theorem ok_X1_matrixOfKind : m_OV M_X1_matrixOfKind 1 := ⟨⟨(m_tm (List.mem_of_getElem? (i := 400) (by decide +kernel)) rfl), (m_tm (List.mem_of_getElem? (i := 401) (by decide +kernel)) rfl)⟩, (m_tm (List.mem_of_getElem? (i := 54) (by decide +kernel)) rfl), (m_tm (List.mem_of_getElem? (i := 402) rfl) rfl), ⟨by decide +kernel, by decide +kernel, by decide +kernel⟩, by decide⟩
set_option maxRecDepth 20000 in
theorem ok_X1_pathMatrix : m_OV M_X1_pathMatrix 0 := ⟨⟨(m_tm (List.mem_of_getElem? (i := 404) (by decide +kernel)) rfl), (m_tm (List.mem_of_getElem? (i := 405) (by decide +kernel)) rfl)⟩, (m_tm (List.mem_of_getElem? (i := 54) (by decide +kernel)) rfl), (m_tm (List.mem_of_getElem? (i := 406) rfl) rfl), ⟨by decide +kernel, by decide +kernel, by decide +kernel⟩, by decide⟩
set_option maxRecDepth 20000 in
theorem ok_X1_completeMatrix : m_OV M_X1_completeMatrix 0 := ⟨⟨(m_tm (List.mem_of_getElem? (i := 409) (by decide +kernel)) rfl), (m_tm (List.mem_of_getElem? (i := 410) (by decide +kernel)) rfl)⟩, (m_tm (List.mem_of_getElem? (i := 54) (by decide +kernel)) rfl), (m_tm (List.mem_of_getElem? (i := 411) rfl) rfl), ⟨by decide +kernel, by decide +kernel, by decide +kernel⟩, by decide⟩
set_option maxRecDepth 20000 in
theorem ok_X1_starMatrix : m_OV M_X1_starMatrix 0 := ⟨⟨(m_tm (List.mem_of_getElem? (i := 413) (by decide +kernel)) rfl), (m_tm (List.mem_of_getElem? (i := 414) (by decide +kernel)) rfl)⟩, (m_tm (List.mem_of_getElem? (i := 54) (by decide +kernel)) rfl), (m_tm (List.mem_of_getElem? (i := 415) rfl) rfl), ⟨by decide +kernel, by decide +kernel, by decide +kernel⟩, by decide⟩
set_option maxRecDepth 20000 in
theorem ok_X1_edgeTotal : m_OV M_X1_edgeTotal 0 := ⟨⟨(m_tm (List.mem_of_getElem? (i := 418) (by decide +kernel)) rfl), (m_tm (List.mem_of_getElem? (i := 419) (by decide +kernel)) rfl)⟩, (m_tm (List.mem_of_getElem? (i := 54) (by decide +kernel)) rfl), (m_tm (List.mem_of_getElem? (i := 420) rfl) rfl), ⟨by decide +kernel, by decide +kernel, by decide +kernel⟩, by decide⟩
set_option maxRecDepth 20000 in
theorem ok_J13_bitCount_95d88 : m_OS M_J13_bitCount_95d88 1 := ⟨(m_tm (List.mem_of_getElem? (i := 422) (by decide +kernel)) rfl), (m_tm (List.mem_of_getElem? (i := 67) (by decide +kernel)) rfl), (m_tm (List.mem_of_getElem? (i := 423) rfl) rfl), ⟨by decide +kernel, by decide +kernel, by decide +kernel⟩, by decide⟩
set_option maxRecDepth 20000 in
theorem ok_X11_revertChange : m_OV M_X11_revertChange 0 := ⟨⟨(m_tm (List.mem_of_getElem? (i := 428) (by decide +kernel)) rfl), (m_tm (List.mem_of_getElem? (i := 429) (by decide +kernel)) rfl)⟩, (m_tm (List.mem_of_getElem? (i := 53) (by decide +kernel)) rfl), (m_tm (List.mem_of_getElem? (i := 430) rfl) rfl), ⟨by decide +kernel, by decide +kernel, by decide +kernel⟩, by decide⟩
set_option maxRecDepth 20000 in
theorem ok_X0_pop : m_OV M_X0_pop 0 := ⟨⟨(m_tm (List.mem_of_getElem? (i := 432) (by decide +kernel)) rfl), (m_tm (List.mem_of_getElem? (i := 433) (by decide +kernel)) rfl)⟩, (m_tm (List.mem_of_getElem? (i := 59) (by decide +kernel)) rfl), (m_tm (List.mem_of_getElem? (i := 434) rfl) rfl), ⟨by decide +kernel, by decide +kernel, by decide +kernel⟩, by decide⟩
set_option maxRecDepth 20000 in
theorem ok_X11_changeCount : m_OV M_X11_changeCount 0 := ⟨⟨(m_tm (List.mem_of_getElem? (i := 436) (by decide +kernel)) rfl), (m_tm (List.mem_of_getElem? (i := 437) (by decide +kernel)) rfl)⟩, (m_tm (List.mem_of_getElem? (i := 53) (by decide +kernel)) rfl), (m_tm (List.mem_of_getElem? (i := 438) rfl) rfl), ⟨by decide +kernel, by decide +kernel, by decide +kernel⟩, by decide⟩
set_option maxRecDepth 20000 in
theorem ok_X11_vertexCount : m_OV M_X11_vertexCount 0 := ⟨⟨(m_tm (List.mem_of_getElem? (i := 440) (by decide +kernel)) rfl), (m_tm (List.mem_of_getElem? (i := 441) (by decide +kernel)) rfl)⟩, (m_tm (List.mem_of_getElem? (i := 53) (by decide +kernel)) rfl), (m_tm (List.mem_of_getElem? (i := 442) rfl) rfl), ⟨by decide +kernel, by decide +kernel, by decide +kernel⟩, by decide⟩
set_option maxRecDepth 20000 in
theorem ok_X11_edgeCount : m_OV M_X11_edgeCount 0 := ⟨⟨(m_tm (List.mem_of_getElem? (i := 444) (by decide +kernel)) rfl), (m_tm (List.mem_of_getElem? (i := 445) (by decide +kernel)) rfl)⟩, (m_tm (List.mem_of_getElem? (i := 53) (by decide +kernel)) rfl), (m_tm (List.mem_of_getElem? (i := 446) rfl) rfl), ⟨by decide +kernel, by decide +kernel, by decide +kernel⟩, by decide⟩
set_option maxRecDepth 20000 in
theorem ok_X11_neighbors : m_OV M_X11_neighbors 1 := ⟨⟨(m_tm (List.mem_of_getElem? (i := 448) (by decide +kernel)) rfl), (m_tm (List.mem_of_getElem? (i := 449) (by decide +kernel)) rfl)⟩, (m_tm (List.mem_of_getElem? (i := 53) (by decide +kernel)) rfl), (m_tm (List.mem_of_getElem? (i := 450) rfl) rfl), ⟨by decide +kernel, by decide +kernel, by decide +kernel⟩, by decide⟩
set_option maxRecDepth 20000 in
theorem ok_X11_componentCount : m_OV M_X11_componentCount 0 := ⟨⟨(m_tm (List.mem_of_getElem? (i := 452) (by decide +kernel)) rfl), (m_tm (List.mem_of_getElem? (i := 453) (by decide +kernel)) rfl)⟩, (m_tm (List.mem_of_getElem? (i := 53) (by decide +kernel)) rfl), (m_tm (List.mem_of_getElem? (i := 454) rfl) rfl), ⟨by decide +kernel, by decide +kernel, by decide +kernel⟩, by decide⟩
set_option maxRecDepth 20000 in
theorem ok_X1_componentTotal : m_OV M_X1_componentTotal 0 := ⟨⟨(m_tm (List.mem_of_getElem? (i := 456) (by decide +kernel)) rfl), (m_tm (List.mem_of_getElem? (i := 457) (by decide +kernel)) rfl)⟩, (m_tm (List.mem_of_getElem? (i := 54) (by decide +kernel)) rfl), (m_tm (List.mem_of_getElem? (i := 458) rfl) rfl), ⟨by decide +kernel, by decide +kernel, by decide +kernel⟩, by decide⟩
set_option maxRecDepth 20000 in
theorem ok_X1_allVertices : m_OV M_X1_allVertices 0 := ⟨⟨(m_tm (List.mem_of_getElem? (i := 460) (by decide +kernel)) rfl), (m_tm (List.mem_of_getElem? (i := 461) (by decide +kernel)) rfl)⟩, (m_tm (List.mem_of_getElem? (i := 54) (by decide +kernel)) rfl), (m_tm (List.mem_of_getElem? (i := 462) rfl) rfl), ⟨by decide +kernel, by decide +kernel, by decide +kernel⟩, by decide⟩
set_option maxRecDepth 20000 in
theorem ok_X1_componentOf : m_OV M_X1_componentOf 1 := ⟨⟨(m_tm (List.mem_of_getElem? (i := 464) (by decide +kernel)) rfl), (m_tm (List.mem_of_getElem? (i := 465) (by decide +kernel)) rfl)⟩, (m_tm (List.mem_of_getElem? (i := 54) (by decide +kernel)) rfl), (m_tm (List.mem_of_getElem? (i := 466) rfl) rfl), ⟨by decide +kernel, by decide +kernel, by decide +kernel⟩, by decide⟩
set_option maxRecDepth 20000 in
theorem ok_X11_hasOddCycle : m_OV M_X11_hasOddCycle 0 := ⟨⟨(m_tm (List.mem_of_getElem? (i := 469) (by decide +kernel)) rfl), (m_tm (List.mem_of_getElem? (i := 470) (by decide +kernel)) rfl)⟩, (m_tm (List.mem_of_getElem? (i := 53) (by decide +kernel)) rfl), (m_tm (List.mem_of_getElem? (i := 471) rfl) rfl), ⟨by decide +kernel, by decide +kernel, by decide +kernel⟩, by decide⟩
set_option maxRecDepth 20000 in
theorem ok_X1_isBipartite : m_OV M_X1_isBipartite 0 := ⟨⟨(m_tm (List.mem_of_getElem? (i := 473) (by decide +kernel)) rfl), (m_tm (List.mem_of_getElem? (i := 474) (by decide +kernel)) rfl)⟩, (m_tm (List.mem_of_getElem? (i := 54) (by decide +kernel)) rfl), (m_tm (List.mem_of_getElem? (i := 475) rfl) rfl), ⟨by decide +kernel, by decide +kernel, by decide +kernel⟩, by decide⟩
set_option maxRecDepth 20000 in
theorem ok_X1_isIndependent : m_OV M_X1_isIndependent 1 := ⟨⟨(m_tm (List.mem_of_getElem? (i := 477) (by decide +kernel)) rfl), (m_tm (List.mem_of_getElem? (i := 478) (by decide +kernel)) rfl)⟩, (m_tm (List.mem_of_getElem? (i := 54) (by decide +kernel)) rfl), (m_tm (List.mem_of_getElem? (i := 479) rfl) rfl), ⟨by decide +kernel, by decide +kernel, by decide +kernel⟩, by decide⟩
set_option maxRecDepth 20000 in
theorem ok_X11_matchingNumber : m_OV M_X11_matchingNumber 0 := ⟨⟨(m_tm (List.mem_of_getElem? (i := 481) (by decide +kernel)) rfl), (m_tm (List.mem_of_getElem? (i := 482) (by decide +kernel)) rfl)⟩, (m_tm (List.mem_of_getElem? (i := 53) (by decide +kernel)) rfl), (m_tm (List.mem_of_getElem? (i := 483) rfl) rfl), ⟨by decide +kernel, by decide +kernel, by decide +kernel⟩, by decide⟩
set_option maxRecDepth 20000 in
theorem ok_X1_greatestCode : m_OV M_X1_greatestCode 0 := ⟨⟨(m_tm (List.mem_of_getElem? (i := 485) (by decide +kernel)) rfl), (m_tm (List.mem_of_getElem? (i := 486) (by decide +kernel)) rfl)⟩, (m_tm (List.mem_of_getElem? (i := 54) (by decide +kernel)) rfl), (m_tm (List.mem_of_getElem? (i := 487) rfl) rfl), ⟨by decide +kernel, by decide +kernel, by decide +kernel⟩, by decide⟩
set_option maxRecDepth 20000 in
theorem ok_X2_powerOrderOf : m_OV M_X2_powerOrderOf 1 := ⟨⟨(m_tm (List.mem_of_getElem? (i := 489) (by decide +kernel)) rfl), (m_tm (List.mem_of_getElem? (i := 490) (by decide +kernel)) rfl)⟩, (m_tm (List.mem_of_getElem? (i := 57) (by decide +kernel)) rfl), (m_tm (List.mem_of_getElem? (i := 491) rfl) rfl), ⟨by decide +kernel, by decide +kernel, by decide +kernel⟩, by decide⟩
set_option maxRecDepth 20000 in
theorem ok_X2_orderFromLowerCodes : m_OV M_X2_orderFromLowerCodes 1 := ⟨⟨(m_tm (List.mem_of_getElem? (i := 493) (by decide +kernel)) rfl), (m_tm (List.mem_of_getElem? (i := 494) (by decide +kernel)) rfl)⟩, (m_tm (List.mem_of_getElem? (i := 57) (by decide +kernel)) rfl), (m_tm (List.mem_of_getElem? (i := 495) rfl) rfl), ⟨by decide +kernel, by decide +kernel, by decide +kernel⟩, by decide⟩
set_option maxRecDepth 20000 in
theorem ok_J6_numberOfTrailingZeros_0f7a4 : m_OS M_J6_numberOfTrailingZeros_0f7a4 1 := ⟨(m_tm (List.mem_of_getElem? (i := 497) (by decide +kernel)) rfl), (m_tm (List.mem_of_getElem? (i := 68) (by decide +kernel)) rfl), (m_tm (List.mem_of_getElem? (i := 498) rfl) rfl), ⟨by decide +kernel, by decide +kernel, by decide +kernel⟩, by decide⟩
set_option maxRecDepth 20000 in
theorem ok_X6_unit : m_OS M_X6_unit 1 := ⟨(m_tm (List.mem_of_getElem? (i := 501) (by decide +kernel)) rfl), (m_tm (List.mem_of_getElem? (i := 69) (by decide +kernel)) rfl), (m_tm (List.mem_of_getElem? (i := 502) rfl) rfl), ⟨by decide +kernel, by decide +kernel, by decide +kernel⟩, by decide⟩
set_option maxRecDepth 20000 in
theorem ok_X6_exponentOf : m_OS M_X6_exponentOf 2 := ⟨(m_tm (List.mem_of_getElem? (i := 505) (by decide +kernel)) rfl), (m_tm (List.mem_of_getElem? (i := 69) (by decide +kernel)) rfl), (m_tm (List.mem_of_getElem? (i := 506) rfl) rfl), ⟨by decide +kernel, by decide +kernel, by decide +kernel⟩, by decide⟩
set_option maxRecDepth 20000 in
theorem ok_X11_coverCount : m_OV M_X11_coverCount 0 := ⟨⟨(m_tm (List.mem_of_getElem? (i := 509) (by decide +kernel)) rfl), (m_tm (List.mem_of_getElem? (i := 510) (by decide +kernel)) rfl)⟩, (m_tm (List.mem_of_getElem? (i := 53) (by decide +kernel)) rfl), (m_tm (List.mem_of_getElem? (i := 511) rfl) rfl), ⟨by decide +kernel, by decide +kernel, by decide +kernel⟩, by decide⟩
set_option maxRecDepth 20000 in
theorem ok_X2_minimalCovers : m_OV M_X2_minimalCovers 0 := ⟨⟨(m_tm (List.mem_of_getElem? (i := 513) (by decide +kernel)) rfl), (m_tm (List.mem_of_getElem? (i := 514) (by decide +kernel)) rfl)⟩, (m_tm (List.mem_of_getElem? (i := 57) (by decide +kernel)) rfl), (m_tm (List.mem_of_getElem? (i := 515) rfl) rfl), ⟨by decide +kernel, by decide +kernel, by decide +kernel⟩, by decide⟩
set_option maxRecDepth 20000 in
theorem ok_X1_isMinimalCover : m_OV M_X1_isMinimalCover 1 := ⟨⟨(m_tm (List.mem_of_getElem? (i := 518) (by decide +kernel)) rfl), (m_tm (List.mem_of_getElem? (i := 519) (by decide +kernel)) rfl)⟩, (m_tm (List.mem_of_getElem? (i := 54) (by decide +kernel)) rfl), (m_tm (List.mem_of_getElem? (i := 520) rfl) rfl), ⟨by decide +kernel, by decide +kernel, by decide +kernel⟩, by decide⟩
set_option maxRecDepth 20000 in
theorem ok_X7_add : m_OV M_X7_add 1 := ⟨⟨(m_tm (List.mem_of_getElem? (i := 522) (by decide +kernel)) rfl), (m_tm (List.mem_of_getElem? (i := 523) (by decide +kernel)) rfl)⟩, (m_tm (List.mem_of_getElem? (i := 55) (by decide +kernel)) rfl), (m_tm (List.mem_of_getElem? (i := 524) rfl) rfl), ⟨by decide +kernel, by decide +kernel, by decide +kernel⟩, by decide⟩
set_option maxRecDepth 20000 in
theorem ok_X6_maskOf : m_OS M_X6_maskOf 1 := ⟨(m_tm (List.mem_of_getElem? (i := 526) (by decide +kernel)) rfl), (m_tm (List.mem_of_getElem? (i := 69) (by decide +kernel)) rfl), (m_tm (List.mem_of_getElem? (i := 527) rfl) rfl), ⟨by decide +kernel, by decide +kernel, by decide +kernel⟩, by decide⟩
set_option maxRecDepth 20000 in
theorem ok_X11_cover : m_OV M_X11_cover 1 := ⟨⟨(m_tm (List.mem_of_getElem? (i := 530) (by decide +kernel)) rfl), (m_tm (List.mem_of_getElem? (i := 531) (by decide +kernel)) rfl)⟩, (m_tm (List.mem_of_getElem? (i := 53) (by decide +kernel)) rfl), (m_tm (List.mem_of_getElem? (i := 532) rfl) rfl), ⟨by decide +kernel, by decide +kernel, by decide +kernel⟩, by decide⟩
set_option maxRecDepth 20000 in
theorem ok_X11_itemOrError : m_OS M_X11_itemOrError 2 := ⟨(m_tm (List.mem_of_getElem? (i := 534) (by decide +kernel)) rfl), (m_tm (List.mem_of_getElem? (i := 53) (by decide +kernel)) rfl), (m_tm (List.mem_of_getElem? (i := 535) rfl) rfl), ⟨by decide +kernel, by decide +kernel, by decide +kernel⟩, by decide⟩
set_option maxRecDepth 20000 in
theorem ok_X11_height : m_OV M_X11_height 0 := ⟨⟨(m_tm (List.mem_of_getElem? (i := 537) (by decide +kernel)) rfl), (m_tm (List.mem_of_getElem? (i := 538) (by decide +kernel)) rfl)⟩, (m_tm (List.mem_of_getElem? (i := 53) (by decide +kernel)) rfl), (m_tm (List.mem_of_getElem? (i := 539) rfl) rfl), ⟨by decide +kernel, by decide +kernel, by decide +kernel⟩, by decide⟩
set_option maxRecDepth 20000 in
theorem ok_X2_smallestCoverSize : m_OV M_X2_smallestCoverSize 0 := ⟨⟨(m_tm (List.mem_of_getElem? (i := 541) (by decide +kernel)) rfl), (m_tm (List.mem_of_getElem? (i := 542) (by decide +kernel)) rfl)⟩, (m_tm (List.mem_of_getElem? (i := 57) (by decide +kernel)) rfl), (m_tm (List.mem_of_getElem? (i := 543) rfl) rfl), ⟨by decide +kernel, by decide +kernel, by decide +kernel⟩, by decide⟩
set_option maxRecDepth 20000 in
theorem ok_J6_bitCount_0f7a4 : m_OS M_J6_bitCount_0f7a4 1 := ⟨(m_tm (List.mem_of_getElem? (i := 546) (by decide +kernel)) rfl), (m_tm (List.mem_of_getElem? (i := 68) (by decide +kernel)) rfl), (m_tm (List.mem_of_getElem? (i := 547) rfl) rfl), ⟨by decide +kernel, by decide +kernel, by decide +kernel⟩, by decide⟩
set_option maxRecDepth 20000 in
theorem ok_J9_min_7cf53 : m_OS M_J9_min_7cf53 2 := ⟨(m_tm (List.mem_of_getElem? (i := 552) (by decide +kernel)) rfl), (m_tm (List.mem_of_getElem? (i := 56) (by decide +kernel)) rfl), (m_tm (List.mem_of_getElem? (i := 553) rfl) rfl), ⟨by decide +kernel, by decide +kernel, by decide +kernel⟩, by decide⟩
set_option maxRecDepth 20000 in
theorem ok_X11_bigHeight : m_OV M_X11_bigHeight 0 := ⟨⟨(m_tm (List.mem_of_getElem? (i := 555) (by decide +kernel)) rfl), (m_tm (List.mem_of_getElem? (i := 556) (by decide +kernel)) rfl)⟩, (m_tm (List.mem_of_getElem? (i := 53) (by decide +kernel)) rfl), (m_tm (List.mem_of_getElem? (i := 557) rfl) rfl), ⟨by decide +kernel, by decide +kernel, by decide +kernel⟩, by decide⟩
set_option maxRecDepth 20000 in
theorem ok_X2_largestCoverSize : m_OV M_X2_largestCoverSize 0 := ⟨⟨(m_tm (List.mem_of_getElem? (i := 559) (by decide +kernel)) rfl), (m_tm (List.mem_of_getElem? (i := 560) (by decide +kernel)) rfl)⟩, (m_tm (List.mem_of_getElem? (i := 57) (by decide +kernel)) rfl), (m_tm (List.mem_of_getElem? (i := 561) rfl) rfl), ⟨by decide +kernel, by decide +kernel, by decide +kernel⟩, by decide⟩
set_option maxRecDepth 20000 in
theorem ok_X11_eliminationLength : m_OV M_X11_eliminationLength 1 := ⟨⟨(m_tm (List.mem_of_getElem? (i := 563) (by decide +kernel)) rfl), (m_tm (List.mem_of_getElem? (i := 564) (by decide +kernel)) rfl)⟩, (m_tm (List.mem_of_getElem? (i := 53) (by decide +kernel)) rfl), (m_tm (List.mem_of_getElem? (i := 565) rfl) rfl), ⟨by decide +kernel, by decide +kernel, by decide +kernel⟩, by decide⟩
set_option maxRecDepth 20000 in
theorem ok_X11_isFlag : m_OS M_X11_isFlag 1 := ⟨(m_tm (List.mem_of_getElem? (i := 567) (by decide +kernel)) rfl), (m_tm (List.mem_of_getElem? (i := 53) (by decide +kernel)) rfl), (m_tm (List.mem_of_getElem? (i := 568) rfl) rfl), ⟨by decide +kernel, by decide +kernel, by decide +kernel⟩, by decide⟩
set_option maxRecDepth 20000 in
theorem ok_X1_elimination : m_OV M_X1_elimination 1 := ⟨⟨(m_tm (List.mem_of_getElem? (i := 570) (by decide +kernel)) rfl), (m_tm (List.mem_of_getElem? (i := 571) (by decide +kernel)) rfl)⟩, (m_tm (List.mem_of_getElem? (i := 54) (by decide +kernel)) rfl), (m_tm (List.mem_of_getElem? (i := 572) rfl) rfl), ⟨by decide +kernel, by decide +kernel, by decide +kernel⟩, by decide⟩
set_option maxRecDepth 20000 in
theorem ok_X1_firstSimplicial : m_OV M_X1_firstSimplicial 2 := ⟨⟨(m_tm (List.mem_of_getElem? (i := 575) (by decide +kernel)) rfl), (m_tm (List.mem_of_getElem? (i := 576) (by decide +kernel)) rfl)⟩, (m_tm (List.mem_of_getElem? (i := 54) (by decide +kernel)) rfl), (m_tm (List.mem_of_getElem? (i := 577) rfl) rfl), ⟨by decide +kernel, by decide +kernel, by decide +kernel⟩, by decide⟩
set_option maxRecDepth 20000 in
theorem ok_X1_isClique : m_OV M_X1_isClique 2 := ⟨⟨(m_tm (List.mem_of_getElem? (i := 579) (by decide +kernel)) rfl), (m_tm (List.mem_of_getElem? (i := 580) (by decide +kernel)) rfl)⟩, (m_tm (List.mem_of_getElem? (i := 54) (by decide +kernel)) rfl), (m_tm (List.mem_of_getElem? (i := 581) rfl) rfl), ⟨by decide +kernel, by decide +kernel, by decide +kernel⟩, by decide⟩
set_option maxRecDepth 20000 in
theorem ok_X11_eliminated : m_OV M_X11_eliminated 2 := ⟨⟨(m_tm (List.mem_of_getElem? (i := 584) (by decide +kernel)) rfl), (m_tm (List.mem_of_getElem? (i := 585) (by decide +kernel)) rfl)⟩, (m_tm (List.mem_of_getElem? (i := 53) (by decide +kernel)) rfl), (m_tm (List.mem_of_getElem? (i := 586) rfl) rfl), ⟨by decide +kernel, by decide +kernel, by decide +kernel⟩, by decide⟩
set_option maxRecDepth 20000 in
theorem ok_X11_isChordal : m_OV M_X11_isChordal 1 := ⟨⟨(m_tm (List.mem_of_getElem? (i := 588) (by decide +kernel)) rfl), (m_tm (List.mem_of_getElem? (i := 589) (by decide +kernel)) rfl)⟩, (m_tm (List.mem_of_getElem? (i := 53) (by decide +kernel)) rfl), (m_tm (List.mem_of_getElem? (i := 590) rfl) rfl), ⟨by decide +kernel, by decide +kernel, by decide +kernel⟩, by decide⟩
set_option maxRecDepth 20000 in
theorem ok_X11_degree : m_OV M_X11_degree 1 := ⟨⟨(m_tm (List.mem_of_getElem? (i := 592) (by decide +kernel)) rfl), (m_tm (List.mem_of_getElem? (i := 593) (by decide +kernel)) rfl)⟩, (m_tm (List.mem_of_getElem? (i := 53) (by decide +kernel)) rfl), (m_tm (List.mem_of_getElem? (i := 594) rfl) rfl), ⟨by decide +kernel, by decide +kernel, by decide +kernel⟩, by decide⟩
set_option maxRecDepth 20000 in
theorem ok_X11_isCode : m_OV M_X11_isCode 1 := ⟨⟨(m_tm (List.mem_of_getElem? (i := 597) (by decide +kernel)) rfl), (m_tm (List.mem_of_getElem? (i := 3) (by decide +kernel)) rfl)⟩, (m_tm (List.mem_of_getElem? (i := 53) (by decide +kernel)) rfl), (m_tm (List.mem_of_getElem? (i := 598) rfl) rfl), ⟨by decide +kernel, by decide +kernel, by decide +kernel⟩, by decide⟩
set_option maxRecDepth 20000 in
theorem ok_X6_degreeOf : m_OS M_X6_degreeOf 1 := ⟨(m_tm (List.mem_of_getElem? (i := 600) (by decide +kernel)) rfl), (m_tm (List.mem_of_getElem? (i := 69) (by decide +kernel)) rfl), (m_tm (List.mem_of_getElem? (i := 601) rfl) rfl), ⟨by decide +kernel, by decide +kernel, by decide +kernel⟩, by decide⟩
set_option maxRecDepth 20000 in
theorem ok_X11_exponent : m_OV M_X11_exponent 2 := ⟨⟨(m_tm (List.mem_of_getElem? (i := 604) (by decide +kernel)) rfl), (m_tm (List.mem_of_getElem? (i := 605) (by decide +kernel)) rfl)⟩, (m_tm (List.mem_of_getElem? (i := 53) (by decide +kernel)) rfl), (m_tm (List.mem_of_getElem? (i := 606) rfl) rfl), ⟨by decide +kernel, by decide +kernel, by decide +kernel⟩, by decide⟩
set_option maxRecDepth 20000 in
theorem ok_X11_powerOrder : m_OV M_X11_powerOrder 1 := ⟨⟨(m_tm (List.mem_of_getElem? (i := 609) (by decide +kernel)) rfl), (m_tm (List.mem_of_getElem? (i := 610) (by decide +kernel)) rfl)⟩, (m_tm (List.mem_of_getElem? (i := 53) (by decide +kernel)) rfl), (m_tm (List.mem_of_getElem? (i := 611) rfl) rfl), ⟨by decide +kernel, by decide +kernel, by decide +kernel⟩, by decide⟩
set_option maxRecDepth 20000 in
theorem ok_X11_symbolicOrder : m_OV M_X11_symbolicOrder 1 := ⟨⟨(m_tm (List.mem_of_getElem? (i := 613) (by decide +kernel)) rfl), (m_tm (List.mem_of_getElem? (i := 614) (by decide +kernel)) rfl)⟩, (m_tm (List.mem_of_getElem? (i := 53) (by decide +kernel)) rfl), (m_tm (List.mem_of_getElem? (i := 615) rfl) rfl), ⟨by decide +kernel, by decide +kernel, by decide +kernel⟩, by decide⟩
set_option maxRecDepth 20000 in
theorem ok_X2_symbolicOrderOf : m_OV M_X2_symbolicOrderOf 1 := ⟨⟨(m_tm (List.mem_of_getElem? (i := 617) (by decide +kernel)) rfl), (m_tm (List.mem_of_getElem? (i := 618) (by decide +kernel)) rfl)⟩, (m_tm (List.mem_of_getElem? (i := 57) (by decide +kernel)) rfl), (m_tm (List.mem_of_getElem? (i := 619) rfl) rfl), ⟨by decide +kernel, by decide +kernel, by decide +kernel⟩, by decide⟩
set_option maxRecDepth 20000 in
theorem ok_X11_multiply : m_OV M_X11_multiply 2 := ⟨⟨(m_tm (List.mem_of_getElem? (i := 622) (by decide +kernel)) rfl), (m_tm (List.mem_of_getElem? (i := 623) (by decide +kernel)) rfl)⟩, (m_tm (List.mem_of_getElem? (i := 53) (by decide +kernel)) rfl), (m_tm (List.mem_of_getElem? (i := 624) rfl) rfl), ⟨by decide +kernel, by decide +kernel, by decide +kernel⟩, by decide⟩
set_option maxRecDepth 20000 in
theorem ok_X6_divides : m_OS M_X6_divides 2 := ⟨(m_tm (List.mem_of_getElem? (i := 626) (by decide +kernel)) rfl), (m_tm (List.mem_of_getElem? (i := 69) (by decide +kernel)) rfl), (m_tm (List.mem_of_getElem? (i := 627) rfl) rfl), ⟨by decide +kernel, by decide +kernel, by decide +kernel⟩, by decide⟩
set_option maxRecDepth 20000 in
theorem ok_X6_exceeding : m_OS M_X6_exceeding 2 := ⟨(m_tm (List.mem_of_getElem? (i := 629) (by decide +kernel)) rfl), (m_tm (List.mem_of_getElem? (i := 69) (by decide +kernel)) rfl), (m_tm (List.mem_of_getElem? (i := 630) rfl) rfl), ⟨by decide +kernel, by decide +kernel, by decide +kernel⟩, by decide⟩
set_option maxRecDepth 20000 in
theorem ok_X11_divide : m_OV M_X11_divide 2 := ⟨⟨(m_tm (List.mem_of_getElem? (i := 632) (by decide +kernel)) rfl), (m_tm (List.mem_of_getElem? (i := 633) (by decide +kernel)) rfl)⟩, (m_tm (List.mem_of_getElem? (i := 53) (by decide +kernel)) rfl), (m_tm (List.mem_of_getElem? (i := 634) rfl) rfl), ⟨by decide +kernel, by decide +kernel, by decide +kernel⟩, by decide⟩
set_option maxRecDepth 20000 in
theorem ok_X11_lcm : m_OV M_X11_lcm 2 := ⟨⟨(m_tm (List.mem_of_getElem? (i := 636) (by decide +kernel)) rfl), (m_tm (List.mem_of_getElem? (i := 637) (by decide +kernel)) rfl)⟩, (m_tm (List.mem_of_getElem? (i := 53) (by decide +kernel)) rfl), (m_tm (List.mem_of_getElem? (i := 638) rfl) rfl), ⟨by decide +kernel, by decide +kernel, by decide +kernel⟩, by decide⟩
set_option maxRecDepth 20000 in
theorem ok_X6_commonDivisor : m_OS M_X6_commonDivisor 2 := ⟨(m_tm (List.mem_of_getElem? (i := 640) (by decide +kernel)) rfl), (m_tm (List.mem_of_getElem? (i := 69) (by decide +kernel)) rfl), (m_tm (List.mem_of_getElem? (i := 641) rfl) rfl), ⟨by decide +kernel, by decide +kernel, by decide +kernel⟩, by decide⟩
set_option maxRecDepth 20000 in
theorem ok_X11_gcd : m_OV M_X11_gcd 2 := ⟨⟨(m_tm (List.mem_of_getElem? (i := 643) (by decide +kernel)) rfl), (m_tm (List.mem_of_getElem? (i := 644) (by decide +kernel)) rfl)⟩, (m_tm (List.mem_of_getElem? (i := 53) (by decide +kernel)) rfl), (m_tm (List.mem_of_getElem? (i := 645) rfl) rfl), ⟨by decide +kernel, by decide +kernel, by decide +kernel⟩, by decide⟩
set_option maxRecDepth 20000 in
theorem ok_X11_generatorCount : m_OV M_X11_generatorCount 1 := ⟨⟨(m_tm (List.mem_of_getElem? (i := 647) (by decide +kernel)) rfl), (m_tm (List.mem_of_getElem? (i := 648) (by decide +kernel)) rfl)⟩, (m_tm (List.mem_of_getElem? (i := 53) (by decide +kernel)) rfl), (m_tm (List.mem_of_getElem? (i := 649) rfl) rfl), ⟨by decide +kernel, by decide +kernel, by decide +kernel⟩, by decide⟩
set_option maxRecDepth 20000 in
theorem ok_X11_isPower : m_OS M_X11_isPower 1 := ⟨(m_tm (List.mem_of_getElem? (i := 651) (by decide +kernel)) rfl), (m_tm (List.mem_of_getElem? (i := 53) (by decide +kernel)) rfl), (m_tm (List.mem_of_getElem? (i := 652) rfl) rfl), ⟨by decide +kernel, by decide +kernel, by decide +kernel⟩, by decide⟩
set_option maxRecDepth 20000 in
theorem ok_X2_generators : m_OV M_X2_generators 1 := ⟨⟨(m_tm (List.mem_of_getElem? (i := 654) (by decide +kernel)) rfl), (m_tm (List.mem_of_getElem? (i := 655) (by decide +kernel)) rfl)⟩, (m_tm (List.mem_of_getElem? (i := 57) (by decide +kernel)) rfl), (m_tm (List.mem_of_getElem? (i := 656) rfl) rfl), ⟨by decide +kernel, by decide +kernel, by decide +kernel⟩, by decide⟩
set_option maxRecDepth 20000 in
theorem ok_X11_generator : m_OV M_X11_generator 2 := ⟨⟨(m_tm (List.mem_of_getElem? (i := 660) (by decide +kernel)) rfl), (m_tm (List.mem_of_getElem? (i := 661) (by decide +kernel)) rfl)⟩, (m_tm (List.mem_of_getElem? (i := 53) (by decide +kernel)) rfl), (m_tm (List.mem_of_getElem? (i := 662) rfl) rfl), ⟨by decide +kernel, by decide +kernel, by decide +kernel⟩, by decide⟩
set_option maxRecDepth 20000 in
theorem ok_X11_symbolicGeneratorCount : m_OV M_X11_symbolicGeneratorCount 1 := ⟨⟨(m_tm (List.mem_of_getElem? (i := 664) (by decide +kernel)) rfl), (m_tm (List.mem_of_getElem? (i := 665) (by decide +kernel)) rfl)⟩, (m_tm (List.mem_of_getElem? (i := 53) (by decide +kernel)) rfl), (m_tm (List.mem_of_getElem? (i := 666) rfl) rfl), ⟨by decide +kernel, by decide +kernel, by decide +kernel⟩, by decide⟩
set_option maxRecDepth 20000 in
theorem ok_X2_symbolicGenerators : m_OV M_X2_symbolicGenerators 1 := ⟨⟨(m_tm (List.mem_of_getElem? (i := 668) (by decide +kernel)) rfl), (m_tm (List.mem_of_getElem? (i := 669) (by decide +kernel)) rfl)⟩, (m_tm (List.mem_of_getElem? (i := 57) (by decide +kernel)) rfl), (m_tm (List.mem_of_getElem? (i := 670) rfl) rfl), ⟨by decide +kernel, by decide +kernel, by decide +kernel⟩, by decide⟩
set_option maxRecDepth 20000 in
theorem ok_X2_isSymbolicGenerator : m_OV M_X2_isSymbolicGenerator 2 := ⟨⟨(m_tm (List.mem_of_getElem? (i := 672) (by decide +kernel)) rfl), (m_tm (List.mem_of_getElem? (i := 673) (by decide +kernel)) rfl)⟩, (m_tm (List.mem_of_getElem? (i := 57) (by decide +kernel)) rfl), (m_tm (List.mem_of_getElem? (i := 674) rfl) rfl), ⟨by decide +kernel, by decide +kernel, by decide +kernel⟩, by decide⟩
set_option maxRecDepth 20000 in
theorem ok_X11_symbolicGenerator : m_OV M_X11_symbolicGenerator 2 := ⟨⟨(m_tm (List.mem_of_getElem? (i := 676) (by decide +kernel)) rfl), (m_tm (List.mem_of_getElem? (i := 677) (by decide +kernel)) rfl)⟩, (m_tm (List.mem_of_getElem? (i := 53) (by decide +kernel)) rfl), (m_tm (List.mem_of_getElem? (i := 678) rfl) rfl), ⟨by decide +kernel, by decide +kernel, by decide +kernel⟩, by decide⟩
set_option maxRecDepth 20000 in
theorem ok_X11_powersAgree : m_OV M_X11_powersAgree 1 := ⟨⟨(m_tm (List.mem_of_getElem? (i := 680) (by decide +kernel)) rfl), (m_tm (List.mem_of_getElem? (i := 681) (by decide +kernel)) rfl)⟩, (m_tm (List.mem_of_getElem? (i := 53) (by decide +kernel)) rfl), (m_tm (List.mem_of_getElem? (i := 682) rfl) rfl), ⟨by decide +kernel, by decide +kernel, by decide +kernel⟩, by decide⟩
set_option maxRecDepth 20000 in
theorem ok_X7_mismatch : m_OV M_X7_mismatch 1 := ⟨⟨(m_tm (List.mem_of_getElem? (i := 684) (by decide +kernel)) rfl), (m_tm (List.mem_of_getElem? (i := 685) (by decide +kernel)) rfl)⟩, (m_tm (List.mem_of_getElem? (i := 55) (by decide +kernel)) rfl), (m_tm (List.mem_of_getElem? (i := 686) rfl) rfl), ⟨by decide +kernel, by decide +kernel, by decide +kernel⟩, by decide⟩
set_option maxRecDepth 20000 in
theorem ok_X11_firstDifference : m_OV M_X11_firstDifference 1 := ⟨⟨(m_tm (List.mem_of_getElem? (i := 689) (by decide +kernel)) rfl), (m_tm (List.mem_of_getElem? (i := 690) (by decide +kernel)) rfl)⟩, (m_tm (List.mem_of_getElem? (i := 53) (by decide +kernel)) rfl), (m_tm (List.mem_of_getElem? (i := 691) rfl) rfl), ⟨by decide +kernel, by decide +kernel, by decide +kernel⟩, by decide⟩
set_option maxRecDepth 20000 in
theorem ok_X2_lowestOnlySymbolic : m_OV M_X2_lowestOnlySymbolic 1 := ⟨⟨(m_tm (List.mem_of_getElem? (i := 693) (by decide +kernel)) rfl), (m_tm (List.mem_of_getElem? (i := 694) (by decide +kernel)) rfl)⟩, (m_tm (List.mem_of_getElem? (i := 57) (by decide +kernel)) rfl), (m_tm (List.mem_of_getElem? (i := 695) rfl) rfl), ⟨by decide +kernel, by decide +kernel, by decide +kernel⟩, by decide⟩
set_option maxRecDepth 20000 in
theorem ok_X11_countInPower : m_OV M_X11_countInPower 2 := ⟨⟨(m_tm (List.mem_of_getElem? (i := 698) (by decide +kernel)) rfl), (m_tm (List.mem_of_getElem? (i := 699) (by decide +kernel)) rfl)⟩, (m_tm (List.mem_of_getElem? (i := 53) (by decide +kernel)) rfl), (m_tm (List.mem_of_getElem? (i := 700) rfl) rfl), ⟨by decide +kernel, by decide +kernel, by decide +kernel⟩, by decide⟩
set_option maxRecDepth 20000 in
theorem ok_X11_isDegree : m_OS M_X11_isDegree 1 := ⟨(m_tm (List.mem_of_getElem? (i := 702) (by decide +kernel)) rfl), (m_tm (List.mem_of_getElem? (i := 53) (by decide +kernel)) rfl), (m_tm (List.mem_of_getElem? (i := 703) rfl) rfl), ⟨by decide +kernel, by decide +kernel, by decide +kernel⟩, by decide⟩
set_option maxRecDepth 20000 in
theorem ok_X11_countInSymbolicPower : m_OV M_X11_countInSymbolicPower 2 := ⟨⟨(m_tm (List.mem_of_getElem? (i := 705) (by decide +kernel)) rfl), (m_tm (List.mem_of_getElem? (i := 706) (by decide +kernel)) rfl)⟩, (m_tm (List.mem_of_getElem? (i := 53) (by decide +kernel)) rfl), (m_tm (List.mem_of_getElem? (i := 707) rfl) rfl), ⟨by decide +kernel, by decide +kernel, by decide +kernel⟩, by decide⟩
set_option maxRecDepth 20000 in
theorem ok_X11_orderedGenerator : m_OV M_X11_orderedGenerator 3 := ⟨⟨(m_tm (List.mem_of_getElem? (i := 709) (by decide +kernel)) rfl), (m_tm (List.mem_of_getElem? (i := 710) (by decide +kernel)) rfl)⟩, (m_tm (List.mem_of_getElem? (i := 53) (by decide +kernel)) rfl), (m_tm (List.mem_of_getElem? (i := 711) rfl) rfl), ⟨by decide +kernel, by decide +kernel, by decide +kernel⟩, by decide⟩
set_option maxRecDepth 20000 in
theorem ok_X11_stepError : m_OV M_X11_stepError 3 := ⟨⟨(m_tm (List.mem_of_getElem? (i := 714) (by decide +kernel)) rfl), (m_tm (List.mem_of_getElem? (i := 4) (by decide +kernel)) rfl)⟩, (m_tm (List.mem_of_getElem? (i := 53) (by decide +kernel)) rfl), (m_tm (List.mem_of_getElem? (i := 715) rfl) rfl), ⟨by decide +kernel, by decide +kernel, by decide +kernel⟩, by decide⟩
set_option maxRecDepth 20000 in
theorem ok_X4_prepare : m_OV M_X4_prepare 2 := ⟨⟨(m_tm (List.mem_of_getElem? (i := 717) (by decide +kernel)) rfl), (m_tm (List.mem_of_getElem? (i := 718) (by decide +kernel)) rfl)⟩, (m_tm (List.mem_of_getElem? (i := 58) (by decide +kernel)) rfl), (m_tm (List.mem_of_getElem? (i := 719) rfl) rfl), ⟨by decide +kernel, by decide +kernel, by decide +kernel⟩, by decide⟩
set_option maxRecDepth 20000 in
theorem ok_X4_readSequence : m_OV M_X4_readSequence 1 := ⟨⟨(m_tm (List.mem_of_getElem? (i := 721) (by decide +kernel)) rfl), (m_tm (List.mem_of_getElem? (i := 722) (by decide +kernel)) rfl)⟩, (m_tm (List.mem_of_getElem? (i := 58) (by decide +kernel)) rfl), (m_tm (List.mem_of_getElem? (i := 723) rfl) rfl), ⟨by decide +kernel, by decide +kernel, by decide +kernel⟩, by decide⟩
set_option maxRecDepth 20000 in
theorem ok_X7_copyFrom : m_OV M_X7_copyFrom 1 := ⟨⟨(m_tm (List.mem_of_getElem? (i := 726) (by decide +kernel)) rfl), (m_tm (List.mem_of_getElem? (i := 727) (by decide +kernel)) rfl)⟩, (m_tm (List.mem_of_getElem? (i := 55) (by decide +kernel)) rfl), (m_tm (List.mem_of_getElem? (i := 728) rfl) rfl), ⟨by decide +kernel, by decide +kernel, by decide +kernel⟩, by decide⟩
set_option maxRecDepth 20000 in
theorem ok_X4_sortBySequence : m_OV M_X4_sortBySequence 0 := ⟨⟨(m_tm (List.mem_of_getElem? (i := 731) (by decide +kernel)) rfl), (m_tm (List.mem_of_getElem? (i := 732) (by decide +kernel)) rfl)⟩, (m_tm (List.mem_of_getElem? (i := 58) (by decide +kernel)) rfl), (m_tm (List.mem_of_getElem? (i := 733) rfl) rfl), ⟨by decide +kernel, by decide +kernel, by decide +kernel⟩, by decide⟩
set_option maxRecDepth 20000 in
theorem ok_X4_moveToSpare : m_OV M_X4_moveToSpare 2 := ⟨⟨(m_tm (List.mem_of_getElem? (i := 735) (by decide +kernel)) rfl), (m_tm (List.mem_of_getElem? (i := 736) (by decide +kernel)) rfl)⟩, (m_tm (List.mem_of_getElem? (i := 58) (by decide +kernel)) rfl), (m_tm (List.mem_of_getElem? (i := 737) rfl) rfl), ⟨by decide +kernel, by decide +kernel, by decide +kernel⟩, by decide⟩
set_option maxRecDepth 20000 in
theorem ok_X11_colonVariables : m_OV M_X11_colonVariables 3 := ⟨⟨(m_tm (List.mem_of_getElem? (i := 741) (by decide +kernel)) rfl), (m_tm (List.mem_of_getElem? (i := 742) (by decide +kernel)) rfl)⟩, (m_tm (List.mem_of_getElem? (i := 53) (by decide +kernel)) rfl), (m_tm (List.mem_of_getElem? (i := 743) rfl) rfl), ⟨by decide +kernel, by decide +kernel, by decide +kernel⟩, by decide⟩
set_option maxRecDepth 20000 in
theorem ok_X4_colonUnits : m_OV M_X4_colonUnits 1 := ⟨⟨(m_tm (List.mem_of_getElem? (i := 745) (by decide +kernel)) rfl), (m_tm (List.mem_of_getElem? (i := 746) (by decide +kernel)) rfl)⟩, (m_tm (List.mem_of_getElem? (i := 58) (by decide +kernel)) rfl), (m_tm (List.mem_of_getElem? (i := 747) rfl) rfl), ⟨by decide +kernel, by decide +kernel, by decide +kernel⟩, by decide⟩
set_option maxRecDepth 20000 in
theorem ok_X4_hasExchange : m_OV M_X4_hasExchange 2 := ⟨⟨(m_tm (List.mem_of_getElem? (i := 749) (by decide +kernel)) rfl), (m_tm (List.mem_of_getElem? (i := 750) (by decide +kernel)) rfl)⟩, (m_tm (List.mem_of_getElem? (i := 58) (by decide +kernel)) rfl), (m_tm (List.mem_of_getElem? (i := 751) rfl) rfl), ⟨by decide +kernel, by decide +kernel, by decide +kernel⟩, by decide⟩
set_option maxRecDepth 20000 in
theorem ok_X2_isListedGenerator : m_OV M_X2_isListedGenerator 2 := ⟨⟨(m_tm (List.mem_of_getElem? (i := 754) (by decide +kernel)) rfl), (m_tm (List.mem_of_getElem? (i := 755) (by decide +kernel)) rfl)⟩, (m_tm (List.mem_of_getElem? (i := 57) (by decide +kernel)) rfl), (m_tm (List.mem_of_getElem? (i := 756) rfl) rfl), ⟨by decide +kernel, by decide +kernel, by decide +kernel⟩, by decide⟩
set_option maxRecDepth 20000 in
theorem ok_X6_supportOf : m_OS M_X6_supportOf 1 := ⟨(m_tm (List.mem_of_getElem? (i := 758) (by decide +kernel)) rfl), (m_tm (List.mem_of_getElem? (i := 69) (by decide +kernel)) rfl), (m_tm (List.mem_of_getElem? (i := 759) rfl) rfl), ⟨by decide +kernel, by decide +kernel, by decide +kernel⟩, by decide⟩
set_option maxRecDepth 20000 in
theorem ok_X11_isLinearStep : m_OV M_X11_isLinearStep 3 := ⟨⟨(m_tm (List.mem_of_getElem? (i := 762) (by decide +kernel)) rfl), (m_tm (List.mem_of_getElem? (i := 763) (by decide +kernel)) rfl)⟩, (m_tm (List.mem_of_getElem? (i := 53) (by decide +kernel)) rfl), (m_tm (List.mem_of_getElem? (i := 764) rfl) rfl), ⟨by decide +kernel, by decide +kernel, by decide +kernel⟩, by decide⟩
set_option maxRecDepth 20000 in
theorem ok_X4_isLinearAt : m_OV M_X4_isLinearAt 1 := ⟨⟨(m_tm (List.mem_of_getElem? (i := 766) (by decide +kernel)) rfl), (m_tm (List.mem_of_getElem? (i := 767) (by decide +kernel)) rfl)⟩, (m_tm (List.mem_of_getElem? (i := 58) (by decide +kernel)) rfl), (m_tm (List.mem_of_getElem? (i := 768) rfl) rfl), ⟨by decide +kernel, by decide +kernel, by decide +kernel⟩, by decide⟩
set_option maxRecDepth 20000 in
theorem ok_X11_firstNonLinearStep : m_OV M_X11_firstNonLinearStep 2 := ⟨⟨(m_tm (List.mem_of_getElem? (i := 772) (by decide +kernel)) rfl), (m_tm (List.mem_of_getElem? (i := 773) (by decide +kernel)) rfl)⟩, (m_tm (List.mem_of_getElem? (i := 53) (by decide +kernel)) rfl), (m_tm (List.mem_of_getElem? (i := 774) rfl) rfl), ⟨by decide +kernel, by decide +kernel, by decide +kernel⟩, by decide⟩
set_option maxRecDepth 20000 in
theorem ok_X4_firstNonLinear : m_OV M_X4_firstNonLinear 0 := ⟨⟨(m_tm (List.mem_of_getElem? (i := 776) (by decide +kernel)) rfl), (m_tm (List.mem_of_getElem? (i := 777) (by decide +kernel)) rfl)⟩, (m_tm (List.mem_of_getElem? (i := 58) (by decide +kernel)) rfl), (m_tm (List.mem_of_getElem? (i := 778) rfl) rfl), ⟨by decide +kernel, by decide +kernel, by decide +kernel⟩, by decide⟩
set_option maxRecDepth 20000 in
theorem ok_X11_bettiNumber : m_OV M_X11_bettiNumber 3 := ⟨⟨(m_tm (List.mem_of_getElem? (i := 781) (by decide +kernel)) rfl), (m_tm (List.mem_of_getElem? (i := 782) (by decide +kernel)) rfl)⟩, (m_tm (List.mem_of_getElem? (i := 53) (by decide +kernel)) rfl), (m_tm (List.mem_of_getElem? (i := 783) rfl) rfl), ⟨by decide +kernel, by decide +kernel, by decide +kernel⟩, by decide⟩
set_option maxRecDepth 20000 in
theorem ok_X4_bettiSum : m_OV M_X4_bettiSum 1 := ⟨⟨(m_tm (List.mem_of_getElem? (i := 786) (by decide +kernel)) rfl), (m_tm (List.mem_of_getElem? (i := 787) (by decide +kernel)) rfl)⟩, (m_tm (List.mem_of_getElem? (i := 58) (by decide +kernel)) rfl), (m_tm (List.mem_of_getElem? (i := 788) rfl) rfl), ⟨by decide +kernel, by decide +kernel, by decide +kernel⟩, by decide⟩
set_option maxRecDepth 20000 in
theorem ok_X4_binomial : m_OS M_X4_binomial 2 := ⟨(m_tm (List.mem_of_getElem? (i := 791) (by decide +kernel)) rfl), (m_tm (List.mem_of_getElem? (i := 58) (by decide +kernel)) rfl), (m_tm (List.mem_of_getElem? (i := 792) rfl) rfl), ⟨by decide +kernel, by decide +kernel, by decide +kernel⟩, by decide⟩
set_option maxRecDepth 20000 in
theorem ok_X11_addDegreeTest : m_OV M_X11_addDegreeTest 1 := ⟨⟨(m_tm (List.mem_of_getElem? (i := 794) (by decide +kernel)) rfl), (m_tm (List.mem_of_getElem? (i := 795) (by decide +kernel)) rfl)⟩, (m_tm (List.mem_of_getElem? (i := 53) (by decide +kernel)) rfl), (m_tm (List.mem_of_getElem? (i := 796) rfl) rfl), ⟨by decide +kernel, by decide +kernel, by decide +kernel⟩, by decide⟩
set_option maxRecDepth 20000 in
theorem ok_X10_add : m_OV M_X10_add 3 := ⟨⟨(m_tm (List.mem_of_getElem? (i := 798) (by decide +kernel)) rfl), (m_tm (List.mem_of_getElem? (i := 799) (by decide +kernel)) rfl)⟩, (m_tm (List.mem_of_getElem? (i := 60) (by decide +kernel)) rfl), (m_tm (List.mem_of_getElem? (i := 800) rfl) rfl), ⟨by decide +kernel, by decide +kernel, by decide +kernel⟩, by decide⟩
set_option maxRecDepth 20000 in
theorem ok_X11_addExponentTest : m_OV M_X11_addExponentTest 2 := ⟨⟨(m_tm (List.mem_of_getElem? (i := 802) (by decide +kernel)) rfl), (m_tm (List.mem_of_getElem? (i := 803) (by decide +kernel)) rfl)⟩, (m_tm (List.mem_of_getElem? (i := 53) (by decide +kernel)) rfl), (m_tm (List.mem_of_getElem? (i := 804) rfl) rfl), ⟨by decide +kernel, by decide +kernel, by decide +kernel⟩, by decide⟩
set_option maxRecDepth 20000 in
theorem ok_X11_isVariable : m_OS M_X11_isVariable 1 := ⟨(m_tm (List.mem_of_getElem? (i := 806) (by decide +kernel)) rfl), (m_tm (List.mem_of_getElem? (i := 53) (by decide +kernel)) rfl), (m_tm (List.mem_of_getElem? (i := 807) rfl) rfl), ⟨by decide +kernel, by decide +kernel, by decide +kernel⟩, by decide⟩
set_option maxRecDepth 20000 in
theorem ok_X11_addSquareFreeTest : m_OV M_X11_addSquareFreeTest 0 := ⟨⟨(m_tm (List.mem_of_getElem? (i := 809) (by decide +kernel)) rfl), (m_tm (List.mem_of_getElem? (i := 810) (by decide +kernel)) rfl)⟩, (m_tm (List.mem_of_getElem? (i := 53) (by decide +kernel)) rfl), (m_tm (List.mem_of_getElem? (i := 811) rfl) rfl), ⟨by decide +kernel, by decide +kernel, by decide +kernel⟩, by decide⟩
set_option maxRecDepth 20000 in
theorem ok_X11_addPowerTest : m_OV M_X11_addPowerTest 1 := ⟨⟨(m_tm (List.mem_of_getElem? (i := 813) (by decide +kernel)) rfl), (m_tm (List.mem_of_getElem? (i := 814) (by decide +kernel)) rfl)⟩, (m_tm (List.mem_of_getElem? (i := 53) (by decide +kernel)) rfl), (m_tm (List.mem_of_getElem? (i := 815) rfl) rfl), ⟨by decide +kernel, by decide +kernel, by decide +kernel⟩, by decide⟩
set_option maxRecDepth 20000 in
theorem ok_X11_addSymbolicTest : m_OV M_X11_addSymbolicTest 1 := ⟨⟨(m_tm (List.mem_of_getElem? (i := 817) (by decide +kernel)) rfl), (m_tm (List.mem_of_getElem? (i := 818) (by decide +kernel)) rfl)⟩, (m_tm (List.mem_of_getElem? (i := 53) (by decide +kernel)) rfl), (m_tm (List.mem_of_getElem? (i := 819) rfl) rfl), ⟨by decide +kernel, by decide +kernel, by decide +kernel⟩, by decide⟩
set_option maxRecDepth 20000 in
theorem ok_X11_addAndTest : m_OV M_X11_addAndTest 2 := ⟨⟨(m_tm (List.mem_of_getElem? (i := 821) (by decide +kernel)) rfl), (m_tm (List.mem_of_getElem? (i := 822) (by decide +kernel)) rfl)⟩, (m_tm (List.mem_of_getElem? (i := 53) (by decide +kernel)) rfl), (m_tm (List.mem_of_getElem? (i := 823) rfl) rfl), ⟨by decide +kernel, by decide +kernel, by decide +kernel⟩, by decide⟩
set_option maxRecDepth 20000 in
theorem ok_X11_isTest : m_OV M_X11_isTest 1 := ⟨⟨(m_tm (List.mem_of_getElem? (i := 826) (by decide +kernel)) rfl), (m_tm (List.mem_of_getElem? (i := 5) (by decide +kernel)) rfl)⟩, (m_tm (List.mem_of_getElem? (i := 53) (by decide +kernel)) rfl), (m_tm (List.mem_of_getElem? (i := 827) rfl) rfl), ⟨by decide +kernel, by decide +kernel, by decide +kernel⟩, by decide⟩
set_option maxRecDepth 20000 in
theorem ok_X11_addOrTest : m_OV M_X11_addOrTest 2 := ⟨⟨(m_tm (List.mem_of_getElem? (i := 829) (by decide +kernel)) rfl), (m_tm (List.mem_of_getElem? (i := 830) (by decide +kernel)) rfl)⟩, (m_tm (List.mem_of_getElem? (i := 53) (by decide +kernel)) rfl), (m_tm (List.mem_of_getElem? (i := 831) rfl) rfl), ⟨by decide +kernel, by decide +kernel, by decide +kernel⟩, by decide⟩
set_option maxRecDepth 20000 in
theorem ok_X11_addNotTest : m_OV M_X11_addNotTest 1 := ⟨⟨(m_tm (List.mem_of_getElem? (i := 833) (by decide +kernel)) rfl), (m_tm (List.mem_of_getElem? (i := 834) (by decide +kernel)) rfl)⟩, (m_tm (List.mem_of_getElem? (i := 53) (by decide +kernel)) rfl), (m_tm (List.mem_of_getElem? (i := 835) rfl) rfl), ⟨by decide +kernel, by decide +kernel, by decide +kernel⟩, by decide⟩
set_option maxRecDepth 20000 in
theorem ok_X11_testCount : m_OV M_X11_testCount 0 := ⟨⟨(m_tm (List.mem_of_getElem? (i := 837) (by decide +kernel)) rfl), (m_tm (List.mem_of_getElem? (i := 838) (by decide +kernel)) rfl)⟩, (m_tm (List.mem_of_getElem? (i := 53) (by decide +kernel)) rfl), (m_tm (List.mem_of_getElem? (i := 839) rfl) rfl), ⟨by decide +kernel, by decide +kernel, by decide +kernel⟩, by decide⟩
set_option maxRecDepth 20000 in
theorem ok_X11_passes : m_OV M_X11_passes 2 := ⟨⟨(m_tm (List.mem_of_getElem? (i := 841) (by decide +kernel)) rfl), (m_tm (List.mem_of_getElem? (i := 842) (by decide +kernel)) rfl)⟩, (m_tm (List.mem_of_getElem? (i := 53) (by decide +kernel)) rfl), (m_tm (List.mem_of_getElem? (i := 843) rfl) rfl), ⟨by decide +kernel, by decide +kernel, by decide +kernel⟩, by decide⟩
set_option maxRecDepth 20000 in
theorem ok_X10_accepts : m_OV M_X10_accepts 3 := ⟨⟨(m_tm (List.mem_of_getElem? (i := 845) (by decide +kernel)) rfl), (m_tm (List.mem_of_getElem? (i := 846) (by decide +kernel)) rfl)⟩, (m_tm (List.mem_of_getElem? (i := 60) (by decide +kernel)) rfl), (m_tm (List.mem_of_getElem? (i := 847) rfl) rfl), ⟨by decide +kernel, by decide +kernel, by decide +kernel⟩, by decide⟩
set_option maxRecDepth 20000 in
theorem ok_X10_holds : m_OV M_X10_holds 4 := ⟨⟨(m_tm (List.mem_of_getElem? (i := 849) (by decide +kernel)) rfl), (m_tm (List.mem_of_getElem? (i := 850) (by decide +kernel)) rfl)⟩, (m_tm (List.mem_of_getElem? (i := 60) (by decide +kernel)) rfl), (m_tm (List.mem_of_getElem? (i := 851) rfl) rfl), ⟨by decide +kernel, by decide +kernel, by decide +kernel⟩, by decide⟩
set_option maxRecDepth 20000 in
theorem ok_X11_passCount : m_OV M_X11_passCount 1 := ⟨⟨(m_tm (List.mem_of_getElem? (i := 857) (by decide +kernel)) rfl), (m_tm (List.mem_of_getElem? (i := 858) (by decide +kernel)) rfl)⟩, (m_tm (List.mem_of_getElem? (i := 53) (by decide +kernel)) rfl), (m_tm (List.mem_of_getElem? (i := 859) rfl) rfl), ⟨by decide +kernel, by decide +kernel, by decide +kernel⟩, by decide⟩
set_option maxRecDepth 20000 in
theorem ok_X11_passing : m_OV M_X11_passing 2 := ⟨⟨(m_tm (List.mem_of_getElem? (i := 861) (by decide +kernel)) rfl), (m_tm (List.mem_of_getElem? (i := 862) (by decide +kernel)) rfl)⟩, (m_tm (List.mem_of_getElem? (i := 53) (by decide +kernel)) rfl), (m_tm (List.mem_of_getElem? (i := 863) rfl) rfl), ⟨by decide +kernel, by decide +kernel, by decide +kernel⟩, by decide⟩
set_option maxRecDepth 20000 in
theorem ok_X11_append : m_OV M_X11_append 1 := ⟨⟨(m_tm (List.mem_of_getElem? (i := 865) (by decide +kernel)) rfl), (m_tm (List.mem_of_getElem? (i := 866) (by decide +kernel)) rfl)⟩, (m_tm (List.mem_of_getElem? (i := 53) (by decide +kernel)) rfl), (m_tm (List.mem_of_getElem? (i := 867) rfl) rfl), ⟨by decide +kernel, by decide +kernel, by decide +kernel⟩, by decide⟩
set_option maxRecDepth 20000 in
theorem ok_X11_fillWithGenerators : m_OV M_X11_fillWithGenerators 1 := ⟨⟨(m_tm (List.mem_of_getElem? (i := 870) (by decide +kernel)) rfl), (m_tm (List.mem_of_getElem? (i := 871) (by decide +kernel)) rfl)⟩, (m_tm (List.mem_of_getElem? (i := 53) (by decide +kernel)) rfl), (m_tm (List.mem_of_getElem? (i := 872) rfl) rfl), ⟨by decide +kernel, by decide +kernel, by decide +kernel⟩, by decide⟩
set_option maxRecDepth 20000 in
theorem ok_X11_fillList : m_OV M_X11_fillList 1 := ⟨⟨(m_tm (List.mem_of_getElem? (i := 875) (by decide +kernel)) rfl), (m_tm (List.mem_of_getElem? (i := 6) (by decide +kernel)) rfl)⟩, (m_tm (List.mem_of_getElem? (i := 53) (by decide +kernel)) rfl), (m_tm (List.mem_of_getElem? (i := 876) rfl) rfl), ⟨by decide +kernel, by decide +kernel, by decide +kernel⟩, by decide⟩
set_option maxRecDepth 20000 in
theorem ok_X11_fillWithSymbolicGenerators : m_OV M_X11_fillWithSymbolicGenerators 1 := ⟨⟨(m_tm (List.mem_of_getElem? (i := 879) (by decide +kernel)) rfl), (m_tm (List.mem_of_getElem? (i := 880) (by decide +kernel)) rfl)⟩, (m_tm (List.mem_of_getElem? (i := 53) (by decide +kernel)) rfl), (m_tm (List.mem_of_getElem? (i := 881) rfl) rfl), ⟨by decide +kernel, by decide +kernel, by decide +kernel⟩, by decide⟩
set_option maxRecDepth 20000 in
theorem ok_X11_listSize : m_OV M_X11_listSize 0 := ⟨⟨(m_tm (List.mem_of_getElem? (i := 883) (by decide +kernel)) rfl), (m_tm (List.mem_of_getElem? (i := 884) (by decide +kernel)) rfl)⟩, (m_tm (List.mem_of_getElem? (i := 53) (by decide +kernel)) rfl), (m_tm (List.mem_of_getElem? (i := 885) rfl) rfl), ⟨by decide +kernel, by decide +kernel, by decide +kernel⟩, by decide⟩
set_option maxRecDepth 20000 in
theorem ok_X11_element : m_OV M_X11_element 1 := ⟨⟨(m_tm (List.mem_of_getElem? (i := 887) (by decide +kernel)) rfl), (m_tm (List.mem_of_getElem? (i := 888) (by decide +kernel)) rfl)⟩, (m_tm (List.mem_of_getElem? (i := 53) (by decide +kernel)) rfl), (m_tm (List.mem_of_getElem? (i := 889) rfl) rfl), ⟨by decide +kernel, by decide +kernel, by decide +kernel⟩, by decide⟩
set_option maxRecDepth 20000 in
theorem ok_X11_clearList : m_OV M_X11_clearList 0 := ⟨⟨(m_tm (List.mem_of_getElem? (i := 891) (by decide +kernel)) rfl), (m_tm (List.mem_of_getElem? (i := 892) (by decide +kernel)) rfl)⟩, (m_tm (List.mem_of_getElem? (i := 53) (by decide +kernel)) rfl), (m_tm (List.mem_of_getElem? (i := 893) rfl) rfl), ⟨by decide +kernel, by decide +kernel, by decide +kernel⟩, by decide⟩
set_option maxRecDepth 20000 in
theorem ok_X11_minimizeList : m_OV M_X11_minimizeList 0 := ⟨⟨(m_tm (List.mem_of_getElem? (i := 895) (by decide +kernel)) rfl), (m_tm (List.mem_of_getElem? (i := 896) (by decide +kernel)) rfl)⟩, (m_tm (List.mem_of_getElem? (i := 53) (by decide +kernel)) rfl), (m_tm (List.mem_of_getElem? (i := 897) rfl) rfl), ⟨by decide +kernel, by decide +kernel, by decide +kernel⟩, by decide⟩
set_option maxRecDepth 20000 in
theorem ok_X5_minimize : m_OV M_X5_minimize 0 := ⟨⟨(m_tm (List.mem_of_getElem? (i := 899) (by decide +kernel)) rfl), (m_tm (List.mem_of_getElem? (i := 900) (by decide +kernel)) rfl)⟩, (m_tm (List.mem_of_getElem? (i := 61) (by decide +kernel)) rfl), (m_tm (List.mem_of_getElem? (i := 901) rfl) rfl), ⟨by decide +kernel, by decide +kernel, by decide +kernel⟩, by decide⟩
set_option maxRecDepth 20000 in
theorem ok_X5_isSuperfluous : m_OV M_X5_isSuperfluous 1 := ⟨⟨(m_tm (List.mem_of_getElem? (i := 903) (by decide +kernel)) rfl), (m_tm (List.mem_of_getElem? (i := 904) (by decide +kernel)) rfl)⟩, (m_tm (List.mem_of_getElem? (i := 61) (by decide +kernel)) rfl), (m_tm (List.mem_of_getElem? (i := 905) rfl) rfl), ⟨by decide +kernel, by decide +kernel, by decide +kernel⟩, by decide⟩
set_option maxRecDepth 20000 in
theorem ok_X11_divideListBy : m_OV M_X11_divideListBy 1 := ⟨⟨(m_tm (List.mem_of_getElem? (i := 910) (by decide +kernel)) rfl), (m_tm (List.mem_of_getElem? (i := 911) (by decide +kernel)) rfl)⟩, (m_tm (List.mem_of_getElem? (i := 53) (by decide +kernel)) rfl), (m_tm (List.mem_of_getElem? (i := 912) rfl) rfl), ⟨by decide +kernel, by decide +kernel, by decide +kernel⟩, by decide⟩
set_option maxRecDepth 20000 in
theorem ok_X5_decreaseExponents : m_OV M_X5_decreaseExponents 1 := ⟨⟨(m_tm (List.mem_of_getElem? (i := 914) (by decide +kernel)) rfl), (m_tm (List.mem_of_getElem? (i := 915) (by decide +kernel)) rfl)⟩, (m_tm (List.mem_of_getElem? (i := 61) (by decide +kernel)) rfl), (m_tm (List.mem_of_getElem? (i := 916) rfl) rfl), ⟨by decide +kernel, by decide +kernel, by decide +kernel⟩, by decide⟩
set_option maxRecDepth 20000 in
theorem ok_X11_reverseList : m_OV M_X11_reverseList 0 := ⟨⟨(m_tm (List.mem_of_getElem? (i := 920) (by decide +kernel)) rfl), (m_tm (List.mem_of_getElem? (i := 921) (by decide +kernel)) rfl)⟩, (m_tm (List.mem_of_getElem? (i := 53) (by decide +kernel)) rfl), (m_tm (List.mem_of_getElem? (i := 922) rfl) rfl), ⟨by decide +kernel, by decide +kernel, by decide +kernel⟩, by decide⟩
set_option maxRecDepth 20000 in
theorem ok_X5_reverse : m_OV M_X5_reverse 0 := ⟨⟨(m_tm (List.mem_of_getElem? (i := 924) (by decide +kernel)) rfl), (m_tm (List.mem_of_getElem? (i := 925) (by decide +kernel)) rfl)⟩, (m_tm (List.mem_of_getElem? (i := 61) (by decide +kernel)) rfl), (m_tm (List.mem_of_getElem? (i := 926) rfl) rfl), ⟨by decide +kernel, by decide +kernel, by decide +kernel⟩, by decide⟩
set_option maxRecDepth 20000 in
theorem ok_X5_swap : m_OV M_X5_swap 2 := ⟨⟨(m_tm (List.mem_of_getElem? (i := 928) (by decide +kernel)) rfl), (m_tm (List.mem_of_getElem? (i := 929) (by decide +kernel)) rfl)⟩, (m_tm (List.mem_of_getElem? (i := 61) (by decide +kernel)) rfl), (m_tm (List.mem_of_getElem? (i := 930) rfl) rfl), ⟨by decide +kernel, by decide +kernel, by decide +kernel⟩, by decide⟩
set_option maxRecDepth 20000 in
theorem ok_X11_rotateList : m_OV M_X11_rotateList 1 := ⟨⟨(m_tm (List.mem_of_getElem? (i := 932) (by decide +kernel)) rfl), (m_tm (List.mem_of_getElem? (i := 933) (by decide +kernel)) rfl)⟩, (m_tm (List.mem_of_getElem? (i := 53) (by decide +kernel)) rfl), (m_tm (List.mem_of_getElem? (i := 934) rfl) rfl), ⟨by decide +kernel, by decide +kernel, by decide +kernel⟩, by decide⟩
set_option maxRecDepth 20000 in
theorem ok_X5_rotate : m_OV M_X5_rotate 1 := ⟨⟨(m_tm (List.mem_of_getElem? (i := 936) (by decide +kernel)) rfl), (m_tm (List.mem_of_getElem? (i := 937) (by decide +kernel)) rfl)⟩, (m_tm (List.mem_of_getElem? (i := 61) (by decide +kernel)) rfl), (m_tm (List.mem_of_getElem? (i := 938) rfl) rfl), ⟨by decide +kernel, by decide +kernel, by decide +kernel⟩, by decide⟩
set_option maxRecDepth 20000 in
theorem ok_X11_swapElements : m_OV M_X11_swapElements 2 := ⟨⟨(m_tm (List.mem_of_getElem? (i := 940) (by decide +kernel)) rfl), (m_tm (List.mem_of_getElem? (i := 941) (by decide +kernel)) rfl)⟩, (m_tm (List.mem_of_getElem? (i := 53) (by decide +kernel)) rfl), (m_tm (List.mem_of_getElem? (i := 942) rfl) rfl), ⟨by decide +kernel, by decide +kernel, by decide +kernel⟩, by decide⟩
set_option maxRecDepth 20000 in
theorem ok_X7_has : m_OV M_X7_has 1 := ⟨⟨(m_tm (List.mem_of_getElem? (i := 944) (by decide +kernel)) rfl), (m_tm (List.mem_of_getElem? (i := 945) (by decide +kernel)) rfl)⟩, (m_tm (List.mem_of_getElem? (i := 55) (by decide +kernel)) rfl), (m_tm (List.mem_of_getElem? (i := 946) rfl) rfl), ⟨by decide +kernel, by decide +kernel, by decide +kernel⟩, by decide⟩
set_option maxRecDepth 20000 in
theorem ok_X11_indexOfDivisor : m_OV M_X11_indexOfDivisor 1 := ⟨⟨(m_tm (List.mem_of_getElem? (i := 949) (by decide +kernel)) rfl), (m_tm (List.mem_of_getElem? (i := 950) (by decide +kernel)) rfl)⟩, (m_tm (List.mem_of_getElem? (i := 53) (by decide +kernel)) rfl), (m_tm (List.mem_of_getElem? (i := 951) rfl) rfl), ⟨by decide +kernel, by decide +kernel, by decide +kernel⟩, by decide⟩
set_option maxRecDepth 20000 in
theorem ok_X5_firstDivisorOf : m_OV M_X5_firstDivisorOf 1 := ⟨⟨(m_tm (List.mem_of_getElem? (i := 953) (by decide +kernel)) rfl), (m_tm (List.mem_of_getElem? (i := 954) (by decide +kernel)) rfl)⟩, (m_tm (List.mem_of_getElem? (i := 61) (by decide +kernel)) rfl), (m_tm (List.mem_of_getElem? (i := 955) rfl) rfl), ⟨by decide +kernel, by decide +kernel, by decide +kernel⟩, by decide⟩
set_option maxRecDepth 20000 in
theorem ok_X11_polarizedVariableCount : m_OV M_X11_polarizedVariableCount 0 := ⟨⟨(m_tm (List.mem_of_getElem? (i := 957) (by decide +kernel)) rfl), (m_tm (List.mem_of_getElem? (i := 958) (by decide +kernel)) rfl)⟩, (m_tm (List.mem_of_getElem? (i := 53) (by decide +kernel)) rfl), (m_tm (List.mem_of_getElem? (i := 959) rfl) rfl), ⟨by decide +kernel, by decide +kernel, by decide +kernel⟩, by decide⟩
set_option maxRecDepth 20000 in
theorem ok_X5_polarizedTotal : m_OV M_X5_polarizedTotal 0 := ⟨⟨(m_tm (List.mem_of_getElem? (i := 961) (by decide +kernel)) rfl), (m_tm (List.mem_of_getElem? (i := 962) (by decide +kernel)) rfl)⟩, (m_tm (List.mem_of_getElem? (i := 61) (by decide +kernel)) rfl), (m_tm (List.mem_of_getElem? (i := 963) rfl) rfl), ⟨by decide +kernel, by decide +kernel, by decide +kernel⟩, by decide⟩
set_option maxRecDepth 20000 in
theorem ok_X5_greatestExponentOf : m_OV M_X5_greatestExponentOf 1 := ⟨⟨(m_tm (List.mem_of_getElem? (i := 965) (by decide +kernel)) rfl), (m_tm (List.mem_of_getElem? (i := 966) (by decide +kernel)) rfl)⟩, (m_tm (List.mem_of_getElem? (i := 61) (by decide +kernel)) rfl), (m_tm (List.mem_of_getElem? (i := 967) rfl) rfl), ⟨by decide +kernel, by decide +kernel, by decide +kernel⟩, by decide⟩
set_option maxRecDepth 20000 in
theorem ok_X11_polarized : m_OV M_X11_polarized 1 := ⟨⟨(m_tm (List.mem_of_getElem? (i := 970) (by decide +kernel)) rfl), (m_tm (List.mem_of_getElem? (i := 971) (by decide +kernel)) rfl)⟩, (m_tm (List.mem_of_getElem? (i := 53) (by decide +kernel)) rfl), (m_tm (List.mem_of_getElem? (i := 972) rfl) rfl), ⟨by decide +kernel, by decide +kernel, by decide +kernel⟩, by decide⟩
set_option maxRecDepth 20000 in
theorem ok_X5_polarizationOf : m_OV M_X5_polarizationOf 1 := ⟨⟨(m_tm (List.mem_of_getElem? (i := 974) (by decide +kernel)) rfl), (m_tm (List.mem_of_getElem? (i := 975) (by decide +kernel)) rfl)⟩, (m_tm (List.mem_of_getElem? (i := 61) (by decide +kernel)) rfl), (m_tm (List.mem_of_getElem? (i := 976) rfl) rfl), ⟨by decide +kernel, by decide +kernel, by decide +kernel⟩, by decide⟩
set_option maxRecDepth 20000 in
theorem ok_X11_hittingNumber : m_OV M_X11_hittingNumber 0 := ⟨⟨(m_tm (List.mem_of_getElem? (i := 978) (by decide +kernel)) rfl), (m_tm (List.mem_of_getElem? (i := 979) (by decide +kernel)) rfl)⟩, (m_tm (List.mem_of_getElem? (i := 53) (by decide +kernel)) rfl), (m_tm (List.mem_of_getElem? (i := 980) rfl) rfl), ⟨by decide +kernel, by decide +kernel, by decide +kernel⟩, by decide⟩
set_option maxRecDepth 20000 in
theorem ok_X5_smallestHittingSize : m_OV M_X5_smallestHittingSize 0 := ⟨⟨(m_tm (List.mem_of_getElem? (i := 982) (by decide +kernel)) rfl), (m_tm (List.mem_of_getElem? (i := 983) (by decide +kernel)) rfl)⟩, (m_tm (List.mem_of_getElem? (i := 61) (by decide +kernel)) rfl), (m_tm (List.mem_of_getElem? (i := 984) rfl) rfl), ⟨by decide +kernel, by decide +kernel, by decide +kernel⟩, by decide⟩
set_option maxRecDepth 20000 in
theorem ok_X5_hitsAll : m_OV M_X5_hitsAll 1 := ⟨⟨(m_tm (List.mem_of_getElem? (i := 988) (by decide +kernel)) rfl), (m_tm (List.mem_of_getElem? (i := 989) (by decide +kernel)) rfl)⟩, (m_tm (List.mem_of_getElem? (i := 61) (by decide +kernel)) rfl), (m_tm (List.mem_of_getElem? (i := 990) rfl) rfl), ⟨by decide +kernel, by decide +kernel, by decide +kernel⟩, by decide⟩
set_option maxRecDepth 20000 in
theorem ok_X11_feed : m_OV M_X11_feed 1 := ⟨⟨(m_tm (List.mem_of_getElem? (i := 992) (by decide +kernel)) rfl), (m_tm (List.mem_of_getElem? (i := 993) (by decide +kernel)) rfl)⟩, (m_tm (List.mem_of_getElem? (i := 53) (by decide +kernel)) rfl), (m_tm (List.mem_of_getElem? (i := 994) rfl) rfl), ⟨by decide +kernel, by decide +kernel, by decide +kernel⟩, by decide⟩
set_option maxRecDepth 20000 in
theorem ok_X11_discardInput : m_OV M_X11_discardInput 0 := ⟨⟨(m_tm (List.mem_of_getElem? (i := 996) (by decide +kernel)) rfl), (m_tm (List.mem_of_getElem? (i := 997) (by decide +kernel)) rfl)⟩, (m_tm (List.mem_of_getElem? (i := 53) (by decide +kernel)) rfl), (m_tm (List.mem_of_getElem? (i := 998) rfl) rfl), ⟨by decide +kernel, by decide +kernel, by decide +kernel⟩, by decide⟩
set_option maxRecDepth 20000 in
theorem ok_X11_inputLength : m_OV M_X11_inputLength 0 := ⟨⟨(m_tm (List.mem_of_getElem? (i := 1000) (by decide +kernel)) rfl), (m_tm (List.mem_of_getElem? (i := 1001) (by decide +kernel)) rfl)⟩, (m_tm (List.mem_of_getElem? (i := 53) (by decide +kernel)) rfl), (m_tm (List.mem_of_getElem? (i := 1002) rfl) rfl), ⟨by decide +kernel, by decide +kernel, by decide +kernel⟩, by decide⟩
set_option maxRecDepth 20000 in
theorem ok_X11_parse : m_OV M_X11_parse 0 := ⟨⟨(m_tm (List.mem_of_getElem? (i := 1004) (by decide +kernel)) rfl), (m_tm (List.mem_of_getElem? (i := 1005) (by decide +kernel)) rfl)⟩, (m_tm (List.mem_of_getElem? (i := 53) (by decide +kernel)) rfl), (m_tm (List.mem_of_getElem? (i := 1006) rfl) rfl), ⟨by decide +kernel, by decide +kernel, by decide +kernel⟩, by decide⟩
set_option maxRecDepth 20000 in
theorem ok_X3_read : m_OV M_X3_read 0 := ⟨⟨(m_tm (List.mem_of_getElem? (i := 1008) (by decide +kernel)) rfl), (m_tm (List.mem_of_getElem? (i := 1009) (by decide +kernel)) rfl)⟩, (m_tm (List.mem_of_getElem? (i := 62) (by decide +kernel)) rfl), (m_tm (List.mem_of_getElem? (i := 1010) rfl) rfl), ⟨by decide +kernel, by decide +kernel, by decide +kernel⟩, by decide⟩
