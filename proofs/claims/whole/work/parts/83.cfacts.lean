section CFACTS
theorem ini_X11 : Cond.initialized RX11 ∈ m_tbl := (m_tm (List.mem_of_getElem? (i := 53) (by decide +kernel)) rfl)
theorem ini_X1 : Cond.initialized RX1 ∈ m_tbl := (m_tm (List.mem_of_getElem? (i := 54) (by decide +kernel)) rfl)
theorem ini_X7 : Cond.initialized RX7 ∈ m_tbl := (m_tm (List.mem_of_getElem? (i := 55) (by decide +kernel)) rfl)
theorem ini_X2 : Cond.initialized RX2 ∈ m_tbl := (m_tm (List.mem_of_getElem? (i := 57) (by decide +kernel)) rfl)
theorem ini_X4 : Cond.initialized RX4 ∈ m_tbl := (m_tm (List.mem_of_getElem? (i := 58) (by decide +kernel)) rfl)
theorem ini_X0 : Cond.initialized RX0 ∈ m_tbl := (m_tm (List.mem_of_getElem? (i := 59) (by decide +kernel)) rfl)
theorem ini_X10 : Cond.initialized RX10 ∈ m_tbl := (m_tm (List.mem_of_getElem? (i := 60) (by decide +kernel)) rfl)
theorem ini_X5 : Cond.initialized RX5 ∈ m_tbl := (m_tm (List.mem_of_getElem? (i := 61) (by decide +kernel)) rfl)
theorem ini_X3 : Cond.initialized RX3 ∈ m_tbl := (m_tm (List.mem_of_getElem? (i := 62) (by decide +kernel)) rfl)
theorem ini_X8 : Cond.initialized RX8 ∈ m_tbl := (m_tm (List.mem_of_getElem? (i := 63) (by decide +kernel)) rfl)
theorem ini_X9 : Cond.initialized RX9 ∈ m_tbl := (m_tm (List.mem_of_getElem? (i := 64) (by decide +kernel)) rfl)
theorem ini_X12 : Cond.initialized RX12 ∈ m_tbl := (m_tm (List.mem_of_getElem? (i := 65) (by decide +kernel)) rfl)
theorem cx_L_7 : Cond.classLink RL 7 RX11 ∈ m_tbl := (m_tm (List.mem_of_getElem? (i := 70) (by decide +kernel)) rfl)
theorem inst_X11 : Cond.instantiable RX11 9 ∈ m_tbl := (m_tm (List.mem_of_getElem? (i := 71) (by decide +kernel)) rfl)
theorem oi_X11 : Cond.methodLink RX11 5 Lib.objectInit ∈ m_tbl := (m_tm (List.mem_of_getElem? (i := 75) (by decide +kernel)) rfl)
theorem oi_I : Cond.instanceMethod Lib.objectInit ∈ m_tbl := (m_tm (List.mem_of_getElem? (i := 76) (by decide +kernel)) rfl)
theorem oi_C : Cond.code Lib.objectInit ⟨#[0xb1]⟩ 1 none ∈ m_tbl := (m_tm (List.mem_of_getElem? (i := 77) rfl) rfl)
theorem cx_X11_11 : Cond.classLink RX11 11 RX1 ∈ m_tbl := (m_tm (List.mem_of_getElem? (i := 78) (by decide +kernel)) rfl)
theorem inst_X1 : Cond.instantiable RX1 3 ∈ m_tbl := (m_tm (List.mem_of_getElem? (i := 79) (by decide +kernel)) rfl)
theorem oi_X1 : Cond.methodLink RX1 3 Lib.objectInit ∈ m_tbl := (m_tm (List.mem_of_getElem? (i := 83) (by decide +kernel)) rfl)
theorem cx_X1_19 : Cond.classLink RX1 19 RX7 ∈ m_tbl := (m_tm (List.mem_of_getElem? (i := 84) (by decide +kernel)) rfl)
theorem inst_X7 : Cond.instantiable RX7 2 ∈ m_tbl := (m_tm (List.mem_of_getElem? (i := 85) (by decide +kernel)) rfl)
theorem oi_X7 : Cond.methodLink RX7 3 Lib.objectInit ∈ m_tbl := (m_tm (List.mem_of_getElem? (i := 89) (by decide +kernel)) rfl)
theorem ac_int : Cond.arrayClass .int ∈ m_tbl := (m_tm (List.mem_of_getElem? (i := 111) (by decide +kernel)) rfl)
theorem cx_X11_18 : Cond.classLink RX11 18 RX2 ∈ m_tbl := (m_tm (List.mem_of_getElem? (i := 127) (by decide +kernel)) rfl)
theorem inst_X2 : Cond.instantiable RX2 10 ∈ m_tbl := (m_tm (List.mem_of_getElem? (i := 128) (by decide +kernel)) rfl)
theorem oi_X2 : Cond.methodLink RX2 3 Lib.objectInit ∈ m_tbl := (m_tm (List.mem_of_getElem? (i := 132) (by decide +kernel)) rfl)
theorem cx_X2_21 : Cond.classLink RX2 21 RX7 ∈ m_tbl := (m_tm (List.mem_of_getElem? (i := 133) (by decide +kernel)) rfl)
theorem ao_X7 : Cond.arrayOver (.object RX7) ∈ lw_tbl := List.mem_of_getElem? (i := 135) (by decide +kernel)
theorem ac_boolean : Cond.arrayClass .boolean ∈ m_tbl := (m_tm (List.mem_of_getElem? (i := 167) (by decide +kernel)) rfl)
theorem cx_X11_27 : Cond.classLink RX11 27 RX4 ∈ m_tbl := (m_tm (List.mem_of_getElem? (i := 168) (by decide +kernel)) rfl)
theorem inst_X4 : Cond.instantiable RX4 7 ∈ m_tbl := (m_tm (List.mem_of_getElem? (i := 169) (by decide +kernel)) rfl)
theorem oi_X4 : Cond.methodLink RX4 3 Lib.objectInit ∈ m_tbl := (m_tm (List.mem_of_getElem? (i := 173) (by decide +kernel)) rfl)
theorem cx_X4_23 : Cond.classLink RX4 23 RX7 ∈ m_tbl := (m_tm (List.mem_of_getElem? (i := 174) (by decide +kernel)) rfl)
theorem cx_X11_36 : Cond.classLink RX11 36 RX0 ∈ m_tbl := (m_tm (List.mem_of_getElem? (i := 199) (by decide +kernel)) rfl)
theorem inst_X0 : Cond.instantiable RX0 2 ∈ m_tbl := (m_tm (List.mem_of_getElem? (i := 200) (by decide +kernel)) rfl)
theorem oi_X0 : Cond.methodLink RX0 1 Lib.objectInit ∈ m_tbl := (m_tm (List.mem_of_getElem? (i := 204) (by decide +kernel)) rfl)
theorem ac_long : Cond.arrayClass .long ∈ m_tbl := (m_tm (List.mem_of_getElem? (i := 213) (by decide +kernel)) rfl)
theorem cx_X11_43 : Cond.classLink RX11 43 RX10 ∈ m_tbl := (m_tm (List.mem_of_getElem? (i := 214) (by decide +kernel)) rfl)
theorem inst_X10 : Cond.instantiable RX10 5 ∈ m_tbl := (m_tm (List.mem_of_getElem? (i := 215) (by decide +kernel)) rfl)
theorem oi_X10 : Cond.methodLink RX10 3 Lib.objectInit ∈ m_tbl := (m_tm (List.mem_of_getElem? (i := 219) (by decide +kernel)) rfl)
theorem cx_X11_50 : Cond.classLink RX11 50 RX5 ∈ m_tbl := (m_tm (List.mem_of_getElem? (i := 237) (by decide +kernel)) rfl)
theorem inst_X5 : Cond.instantiable RX5 3 ∈ m_tbl := (m_tm (List.mem_of_getElem? (i := 238) (by decide +kernel)) rfl)
theorem oi_X5 : Cond.methodLink RX5 3 Lib.objectInit ∈ m_tbl := (m_tm (List.mem_of_getElem? (i := 242) (by decide +kernel)) rfl)
theorem cx_X5_9 : Cond.classLink RX5 9 RX7 ∈ m_tbl := (m_tm (List.mem_of_getElem? (i := 243) (by decide +kernel)) rfl)
theorem cx_X11_57 : Cond.classLink RX11 57 RX3 ∈ m_tbl := (m_tm (List.mem_of_getElem? (i := 256) (by decide +kernel)) rfl)
theorem inst_X3 : Cond.instantiable RX3 5 ∈ m_tbl := (m_tm (List.mem_of_getElem? (i := 257) (by decide +kernel)) rfl)
theorem oi_X3 : Cond.methodLink RX3 3 Lib.objectInit ∈ m_tbl := (m_tm (List.mem_of_getElem? (i := 261) (by decide +kernel)) rfl)
theorem cx_X3_9 : Cond.classLink RX3 9 RX7 ∈ m_tbl := (m_tm (List.mem_of_getElem? (i := 262) (by decide +kernel)) rfl)
theorem cx_X11_64 : Cond.classLink RX11 64 RX8 ∈ m_tbl := (m_tm (List.mem_of_getElem? (i := 282) (by decide +kernel)) rfl)
theorem ao_X8 : Cond.arrayOver (.object RX8) ∈ lw_tbl := List.mem_of_getElem? (i := 283) (by decide +kernel)
theorem inst_X8 : Cond.instantiable RX8 2 ∈ m_tbl := (m_tm (List.mem_of_getElem? (i := 284) (by decide +kernel)) rfl)
theorem oi_X8 : Cond.methodLink RX8 3 Lib.objectInit ∈ m_tbl := (m_tm (List.mem_of_getElem? (i := 288) (by decide +kernel)) rfl)
theorem cx_X8_15 : Cond.classLink RX8 15 RX7 ∈ m_tbl := (m_tm (List.mem_of_getElem? (i := 289) (by decide +kernel)) rfl)
theorem cx_X11_71 : Cond.classLink RX11 71 RX9 ∈ m_tbl := (m_tm (List.mem_of_getElem? (i := 300) (by decide +kernel)) rfl)
theorem inst_X9 : Cond.instantiable RX9 5 ∈ m_tbl := (m_tm (List.mem_of_getElem? (i := 301) (by decide +kernel)) rfl)
theorem oi_X9 : Cond.methodLink RX9 3 Lib.objectInit ∈ m_tbl := (m_tm (List.mem_of_getElem? (i := 305) (by decide +kernel)) rfl)
theorem cx_X9_15 : Cond.classLink RX9 15 RX7 ∈ m_tbl := (m_tm (List.mem_of_getElem? (i := 306) (by decide +kernel)) rfl)
theorem cx_L_10 : Cond.classLink RL 10 RX12 ∈ m_tbl := (m_tm (List.mem_of_getElem? (i := 1100) (by decide +kernel)) rfl)
theorem inst_X12 : Cond.instantiable RX12 31 ∈ m_tbl := (m_tm (List.mem_of_getElem? (i := 1101) (by decide +kernel)) rfl)
theorem oi_X12 : Cond.methodLink RX12 3 Lib.objectInit ∈ m_tbl := (m_tm (List.mem_of_getElem? (i := 1105) (by decide +kernel)) rfl)
theorem cx_X12_71 : Cond.classLink RX12 71 ("[" ++ (FieldType.array .int).toString) ∈ m_tbl := (m_tm (List.mem_of_getElem? (i := 1106) (by decide +kernel)) rfl)
theorem ao_A : Cond.arrayOver (.array .int) ∈ lw_tbl := List.mem_of_getElem? (i := 1107) (by decide +kernel)
theorem ff_X0_9 : m_FF RX0 9 0 0 (.array .long) := ⟨RX0, TX0, 2, tyX0, rfl, by decide, iw_X0, (show Cond.fieldLink RX0 9 (TX0 0).1 (TX0 0).2.1 (TX0 0).2.2.1 ∈ m_tbl from (m_tm (List.mem_of_getElem? (i := 205) (by decide +kernel)) rfl)), rfl, by decide +kernel, tyX0_ok, nmX0, rfl⟩
theorem ff_X1_24 : m_FF RX1 24 1 2 (.object "EdgeIdeals$Row") := ⟨RX1, TX1, 3, tyX1, rfl, by decide, iw_X1, (show Cond.fieldLink RX1 24 (TX1 2).1 (TX1 2).2.1 (TX1 2).2.2.1 ∈ m_tbl from (m_tm (List.mem_of_getElem? (i := 119) (by decide +kernel)) rfl)), rfl, by decide +kernel, tyX1_ok, nmX1, rfl⟩
theorem ff_X10_11 : m_FF RX10 11 9 0 (.array .int) := ⟨RX10, TX10, 5, tyX10, rfl, by decide, iw_X10, (show Cond.fieldLink RX10 11 (TX10 0).1 (TX10 0).2.1 (TX10 0).2.2.1 ∈ m_tbl from (m_tm (List.mem_of_getElem? (i := 220) (by decide +kernel)) rfl)), rfl, by decide +kernel, tyX10_ok, nmX10, rfl⟩
theorem ff_X10_15 : m_FF RX10 15 9 1 (.array .int) := ⟨RX10, TX10, 5, tyX10, rfl, by decide, iw_X10, (show Cond.fieldLink RX10 15 (TX10 1).1 (TX10 1).2.1 (TX10 1).2.2.1 ∈ m_tbl from (m_tm (List.mem_of_getElem? (i := 221) (by decide +kernel)) rfl)), rfl, by decide +kernel, tyX10_ok, nmX10, rfl⟩
theorem ff_X10_18 : m_FF RX10 18 9 2 (.array .int) := ⟨RX10, TX10, 5, tyX10, rfl, by decide, iw_X10, (show Cond.fieldLink RX10 18 (TX10 2).1 (TX10 2).2.1 (TX10 2).2.2.1 ∈ m_tbl from (m_tm (List.mem_of_getElem? (i := 222) (by decide +kernel)) rfl)), rfl, by decide +kernel, tyX10_ok, nmX10, rfl⟩
theorem ff_X10_21 : m_FF RX10 21 9 3 (.array .int) := ⟨RX10, TX10, 5, tyX10, rfl, by decide, iw_X10, (show Cond.fieldLink RX10 21 (TX10 3).1 (TX10 3).2.1 (TX10 3).2.2.1 ∈ m_tbl from (m_tm (List.mem_of_getElem? (i := 223) (by decide +kernel)) rfl)), rfl, by decide +kernel, tyX10_ok, nmX10, rfl⟩
theorem ff_X11_14 : m_FF RX11 14 10 0 (.object "EdgeIdeals$Graph") := ⟨RX11, TX11, 9, tyX11, rfl, by decide, iw_X11, (show Cond.fieldLink RX11 14 (TX11 0).1 (TX11 0).2.1 (TX11 0).2.2.1 ∈ m_tbl from (m_tm (List.mem_of_getElem? (i := 326) (by decide +kernel)) rfl)), rfl, by decide +kernel, tyX11_ok, nmX11, rfl⟩
theorem ff_X11_23 : m_FF RX11 23 10 1 (.object "EdgeIdeals$Ideal") := ⟨RX11, TX11, 9, tyX11, rfl, by decide, iw_X11, (show Cond.fieldLink RX11 23 (TX11 1).1 (TX11 1).2.1 (TX11 1).2.2.1 ∈ m_tbl from (m_tm (List.mem_of_getElem? (i := 327) (by decide +kernel)) rfl)), rfl, by decide +kernel, tyX11_ok, nmX11, rfl⟩
theorem ff_X11_32 : m_FF RX11 32 10 2 (.object "EdgeIdeals$LinearQuotients") := ⟨RX11, TX11, 9, tyX11, rfl, by decide, iw_X11, (show Cond.fieldLink RX11 32 (TX11 2).1 (TX11 2).2.1 (TX11 2).2.2.1 ∈ m_tbl from (m_tm (List.mem_of_getElem? (i := 328) (by decide +kernel)) rfl)), rfl, by decide +kernel, tyX11_ok, nmX11, rfl⟩
theorem ff_X11_39 : m_FF RX11 39 10 3 (.object "EdgeIdeals$ChangeHistory") := ⟨RX11, TX11, 9, tyX11, rfl, by decide, iw_X11, (show Cond.fieldLink RX11 39 (TX11 3).1 (TX11 3).2.1 (TX11 3).2.2.1 ∈ m_tbl from (m_tm (List.mem_of_getElem? (i := 329) (by decide +kernel)) rfl)), rfl, by decide +kernel, tyX11_ok, nmX11, rfl⟩
theorem ff_X11_46 : m_FF RX11 46 10 4 (.object "EdgeIdeals$TestList") := ⟨RX11, TX11, 9, tyX11, rfl, by decide, iw_X11, (show Cond.fieldLink RX11 46 (TX11 4).1 (TX11 4).2.1 (TX11 4).2.2.1 ∈ m_tbl from (m_tm (List.mem_of_getElem? (i := 330) (by decide +kernel)) rfl)), rfl, by decide +kernel, tyX11_ok, nmX11, rfl⟩
theorem ff_X11_53 : m_FF RX11 53 10 5 (.object "EdgeIdeals$MonomialList") := ⟨RX11, TX11, 9, tyX11, rfl, by decide, iw_X11, (show Cond.fieldLink RX11 53 (TX11 5).1 (TX11 5).2.1 (TX11 5).2.2.1 ∈ m_tbl from (m_tm (List.mem_of_getElem? (i := 331) (by decide +kernel)) rfl)), rfl, by decide +kernel, tyX11_ok, nmX11, rfl⟩
theorem ff_X11_60 : m_FF RX11 60 10 6 (.object "EdgeIdeals$Input") := ⟨RX11, TX11, 9, tyX11, rfl, by decide, iw_X11, (show Cond.fieldLink RX11 60 (TX11 6).1 (TX11 6).2.1 (TX11 6).2.2.1 ∈ m_tbl from (m_tm (List.mem_of_getElem? (i := 332) (by decide +kernel)) rfl)), rfl, by decide +kernel, tyX11_ok, nmX11, rfl⟩
theorem ff_X11_66 : m_FF RX11 66 10 7 (.array (.object "EdgeIdeals$Slot")) := ⟨RX11, TX11, 9, tyX11, rfl, by decide, iw_X11, (show Cond.fieldLink RX11 66 (TX11 7).1 (TX11 7).2.1 (TX11 7).2.2.1 ∈ m_tbl from (m_tm (List.mem_of_getElem? (i := 333) (by decide +kernel)) rfl)), rfl, by decide +kernel, tyX11_ok, nmX11, rfl⟩
theorem ff_X11_74 : m_FF RX11 74 10 8 (.object "EdgeIdeals$Snapshot") := ⟨RX11, TX11, 9, tyX11, rfl, by decide, iw_X11, (show Cond.fieldLink RX11 74 (TX11 8).1 (TX11 8).2.1 (TX11 8).2.2.1 ∈ m_tbl from (m_tm (List.mem_of_getElem? (i := 334) (by decide +kernel)) rfl)), rfl, by decide +kernel, tyX11_ok, nmX11, rfl⟩
theorem ff_X12_15 : m_FF RX12 15 11 1 (.array .int) := ⟨RX12, TX12, 31, tyX12, rfl, by decide, iw_X12, (show Cond.fieldLink RX12 15 (TX12 1).1 (TX12 1).2.1 (TX12 1).2.2.1 ∈ m_tbl from (m_tm (List.mem_of_getElem? (i := 1109) (by decide +kernel)) rfl)), rfl, by decide +kernel, tyX12_ok, nmX12, rfl⟩
theorem ff_X12_19 : m_FF RX12 19 11 2 (.array .int) := ⟨RX12, TX12, 31, tyX12, rfl, by decide, iw_X12, (show Cond.fieldLink RX12 19 (TX12 2).1 (TX12 2).2.1 (TX12 2).2.2.1 ∈ m_tbl from (m_tm (List.mem_of_getElem? (i := 1110) (by decide +kernel)) rfl)), rfl, by decide +kernel, tyX12_ok, nmX12, rfl⟩
theorem ff_X12_22 : m_FF RX12 22 11 4 (.array .int) := ⟨RX12, TX12, 31, tyX12, rfl, by decide, iw_X12, (show Cond.fieldLink RX12 22 (TX12 4).1 (TX12 4).2.1 (TX12 4).2.2.1 ∈ m_tbl from (m_tm (List.mem_of_getElem? (i := 1112) (by decide +kernel)) rfl)), rfl, by decide +kernel, tyX12_ok, nmX12, rfl⟩
theorem ff_X12_29 : m_FF RX12 29 11 6 (.array .int) := ⟨RX12, TX12, 31, tyX12, rfl, by decide, iw_X12, (show Cond.fieldLink RX12 29 (TX12 6).1 (TX12 6).2.1 (TX12 6).2.2.1 ∈ m_tbl from (m_tm (List.mem_of_getElem? (i := 1114) (by decide +kernel)) rfl)), rfl, by decide +kernel, tyX12_ok, nmX12, rfl⟩
theorem ff_X12_32 : m_FF RX12 32 11 8 (.array .int) := ⟨RX12, TX12, 31, tyX12, rfl, by decide, iw_X12, (show Cond.fieldLink RX12 32 (TX12 8).1 (TX12 8).2.1 (TX12 8).2.2.1 ∈ m_tbl from (m_tm (List.mem_of_getElem? (i := 1116) (by decide +kernel)) rfl)), rfl, by decide +kernel, tyX12_ok, nmX12, rfl⟩
theorem ff_X12_35 : m_FF RX12 35 11 9 (.array .int) := ⟨RX12, TX12, 31, tyX12, rfl, by decide, iw_X12, (show Cond.fieldLink RX12 35 (TX12 9).1 (TX12 9).2.1 (TX12 9).2.2.1 ∈ m_tbl from (m_tm (List.mem_of_getElem? (i := 1117) (by decide +kernel)) rfl)), rfl, by decide +kernel, tyX12_ok, nmX12, rfl⟩
theorem ff_X12_38 : m_FF RX12 38 11 10 (.array .int) := ⟨RX12, TX12, 31, tyX12, rfl, by decide, iw_X12, (show Cond.fieldLink RX12 38 (TX12 10).1 (TX12 10).2.1 (TX12 10).2.2.1 ∈ m_tbl from (m_tm (List.mem_of_getElem? (i := 1118) (by decide +kernel)) rfl)), rfl, by decide +kernel, tyX12_ok, nmX12, rfl⟩
theorem ff_X12_41 : m_FF RX12 41 11 12 (.array .int) := ⟨RX12, TX12, 31, tyX12, rfl, by decide, iw_X12, (show Cond.fieldLink RX12 41 (TX12 12).1 (TX12 12).2.1 (TX12 12).2.2.1 ∈ m_tbl from (m_tm (List.mem_of_getElem? (i := 1120) (by decide +kernel)) rfl)), rfl, by decide +kernel, tyX12_ok, nmX12, rfl⟩
theorem ff_X12_44 : m_FF RX12 44 11 14 (.array .int) := ⟨RX12, TX12, 31, tyX12, rfl, by decide, iw_X12, (show Cond.fieldLink RX12 44 (TX12 14).1 (TX12 14).2.1 (TX12 14).2.2.1 ∈ m_tbl from (m_tm (List.mem_of_getElem? (i := 1122) (by decide +kernel)) rfl)), rfl, by decide +kernel, tyX12_ok, nmX12, rfl⟩
theorem ff_X12_47 : m_FF RX12 47 11 15 (.array .int) := ⟨RX12, TX12, 31, tyX12, rfl, by decide, iw_X12, (show Cond.fieldLink RX12 47 (TX12 15).1 (TX12 15).2.1 (TX12 15).2.2.1 ∈ m_tbl from (m_tm (List.mem_of_getElem? (i := 1123) (by decide +kernel)) rfl)), rfl, by decide +kernel, tyX12_ok, nmX12, rfl⟩
theorem ff_X12_50 : m_FF RX12 50 11 17 (.array .int) := ⟨RX12, TX12, 31, tyX12, rfl, by decide, iw_X12, (show Cond.fieldLink RX12 50 (TX12 17).1 (TX12 17).2.1 (TX12 17).2.2.1 ∈ m_tbl from (m_tm (List.mem_of_getElem? (i := 1125) (by decide +kernel)) rfl)), rfl, by decide +kernel, tyX12_ok, nmX12, rfl⟩
theorem ff_X12_53 : m_FF RX12 53 11 19 (.array .int) := ⟨RX12, TX12, 31, tyX12, rfl, by decide, iw_X12, (show Cond.fieldLink RX12 53 (TX12 19).1 (TX12 19).2.1 (TX12 19).2.2.1 ∈ m_tbl from (m_tm (List.mem_of_getElem? (i := 1127) (by decide +kernel)) rfl)), rfl, by decide +kernel, tyX12_ok, nmX12, rfl⟩
theorem ff_X12_56 : m_FF RX12 56 11 20 (.array .int) := ⟨RX12, TX12, 31, tyX12, rfl, by decide, iw_X12, (show Cond.fieldLink RX12 56 (TX12 20).1 (TX12 20).2.1 (TX12 20).2.2.1 ∈ m_tbl from (m_tm (List.mem_of_getElem? (i := 1128) (by decide +kernel)) rfl)), rfl, by decide +kernel, tyX12_ok, nmX12, rfl⟩
theorem ff_X12_59 : m_FF RX12 59 11 23 (.array .int) := ⟨RX12, TX12, 31, tyX12, rfl, by decide, iw_X12, (show Cond.fieldLink RX12 59 (TX12 23).1 (TX12 23).2.1 (TX12 23).2.2.1 ∈ m_tbl from (m_tm (List.mem_of_getElem? (i := 1131) (by decide +kernel)) rfl)), rfl, by decide +kernel, tyX12_ok, nmX12, rfl⟩
theorem ff_X12_62 : m_FF RX12 62 11 24 (.array .int) := ⟨RX12, TX12, 31, tyX12, rfl, by decide, iw_X12, (show Cond.fieldLink RX12 62 (TX12 24).1 (TX12 24).2.1 (TX12 24).2.2.1 ∈ m_tbl from (m_tm (List.mem_of_getElem? (i := 1132) (by decide +kernel)) rfl)), rfl, by decide +kernel, tyX12_ok, nmX12, rfl⟩
theorem ff_X12_65 : m_FF RX12 65 11 26 (.array .int) := ⟨RX12, TX12, 31, tyX12, rfl, by decide, iw_X12, (show Cond.fieldLink RX12 65 (TX12 26).1 (TX12 26).2.1 (TX12 26).2.2.1 ∈ m_tbl from (m_tm (List.mem_of_getElem? (i := 1134) (by decide +kernel)) rfl)), rfl, by decide +kernel, tyX12_ok, nmX12, rfl⟩
theorem ff_X12_68 : m_FF RX12 68 11 27 (.array .int) := ⟨RX12, TX12, 31, tyX12, rfl, by decide, iw_X12, (show Cond.fieldLink RX12 68 (TX12 27).1 (TX12 27).2.1 (TX12 27).2.2.1 ∈ m_tbl from (m_tm (List.mem_of_getElem? (i := 1135) (by decide +kernel)) rfl)), rfl, by decide +kernel, tyX12_ok, nmX12, rfl⟩
theorem ff_X12_73 : m_FF RX12 73 11 28 (.array (.array .int)) := ⟨RX12, TX12, 31, tyX12, rfl, by decide, iw_X12, (show Cond.fieldLink RX12 73 (TX12 28).1 (TX12 28).2.1 (TX12 28).2.2.1 ∈ m_tbl from (m_tm (List.mem_of_getElem? (i := 1136) (by decide +kernel)) rfl)), rfl, by decide +kernel, tyX12_ok, nmX12, rfl⟩
theorem ff_X12_76 : m_FF RX12 76 11 29 (.array .int) := ⟨RX12, TX12, 31, tyX12, rfl, by decide, iw_X12, (show Cond.fieldLink RX12 76 (TX12 29).1 (TX12 29).2.1 (TX12 29).2.2.1 ∈ m_tbl from (m_tm (List.mem_of_getElem? (i := 1137) (by decide +kernel)) rfl)), rfl, by decide +kernel, tyX12_ok, nmX12, rfl⟩
theorem ff_X2_9 : m_FF RX2 9 2 0 (.object "EdgeIdeals$Graph") := ⟨RX2, TX2, 10, tyX2, rfl, by decide, iw_X2, (show Cond.fieldLink RX2 9 (TX2 0).1 (TX2 0).2.1 (TX2 0).2.2.1 ∈ m_tbl from (m_tm (List.mem_of_getElem? (i := 136) (by decide +kernel)) rfl)), rfl, by decide +kernel, tyX2_ok, nmX2, rfl⟩
theorem ff_X2_17 : m_FF RX2 17 2 1 (.array .int) := ⟨RX2, TX2, 10, tyX2, rfl, by decide, iw_X2, (show Cond.fieldLink RX2 17 (TX2 1).1 (TX2 1).2.1 (TX2 1).2.2.1 ∈ m_tbl from (m_tm (List.mem_of_getElem? (i := 137) (by decide +kernel)) rfl)), rfl, by decide +kernel, tyX2_ok, nmX2, rfl⟩
theorem ff_X2_26 : m_FF RX2 26 2 3 (.object "EdgeIdeals$Row") := ⟨RX2, TX2, 10, tyX2, rfl, by decide, iw_X2, (show Cond.fieldLink RX2 26 (TX2 3).1 (TX2 3).2.1 (TX2 3).2.2.1 ∈ m_tbl from (m_tm (List.mem_of_getElem? (i := 139) (by decide +kernel)) rfl)), rfl, by decide +kernel, tyX2_ok, nmX2, rfl⟩
theorem ff_X2_30 : m_FF RX2 30 2 4 (.object "EdgeIdeals$Row") := ⟨RX2, TX2, 10, tyX2, rfl, by decide, iw_X2, (show Cond.fieldLink RX2 30 (TX2 4).1 (TX2 4).2.1 (TX2 4).2.2.1 ∈ m_tbl from (m_tm (List.mem_of_getElem? (i := 140) (by decide +kernel)) rfl)), rfl, by decide +kernel, tyX2_ok, nmX2, rfl⟩
theorem ff_X2_33 : m_FF RX2 33 2 6 (.array (.object "EdgeIdeals$Row")) := ⟨RX2, TX2, 10, tyX2, rfl, by decide, iw_X2, (show Cond.fieldLink RX2 33 (TX2 6).1 (TX2 6).2.1 (TX2 6).2.2.1 ∈ m_tbl from (m_tm (List.mem_of_getElem? (i := 142) (by decide +kernel)) rfl)), rfl, by decide +kernel, tyX2_ok, nmX2, rfl⟩
theorem ff_X2_37 : m_FF RX2 37 2 7 (.array .boolean) := ⟨RX2, TX2, 10, tyX2, rfl, by decide, iw_X2, (show Cond.fieldLink RX2 37 (TX2 7).1 (TX2 7).2.1 (TX2 7).2.2.1 ∈ m_tbl from (m_tm (List.mem_of_getElem? (i := 143) (by decide +kernel)) rfl)), rfl, by decide +kernel, tyX2_ok, nmX2, rfl⟩
theorem ff_X2_41 : m_FF RX2 41 2 8 (.array (.object "EdgeIdeals$Row")) := ⟨RX2, TX2, 10, tyX2, rfl, by decide, iw_X2, (show Cond.fieldLink RX2 41 (TX2 8).1 (TX2 8).2.1 (TX2 8).2.2.1 ∈ m_tbl from (m_tm (List.mem_of_getElem? (i := 144) (by decide +kernel)) rfl)), rfl, by decide +kernel, tyX2_ok, nmX2, rfl⟩
theorem ff_X2_44 : m_FF RX2 44 2 9 (.array .boolean) := ⟨RX2, TX2, 10, tyX2, rfl, by decide, iw_X2, (show Cond.fieldLink RX2 44 (TX2 9).1 (TX2 9).2.1 (TX2 9).2.2.1 ∈ m_tbl from (m_tm (List.mem_of_getElem? (i := 145) (by decide +kernel)) rfl)), rfl, by decide +kernel, tyX2_ok, nmX2, rfl⟩
theorem ff_X3_14 : m_FF RX3 14 3 0 (.object "EdgeIdeals$Row") := ⟨RX3, TX3, 5, tyX3, rfl, by decide, iw_X3, (show Cond.fieldLink RX3 14 (TX3 0).1 (TX3 0).2.1 (TX3 0).2.2.1 ∈ m_tbl from (m_tm (List.mem_of_getElem? (i := 264) (by decide +kernel)) rfl)), rfl, by decide +kernel, tyX3_ok, nmX3, rfl⟩
theorem ff_X3_20 : m_FF RX3 20 3 1 (.object "EdgeIdeals$Row") := ⟨RX3, TX3, 5, tyX3, rfl, by decide, iw_X3, (show Cond.fieldLink RX3 20 (TX3 1).1 (TX3 1).2.1 (TX3 1).2.2.1 ∈ m_tbl from (m_tm (List.mem_of_getElem? (i := 266) (by decide +kernel)) rfl)), rfl, by decide +kernel, tyX3_ok, nmX3, rfl⟩
theorem ff_X4_9 : m_FF RX4 9 4 0 (.object "EdgeIdeals$Graph") := ⟨RX4, TX4, 7, tyX4, rfl, by decide, iw_X4, (show Cond.fieldLink RX4 9 (TX4 0).1 (TX4 0).2.1 (TX4 0).2.2.1 ∈ m_tbl from (m_tm (List.mem_of_getElem? (i := 176) (by decide +kernel)) rfl)), rfl, by decide +kernel, tyX4_ok, nmX4, rfl⟩
theorem ff_X4_15 : m_FF RX4 15 4 1 (.object "EdgeIdeals$Ideal") := ⟨RX4, TX4, 7, tyX4, rfl, by decide, iw_X4, (show Cond.fieldLink RX4 15 (TX4 1).1 (TX4 1).2.1 (TX4 1).2.2.1 ∈ m_tbl from (m_tm (List.mem_of_getElem? (i := 177) (by decide +kernel)) rfl)), rfl, by decide +kernel, tyX4_ok, nmX4, rfl⟩
theorem ff_X4_19 : m_FF RX4 19 4 2 (.array .int) := ⟨RX4, TX4, 7, tyX4, rfl, by decide, iw_X4, (show Cond.fieldLink RX4 19 (TX4 2).1 (TX4 2).2.1 (TX4 2).2.2.1 ∈ m_tbl from (m_tm (List.mem_of_getElem? (i := 178) (by decide +kernel)) rfl)), rfl, by decide +kernel, tyX4_ok, nmX4, rfl⟩
theorem ff_X4_30 : m_FF RX4 30 4 3 (.object "EdgeIdeals$Row") := ⟨RX4, TX4, 7, tyX4, rfl, by decide, iw_X4, (show Cond.fieldLink RX4 30 (TX4 3).1 (TX4 3).2.1 (TX4 3).2.2.1 ∈ m_tbl from (m_tm (List.mem_of_getElem? (i := 179) (by decide +kernel)) rfl)), rfl, by decide +kernel, tyX4_ok, nmX4, rfl⟩
theorem ff_X4_34 : m_FF RX4 34 4 4 (.object "EdgeIdeals$Row") := ⟨RX4, TX4, 7, tyX4, rfl, by decide, iw_X4, (show Cond.fieldLink RX4 34 (TX4 4).1 (TX4 4).2.1 (TX4 4).2.2.1 ∈ m_tbl from (m_tm (List.mem_of_getElem? (i := 181) (by decide +kernel)) rfl)), rfl, by decide +kernel, tyX4_ok, nmX4, rfl⟩
theorem ff_X5_14 : m_FF RX5 14 5 0 (.object "EdgeIdeals$Row") := ⟨RX5, TX5, 3, tyX5, rfl, by decide, iw_X5, (show Cond.fieldLink RX5 14 (TX5 0).1 (TX5 0).2.1 (TX5 0).2.2.1 ∈ m_tbl from (m_tm (List.mem_of_getElem? (i := 245) (by decide +kernel)) rfl)), rfl, by decide +kernel, tyX5_ok, nmX5, rfl⟩
theorem ff_X5_20 : m_FF RX5 20 5 1 (.object "EdgeIdeals$Row") := ⟨RX5, TX5, 3, tyX5, rfl, by decide, iw_X5, (show Cond.fieldLink RX5 20 (TX5 1).1 (TX5 1).2.1 (TX5 1).2.2.1 ∈ m_tbl from (m_tm (List.mem_of_getElem? (i := 247) (by decide +kernel)) rfl)), rfl, by decide +kernel, tyX5_ok, nmX5, rfl⟩
theorem ff_X5_23 : m_FF RX5 23 5 2 (.object "EdgeIdeals$Row") := ⟨RX5, TX5, 3, tyX5, rfl, by decide, iw_X5, (show Cond.fieldLink RX5 23 (TX5 2).1 (TX5 2).2.1 (TX5 2).2.2.1 ∈ m_tbl from (m_tm (List.mem_of_getElem? (i := 248) (by decide +kernel)) rfl)), rfl, by decide +kernel, tyX5_ok, nmX5, rfl⟩
theorem ff_X7_15 : m_FF RX7 15 6 0 (.array .int) := ⟨RX7, TX7, 2, tyX7, rfl, by decide, iw_X7, (show Cond.fieldLink RX7 15 (TX7 0).1 (TX7 0).2.1 (TX7 0).2.2.1 ∈ m_tbl from (m_tm (List.mem_of_getElem? (i := 93) (by decide +kernel)) rfl)), rfl, by decide +kernel, tyX7_ok, nmX7, rfl⟩
theorem ff_X8_20 : m_FF RX8 20 7 1 (.object "EdgeIdeals$Row") := ⟨RX8, TX8, 2, tyX8, rfl, by decide, iw_X8, (show Cond.fieldLink RX8 20 (TX8 1).1 (TX8 1).2.1 (TX8 1).2.2.1 ∈ m_tbl from (m_tm (List.mem_of_getElem? (i := 293) (by decide +kernel)) rfl)), rfl, by decide +kernel, tyX8_ok, nmX8, rfl⟩
theorem ff_X9_20 : m_FF RX9 20 8 4 (.object "EdgeIdeals$Row") := ⟨RX9, TX9, 5, tyX9, rfl, by decide, iw_X9, (show Cond.fieldLink RX9 20 (TX9 4).1 (TX9 4).2.1 (TX9 4).2.2.1 ∈ m_tbl from (m_tm (List.mem_of_getElem? (i := 313) (by decide +kernel)) rfl)), rfl, by decide +kernel, tyX9_ok, nmX9, rfl⟩
theorem im_X0 : Cond.instanceMethod yX0_init ∈ m_tbl := (m_tm (List.mem_of_getElem? (i := 202) (by decide +kernel)) rfl)
theorem cd_X0 : Cond.code yX0_init cX0_init 1 none ∈ m_tbl := (m_tm (List.mem_of_getElem? (i := 203) rfl) rfl)
theorem im_X1 : Cond.instanceMethod yX1_init ∈ m_tbl := (m_tm (List.mem_of_getElem? (i := 81) (by decide +kernel)) rfl)
theorem cd_X1 : Cond.code yX1_init cX1_init 1 none ∈ m_tbl := (m_tm (List.mem_of_getElem? (i := 82) rfl) rfl)
theorem im_X2 : Cond.instanceMethod yX2_init ∈ m_tbl := (m_tm (List.mem_of_getElem? (i := 130) (by decide +kernel)) rfl)
theorem cd_X2 : Cond.code yX2_init cX2_init 3 none ∈ m_tbl := (m_tm (List.mem_of_getElem? (i := 131) rfl) rfl)
theorem im_X3 : Cond.instanceMethod yX3_init ∈ m_tbl := (m_tm (List.mem_of_getElem? (i := 259) (by decide +kernel)) rfl)
theorem cd_X3 : Cond.code yX3_init cX3_init 1 none ∈ m_tbl := (m_tm (List.mem_of_getElem? (i := 260) rfl) rfl)
theorem im_X4 : Cond.instanceMethod yX4_init ∈ m_tbl := (m_tm (List.mem_of_getElem? (i := 171) (by decide +kernel)) rfl)
theorem cd_X4 : Cond.code yX4_init cX4_init 3 none ∈ m_tbl := (m_tm (List.mem_of_getElem? (i := 172) rfl) rfl)
theorem im_X5 : Cond.instanceMethod yX5_init ∈ m_tbl := (m_tm (List.mem_of_getElem? (i := 240) (by decide +kernel)) rfl)
theorem cd_X5 : Cond.code yX5_init cX5_init 1 none ∈ m_tbl := (m_tm (List.mem_of_getElem? (i := 241) rfl) rfl)
theorem im_X7 : Cond.instanceMethod yX7_init ∈ m_tbl := (m_tm (List.mem_of_getElem? (i := 87) (by decide +kernel)) rfl)
theorem cd_X7 : Cond.code yX7_init cX7_init 2 none ∈ m_tbl := (m_tm (List.mem_of_getElem? (i := 88) rfl) rfl)
theorem im_X8 : Cond.instanceMethod yX8_init ∈ m_tbl := (m_tm (List.mem_of_getElem? (i := 286) (by decide +kernel)) rfl)
theorem cd_X8 : Cond.code yX8_init cX8_init 1 none ∈ m_tbl := (m_tm (List.mem_of_getElem? (i := 287) rfl) rfl)
theorem im_X9 : Cond.instanceMethod yX9_init ∈ m_tbl := (m_tm (List.mem_of_getElem? (i := 303) (by decide +kernel)) rfl)
theorem cd_X9 : Cond.code yX9_init cX9_init 1 none ∈ m_tbl := (m_tm (List.mem_of_getElem? (i := 304) rfl) rfl)
theorem im_X10 : Cond.instanceMethod yX10_init ∈ m_tbl := (m_tm (List.mem_of_getElem? (i := 217) (by decide +kernel)) rfl)
theorem cd_X10 : Cond.code yX10_init cX10_init 1 none ∈ m_tbl := (m_tm (List.mem_of_getElem? (i := 218) rfl) rfl)
theorem im_X11 : Cond.instanceMethod yX11_init ∈ m_tbl := (m_tm (List.mem_of_getElem? (i := 73) (by decide +kernel)) rfl)
theorem cd_X11 : Cond.code yX11_init cX11_init 2 none ∈ m_tbl := (m_tm (List.mem_of_getElem? (i := 74) rfl) rfl)
theorem im_X12 : Cond.instanceMethod yX12_init ∈ m_tbl := (m_tm (List.mem_of_getElem? (i := 1103) (by decide +kernel)) rfl)
set_option maxRecDepth 100000 in
theorem cd_X12 : Cond.code yX12_init cX12_init 1 none ∈ m_tbl := (m_tm (List.mem_of_getElem? (i := 1104) rfl) rfl)
theorem up3 (a b c : Nat) : va_up (va_up (va_up (fun _ => none) (nI 0).toNatClampNeg (some a)) (nI 1).toNatClampNeg (some b)) (nI 2).toNatClampNeg (some c) = (fun j => ([a, b, c] : List Nat)[j]?) := by
  funext j
  rw [nI_clamp (show 0 < 2 ^ 31 by decide), nI_clamp (show 1 < 2 ^ 31 by decide), nI_clamp (show 2 < 2 ^ 31 by decide)]
  unfold va_up
  match j with
  | 0 => rfl
  | 1 => rfl
  | 2 => rfl
  | j + 3 => simp
theorem up4 (a b c d : Nat) : va_up (va_up (va_up (va_up (fun _ => none) (nI 0).toNatClampNeg (some a)) (nI 1).toNatClampNeg (some b)) (nI 2).toNatClampNeg (some c)) (nI 3).toNatClampNeg (some d) = (fun j => ([a, b, c, d] : List Nat)[j]?) := by
  funext j
  rw [nI_clamp (show 0 < 2 ^ 31 by decide), nI_clamp (show 1 < 2 ^ 31 by decide), nI_clamp (show 2 < 2 ^ 31 by decide), nI_clamp (show 3 < 2 ^ 31 by decide)]
  unfold va_up
  match j with
  | 0 => rfl
  | 1 => rfl
  | 2 => rfl
  | 3 => rfl
  | j + 4 => simp
end CFACTS
