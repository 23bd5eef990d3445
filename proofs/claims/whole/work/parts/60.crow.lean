/-! Constructors: links (the rows stand in 23a). -/
theorem oi_i : Cond.instanceMethod Lib.objectInit ∈ gW := gW_in (gT1 (List.mem_of_getElem? (i := 33) (by decide +kernel))) (by decide +kernel)
theorem oi_c : Cond.code Lib.objectInit ⟨#[0xb1]⟩ 1 none ∈ gW := gW_in (gT1 (List.mem_of_getElem? (i := 34) (by decide +kernel))) (by decide +kernel)
theorem ar_int : Cond.arrayClass .int ∈ gW := gW_in (gT1 (List.mem_of_getElem? (i := 190) (by decide +kernel))) (by decide +kernel)
theorem ar_long : Cond.arrayClass .long ∈ gW := gW_in (gT7 (List.mem_of_getElem? (i := 173) (by decide +kernel))) (by decide +kernel)
theorem ar_byte : Cond.arrayClass .byte ∈ gW := gW_in (gT1 (List.mem_of_getElem? (i := 57) (by decide +kernel))) (by decide +kernel)
theorem oi_X11_1 : Cond.methodLink RX11 1 Lib.objectInit ∈ gW := gW_in (gT1 (List.mem_of_getElem? (i := 32) (by decide +kernel))) (by decide +kernel)
theorem mi_X11_11 : xMI RX11 11 yX1_init cX1_init 2 1 := ⟨gW_in (gT1 (List.mem_of_getElem? (i := 37) (by decide +kernel))) (by decide +kernel), gW_in (gT1 (List.mem_of_getElem? (i := 38) (by decide +kernel))) (by decide +kernel), gW_in (gT1 (List.mem_of_getElem? (i := 2) (by decide +kernel))) (by decide +kernel), gW_in (gT1 (List.mem_of_getElem? (i := 39) (by decide +kernel))) (by decide +kernel), rfl, by decide, by decide, by decide +kernel⟩
theorem mi_X11_23 : xMI RX11 23 yX5_init cX5_init 2 0 := ⟨gW_in (gT1 (List.mem_of_getElem? (i := 60) (by decide +kernel))) (by decide +kernel), gW_in (gT1 (List.mem_of_getElem? (i := 61) (by decide +kernel))) (by decide +kernel), gW_in (gT1 (List.mem_of_getElem? (i := 4) (by decide +kernel))) (by decide +kernel), gW_in (gT1 (List.mem_of_getElem? (i := 62) (by decide +kernel))) (by decide +kernel), rfl, by decide, by decide, by decide +kernel⟩
theorem mi_X11_33 : xMI RX11 33 yX7_init cX7_init 3 2 := ⟨gW_in (gT2 (List.mem_of_getElem? (i := 119) (by decide +kernel))) (by decide +kernel), gW_in (gT2 (List.mem_of_getElem? (i := 120) (by decide +kernel))) (by decide +kernel), gW_in (gT1 (List.mem_of_getElem? (i := 10) (by decide +kernel))) (by decide +kernel), gW_in (gT2 (List.mem_of_getElem? (i := 121) (by decide +kernel))) (by decide +kernel), rfl, by decide, by decide, by decide +kernel⟩
theorem mi_X11_42 : xMI RX11 42 yX3_init cX3_init 2 0 := ⟨gW_in (gT2 (List.mem_of_getElem? (i := 161) (by decide +kernel))) (by decide +kernel), gW_in (gT2 (List.mem_of_getElem? (i := 162) (by decide +kernel))) (by decide +kernel), gW_in (gT1 (List.mem_of_getElem? (i := 11) (by decide +kernel))) (by decide +kernel), gW_in (gT2 (List.mem_of_getElem? (i := 163) (by decide +kernel))) (by decide +kernel), rfl, by decide, by decide, by decide +kernel⟩
theorem mi_X11_49 : xMI RX11 49 yX0_init cX0_init 2 1 := ⟨gW_in (gT2 (List.mem_of_getElem? (i := 181) (by decide +kernel))) (by decide +kernel), gW_in (gT2 (List.mem_of_getElem? (i := 182) (by decide +kernel))) (by decide +kernel), gW_in (gT1 (List.mem_of_getElem? (i := 12) (by decide +kernel))) (by decide +kernel), gW_in (gT2 (List.mem_of_getElem? (i := 183) (by decide +kernel))) (by decide +kernel), rfl, by decide, by decide, by decide +kernel⟩
theorem mi_X11_58 : xMI RX11 58 yX8_init cX8_init 4 3 := ⟨gW_in (gT2 (List.mem_of_getElem? (i := 191) (by decide +kernel))) (by decide +kernel), gW_in (gT2 (List.mem_of_getElem? (i := 192) (by decide +kernel))) (by decide +kernel), gW_in (gT1 (List.mem_of_getElem? (i := 13) (by decide +kernel))) (by decide +kernel), gW_in (gT2 (List.mem_of_getElem? (i := 193) (by decide +kernel))) (by decide +kernel), rfl, by decide, by decide, by decide +kernel⟩
theorem oi_X0_3 : Cond.methodLink RX0 3 Lib.objectInit ∈ gW := gW_in (gT2 (List.mem_of_getElem? (i := 184) (by decide +kernel))) (by decide +kernel)
theorem oi_X1_1 : Cond.methodLink RX1 1 Lib.objectInit ∈ gW := gW_in (gT1 (List.mem_of_getElem? (i := 40) (by decide +kernel))) (by decide +kernel)
theorem oi_X2_3 : Cond.methodLink RX2 3 Lib.objectInit ∈ gW := gW_in (gT1 (List.mem_of_getElem? (i := 103) (by decide +kernel))) (by decide +kernel)
theorem oi_X3_3 : Cond.methodLink RX3 3 Lib.objectInit ∈ gW := gW_in (gT2 (List.mem_of_getElem? (i := 164) (by decide +kernel))) (by decide +kernel)
theorem mi_X3_17 : xMI RX3 17 yX5_init cX5_init 2 0 := ⟨gW_in (gT2 (List.mem_of_getElem? (i := 167) (by decide +kernel))) (by decide +kernel), gW_in (gT1 (List.mem_of_getElem? (i := 61) (by decide +kernel))) (by decide +kernel), gW_in (gT1 (List.mem_of_getElem? (i := 4) (by decide +kernel))) (by decide +kernel), gW_in (gT1 (List.mem_of_getElem? (i := 62) (by decide +kernel))) (by decide +kernel), rfl, by decide, by decide, by decide +kernel⟩
theorem oi_X4_3 : Cond.methodLink RX4 3 Lib.objectInit ∈ gW := gW_in (gT1 (List.mem_of_getElem? (i := 148) (by decide +kernel))) (by decide +kernel)
theorem oi_X5_3 : Cond.methodLink RX5 3 Lib.objectInit ∈ gW := gW_in (gT1 (List.mem_of_getElem? (i := 63) (by decide +kernel))) (by decide +kernel)
theorem mi_X5_41 : xMJ RX5 41 yX9_init "PortDues" cX9_init 1 0 := ⟨List.mem_of_getElem? (i := 3) (by decide +kernel), gW_in (gT1 (List.mem_of_getElem? (i := 76) (by decide +kernel))) (by decide +kernel), gW_in (gT1 (List.mem_of_getElem? (i := 5) (by decide +kernel))) (by decide +kernel), gW_in (gT1 (List.mem_of_getElem? (i := 77) (by decide +kernel))) (by decide +kernel), rfl, by decide, by decide, by decide +kernel⟩
theorem mi_X5_42 : xMJ RX5 42 yX2_init "PortDues" cX2_init 1 0 := ⟨List.mem_of_getElem? (i := 4) (by decide +kernel), gW_in (gT1 (List.mem_of_getElem? (i := 101) (by decide +kernel))) (by decide +kernel), gW_in (gT1 (List.mem_of_getElem? (i := 6) (by decide +kernel))) (by decide +kernel), gW_in (gT1 (List.mem_of_getElem? (i := 102) (by decide +kernel))) (by decide +kernel), rfl, by decide, by decide, by decide +kernel⟩
theorem mi_X5_43 : xMJ RX5 43 yX4_init "PortDues" cX4_init 1 0 := ⟨List.mem_of_getElem? (i := 5) (by decide +kernel), gW_in (gT1 (List.mem_of_getElem? (i := 146) (by decide +kernel))) (by decide +kernel), gW_in (gT1 (List.mem_of_getElem? (i := 7) (by decide +kernel))) (by decide +kernel), gW_in (gT1 (List.mem_of_getElem? (i := 147) (by decide +kernel))) (by decide +kernel), rfl, by decide, by decide, by decide +kernel⟩
theorem mi_X5_44 : xMJ RX5 44 yX6_init "PortDues" cX6_init 1 0 := ⟨List.mem_of_getElem? (i := 6) (by decide +kernel), gW_in (gT1 (List.mem_of_getElem? (i := 193) (by decide +kernel))) (by decide +kernel), gW_in (gT1 (List.mem_of_getElem? (i := 8) (by decide +kernel))) (by decide +kernel), gW_in (gT1 (List.mem_of_getElem? (i := 194) (by decide +kernel))) (by decide +kernel), rfl, by decide, by decide, by decide +kernel⟩
theorem mi_X5_45 : xMJ RX5 45 yX10_init "PortDues" cX10_init 1 0 := ⟨List.mem_of_getElem? (i := 7) (by decide +kernel), gW_in (gT1 (List.mem_of_getElem? (i := 219) (by decide +kernel))) (by decide +kernel), gW_in (gT1 (List.mem_of_getElem? (i := 9) (by decide +kernel))) (by decide +kernel), gW_in (gT1 (List.mem_of_getElem? (i := 220) (by decide +kernel))) (by decide +kernel), rfl, by decide, by decide, by decide +kernel⟩
theorem oi_X6_1 : Cond.methodLink RX6 1 Lib.objectInit ∈ gW := gW_in (gT1 (List.mem_of_getElem? (i := 195) (by decide +kernel))) (by decide +kernel)
theorem oi_X7_3 : Cond.methodLink RX7 3 Lib.objectInit ∈ gW := gW_in (gT2 (List.mem_of_getElem? (i := 122) (by decide +kernel))) (by decide +kernel)
theorem oi_X8_3 : Cond.methodLink RX8 3 Lib.objectInit ∈ gW := gW_in (gT2 (List.mem_of_getElem? (i := 194) (by decide +kernel))) (by decide +kernel)
theorem oi_X9_3 : Cond.methodLink RX9 3 Lib.objectInit ∈ gW := gW_in (gT1 (List.mem_of_getElem? (i := 78) (by decide +kernel))) (by decide +kernel)
theorem oi_X10_3 : Cond.methodLink RX10 3 Lib.objectInit ∈ gW := gW_in (gT1 (List.mem_of_getElem? (i := 221) (by decide +kernel))) (by decide +kernel)
theorem mi_L_199 : xMI RL 199 yX11_init cX11_init 1 0 := ⟨gW_in (gT1 (List.mem_of_getElem? (i := 29) (by decide +kernel))) (by decide +kernel), gW_in (gT1 (List.mem_of_getElem? (i := 30) (by decide +kernel))) (by decide +kernel), gW_in (gT1 (List.mem_of_getElem? (i := 1) (by decide +kernel))) (by decide +kernel), gW_in (gT1 (List.mem_of_getElem? (i := 31) (by decide +kernel))) (by decide +kernel), rfl, by decide, by decide, by decide +kernel⟩
theorem mi_L_202 : xMI RL 202 yX12_init cX12_init 1 0 := ⟨gW_in (gT7 (List.mem_of_getElem? (i := 102) (by decide +kernel))) (by decide +kernel), gW_in (gT7 (List.mem_of_getElem? (i := 103) (by decide +kernel))) (by decide +kernel), gW_in (gT1 (List.mem_of_getElem? (i := 14) (by decide +kernel))) (by decide +kernel), gW_in (gT7 (List.mem_of_getElem? (i := 104) (by decide +kernel))) (by decide +kernel), rfl, by decide, by decide, by decide +kernel⟩
theorem oi_X12_11 : Cond.methodLink RX12 11 Lib.objectInit ∈ gW := gW_in (gT7 (List.mem_of_getElem? (i := 105) (by decide +kernel))) (by decide +kernel)
theorem kl_X11_7 : Cond.classLink RX11 7 RX1 ∈ gW := gW_in (gT1 (List.mem_of_getElem? (i := 35) (by decide +kernel))) (by decide +kernel)
theorem kl_X11_21 : Cond.classLink RX11 21 RX5 ∈ gW := gW_in (gT1 (List.mem_of_getElem? (i := 58) (by decide +kernel))) (by decide +kernel)
theorem kl_X11_31 : Cond.classLink RX11 31 RX7 ∈ gW := gW_in (gT2 (List.mem_of_getElem? (i := 117) (by decide +kernel))) (by decide +kernel)
theorem kl_X11_40 : Cond.classLink RX11 40 RX3 ∈ gW := gW_in (gT2 (List.mem_of_getElem? (i := 159) (by decide +kernel))) (by decide +kernel)
theorem kl_X11_47 : Cond.classLink RX11 47 RX0 ∈ gW := gW_in (gT2 (List.mem_of_getElem? (i := 179) (by decide +kernel))) (by decide +kernel)
theorem kl_X11_56 : Cond.classLink RX11 56 RX8 ∈ gW := gW_in (gT2 (List.mem_of_getElem? (i := 189) (by decide +kernel))) (by decide +kernel)
theorem kl_X3_9 : Cond.classLink RX3 9 RX5 ∈ gW := gW_in (gT2 (List.mem_of_getElem? (i := 165) (by decide +kernel))) (by decide +kernel)
theorem kl_X5_9 : Cond.classLink RX5 9 RX9 ∈ gW := gW_in (gT1 (List.mem_of_getElem? (i := 64) (by decide +kernel))) (by decide +kernel)
theorem kl_X5_17 : Cond.classLink RX5 17 RX2 ∈ gW := gW_in (gT1 (List.mem_of_getElem? (i := 66) (by decide +kernel))) (by decide +kernel)
theorem kl_X5_23 : Cond.classLink RX5 23 RX4 ∈ gW := gW_in (gT1 (List.mem_of_getElem? (i := 68) (by decide +kernel))) (by decide +kernel)
theorem kl_X5_29 : Cond.classLink RX5 29 RX6 ∈ gW := gW_in (gT1 (List.mem_of_getElem? (i := 70) (by decide +kernel))) (by decide +kernel)
theorem kl_X5_35 : Cond.classLink RX5 35 RX10 ∈ gW := gW_in (gT1 (List.mem_of_getElem? (i := 72) (by decide +kernel))) (by decide +kernel)
theorem kl_L_8 : Cond.classLink RL 8 RX11 ∈ gW := gW_in (gT1 (List.mem_of_getElem? (i := 27) (by decide +kernel))) (by decide +kernel)
theorem kl_L_200 : Cond.classLink RL 200 RX12 ∈ gW := gW_in (gT7 (List.mem_of_getElem? (i := 100) (by decide +kernel))) (by decide +kernel)
theorem in_0 : Cond.instantiable RX0 1 ∈ gW := gW_in (gT2 (List.mem_of_getElem? (i := 180) (by decide +kernel))) (by decide +kernel)
theorem ii_0 : Cond.initialized RX0 ∈ gW := gW_in (gT1 (List.mem_of_getElem? (i := 12) (by decide +kernel))) (by decide +kernel)
theorem in_1 : Cond.instantiable RX1 3 ∈ gW := gW_in (gT1 (List.mem_of_getElem? (i := 36) (by decide +kernel))) (by decide +kernel)
theorem ii_1 : Cond.initialized RX1 ∈ gW := gW_in (gT1 (List.mem_of_getElem? (i := 2) (by decide +kernel))) (by decide +kernel)
theorem in_2 : Cond.instantiable RX2 7 ∈ gW := gW_in (gT1 (List.mem_of_getElem? (i := 99) (by decide +kernel))) (by decide +kernel)
theorem ii_2 : Cond.initialized RX2 ∈ gW := gW_in (gT1 (List.mem_of_getElem? (i := 6) (by decide +kernel))) (by decide +kernel)
theorem in_3 : Cond.instantiable RX3 3 ∈ gW := gW_in (gT2 (List.mem_of_getElem? (i := 160) (by decide +kernel))) (by decide +kernel)
theorem ii_3 : Cond.initialized RX3 ∈ gW := gW_in (gT1 (List.mem_of_getElem? (i := 11) (by decide +kernel))) (by decide +kernel)
theorem in_4 : Cond.instantiable RX4 7 ∈ gW := gW_in (gT1 (List.mem_of_getElem? (i := 144) (by decide +kernel))) (by decide +kernel)
theorem ii_4 : Cond.initialized RX4 ∈ gW := gW_in (gT1 (List.mem_of_getElem? (i := 7) (by decide +kernel))) (by decide +kernel)
theorem in_5 : Cond.instantiable RX5 11 ∈ gW := gW_in (gT1 (List.mem_of_getElem? (i := 59) (by decide +kernel))) (by decide +kernel)
theorem ii_5 : Cond.initialized RX5 ∈ gW := gW_in (gT1 (List.mem_of_getElem? (i := 4) (by decide +kernel))) (by decide +kernel)
theorem in_6 : Cond.instantiable RX6 4 ∈ gW := gW_in (gT1 (List.mem_of_getElem? (i := 191) (by decide +kernel))) (by decide +kernel)
theorem ii_6 : Cond.initialized RX6 ∈ gW := gW_in (gT1 (List.mem_of_getElem? (i := 8) (by decide +kernel))) (by decide +kernel)
theorem in_7 : Cond.instantiable RX7 11 ∈ gW := gW_in (gT2 (List.mem_of_getElem? (i := 118) (by decide +kernel))) (by decide +kernel)
theorem ii_7 : Cond.initialized RX7 ∈ gW := gW_in (gT1 (List.mem_of_getElem? (i := 10) (by decide +kernel))) (by decide +kernel)
theorem in_8 : Cond.instantiable RX8 3 ∈ gW := gW_in (gT2 (List.mem_of_getElem? (i := 190) (by decide +kernel))) (by decide +kernel)
theorem ii_8 : Cond.initialized RX8 ∈ gW := gW_in (gT1 (List.mem_of_getElem? (i := 13) (by decide +kernel))) (by decide +kernel)
theorem in_9 : Cond.instantiable RX9 4 ∈ gW := gW_in (gT1 (List.mem_of_getElem? (i := 74) (by decide +kernel))) (by decide +kernel)
theorem ii_9 : Cond.initialized RX9 ∈ gW := gW_in (gT1 (List.mem_of_getElem? (i := 5) (by decide +kernel))) (by decide +kernel)
theorem in_10 : Cond.instantiable RX10 12 ∈ gW := gW_in (gT1 (List.mem_of_getElem? (i := 217) (by decide +kernel))) (by decide +kernel)
theorem ii_10 : Cond.initialized RX10 ∈ gW := gW_in (gT1 (List.mem_of_getElem? (i := 9) (by decide +kernel))) (by decide +kernel)
theorem in_11 : Cond.instantiable RX11 8 ∈ gW := gW_in (gT1 (List.mem_of_getElem? (i := 28) (by decide +kernel))) (by decide +kernel)
theorem ii_11 : Cond.initialized RX11 ∈ gW := gW_in (gT1 (List.mem_of_getElem? (i := 1) (by decide +kernel))) (by decide +kernel)
theorem in_12 : Cond.instantiable RX12 22 ∈ gW := gW_in (gT7 (List.mem_of_getElem? (i := 101) (by decide +kernel))) (by decide +kernel)
theorem ii_12 : Cond.initialized RX12 ∈ gW := gW_in (gT1 (List.mem_of_getElem? (i := 14) (by decide +kernel))) (by decide +kernel)
