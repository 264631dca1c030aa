theorem nz_L : Cond.initialized RL ∈ zTBL := tb1 (j := 0) (by decide +kernel) rfl
theorem nz_X5 : Cond.initialized RX5 ∈ zTBL := tb1 (j := 1) (by decide +kernel) rfl
theorem nz_X2 : Cond.initialized RX2 ∈ zTBL := tb1 (j := 2) (by decide +kernel) rfl
theorem nz_X1 : Cond.initialized RX1 ∈ zTBL := tb1 (j := 3) (by decide +kernel) rfl
theorem nz_X0 : Cond.initialized RX0 ∈ zTBL := tb1 (j := 4) (by decide +kernel) rfl
theorem nz_X4 : Cond.initialized RX4 ∈ zTBL := tb1 (j := 5) (by decide +kernel) rfl
theorem nz_X3 : Cond.initialized RX3 ∈ zTBL := tb1 (j := 6) (by decide +kernel) rfl
theorem nz_X12 : Cond.initialized RX12 ∈ zTBL := tb1 (j := 7) (by decide +kernel) rfl
theorem nz_Jxa1e45 : Cond.initialized RJxa1e45 ∈ zTBL := tb1 (j := 8) (by decide +kernel) rfl
theorem nz_Jxc12de : Cond.initialized RJxc12de ∈ zTBL := tb1 (j := 9) (by decide +kernel) rfl
theorem nz_Jx4a65c : Cond.initialized RJx4a65c ∈ zTBL := tb1 (j := 10) (by decide +kernel) rfl
theorem nz_X6 : Cond.initialized RX6 ∈ zTBL := tb1 (j := 11) (by decide +kernel) rfl
theorem nz_X8 : Cond.initialized RX8 ∈ zTBL := tb1 (j := 17) (by decide +kernel) rfl
theorem nz_J8 : Cond.initialized RJ8 ∈ zTBL := tb1 (j := 18) (by decide +kernel) rfl
theorem nz_J9 : Cond.initialized RJ9 ∈ zTBL := tb1 (j := 19) (by decide +kernel) rfl
theorem nz_J7 : Cond.initialized RJ7 ∈ zTBL := tb1 (j := 20) (by decide +kernel) rfl
theorem nz_J10 : Cond.initialized RJ10 ∈ zTBL := tb1 (j := 21) (by decide +kernel) rfl
theorem nz_X9 : Cond.initialized RX9 ∈ zTBL := tb1 (j := 22) (by decide +kernel) rfl
theorem nz_X10 : Cond.initialized RX10 ∈ zTBL := tb1 (j := 23) (by decide +kernel) rfl
theorem nz_J15 : Cond.initialized RJ15 ∈ zTBL := tb1 (j := 25) (by decide +kernel) rfl
theorem nz_J3 : Cond.initialized RJ3 ∈ zTBL := tb1 (j := 26) (by decide +kernel) rfl
theorem nz_Jxd2413 : Cond.initialized RJxd2413 ∈ zTBL := tb1 (j := 27) (by decide +kernel) rfl
theorem nz_J6 : Cond.initialized RJ6 ∈ zTBL := tb1 (j := 28) (by decide +kernel) rfl
theorem nz_Jx35411 : Cond.initialized RJx35411 ∈ zTBL := tb1 (j := 29) (by decide +kernel) rfl
theorem nz_X7 : Cond.initialized RX7 ∈ zTBL := tb1 (j := 30) (by decide +kernel) rfl
theorem nz_X11 : Cond.initialized RX11 ∈ zTBL := tb1 (j := 31) (by decide +kernel) rfl
theorem nz_J5 : Cond.initialized RJ5 ∈ zTBL := tb1 (j := 32) (by decide +kernel) rfl
theorem nz_J4 : Cond.initialized RJ4 ∈ zTBL := tb1 (j := 33) (by decide +kernel) rfl
theorem nz_J0 : Cond.initialized RJ0 ∈ zTBL := tb1 (j := 34) (by decide +kernel) rfl
theorem nz_J2 : Cond.initialized RJ2 ∈ zTBL := tb1 (j := 35) (by decide +kernel) rfl
theorem nz_J1 : Cond.initialized RJ1 ∈ zTBL := tb1 (j := 36) (by decide +kernel) rfl
theorem cl_L_8 : Cond.classLink RL 8 RX5 ∈ zTBL := tb1 (j := 37) (by decide +kernel) rfl
theorem mk_X5 : Cond.instantiable RX5 9 ∈ zTBL := tb1 (j := 38) (by decide +kernel) rfl
theorem cl_X5_7 : Cond.classLink RX5 7 RX2 ∈ zTBL := tb1 (j := 45) (by decide +kernel) rfl
theorem mk_X2 : Cond.instantiable RX2 7 ∈ zTBL := tb1 (j := 46) (by decide +kernel) rfl
theorem ay_int : Cond.arrayClass .int ∈ zTBL := tb1 (j := 83) (by decide +kernel) rfl
theorem cl_X5_16 : Cond.classLink RX5 16 RX1 ∈ zTBL := tb1 (j := 84) (by decide +kernel) rfl
theorem mk_X1 : Cond.instantiable RX1 6 ∈ zTBL := tb1 (j := 85) (by decide +kernel) rfl
theorem cl_X5_23 : Cond.classLink RX5 23 RX0 ∈ zTBL := tb1 (j := 115) (by decide +kernel) rfl
theorem mk_X0 : Cond.instantiable RX0 9 ∈ zTBL := tb1 (j := 116) (by decide +kernel) rfl
theorem cl_X5_30 : Cond.classLink RX5 30 RX4 ∈ zTBL := tb1 (j := 152) (by decide +kernel) rfl
theorem mk_X4 : Cond.instantiable RX4 7 ∈ zTBL := tb1 (j := 153) (by decide +kernel) rfl
theorem cl_X5_37 : Cond.classLink RX5 37 RX3 ∈ zTBL := tb1 (j := 185) (by decide +kernel) rfl
theorem mk_X3 : Cond.instantiable RX3 6 ∈ zTBL := tb1 (j := 186) (by decide +kernel) rfl
theorem ac_X0_68 : Cond.methodLink RX0 68 arraycopyName ∈ zTBL := tb2 (j := 79) (by decide +kernel) rfl
theorem cl_X5_231 : Cond.classLink RX5 231 RJ4 ∈ zTBL := tb2 (j := 87) (by decide +kernel) rfl
theorem mk_J4 : Cond.instantiable RJ4 4 ∈ zTBL := tb2 (j := 88) (by decide +kernel) rfl
theorem ay_byte : Cond.arrayClass .byte ∈ zTBL := tb2 (j := 118) (by decide +kernel) rfl
theorem ac_J7_150 : Cond.methodLink RJ7 150 arraycopyName ∈ zTBL := tb2 (j := 162) (by decide +kernel) rfl
theorem cl_J4_18 : Cond.classLink RJ4 18 RJ0 ∈ zTBL := tb2 (j := 220) (by decide +kernel) rfl
theorem mk_J0 : Cond.instantiable RJ0 4 ∈ zTBL := tb2 (j := 221) (by decide +kernel) rfl
theorem cl_J7_45 : Cond.classLink RJ7 45 RJ4 ∈ zTBL := tb3 (j := 53) (by decide +kernel) rfl
theorem ac_J0_212 : Cond.methodLink RJ0 212 arraycopyName ∈ zTBL := tb3 (j := 126) (by decide +kernel) rfl
theorem cl_L_14 : Cond.classLink RL 14 RX6 ∈ zTBL := tb4 (j := 113) (by decide +kernel) rfl
theorem mk_X6 : Cond.instantiable RX6 1 ∈ zTBL := tb4 (j := 114) (by decide +kernel) rfl
theorem cl_L_86 : Cond.classLink RL 86 RX12 ∈ zTBL := tb5 (j := 59) (by decide +kernel) rfl
theorem mk_X12 : Cond.instantiable RX12 20 ∈ zTBL := tb5 (j := 60) (by decide +kernel) rfl
theorem cl_X12_7 : Cond.classLink RX12 7 RJx4a65c ∈ zTBL := tb5 (j := 65) (by decide +kernel) rfl
theorem mk_Jx4a65c : Cond.instantiable RJx4a65c 3 ∈ zTBL := tb5 (j := 66) (by decide +kernel) rfl
theorem cl_X12_54 : Cond.classLink RX12 54 RX8 ∈ zTBL := tb5 (j := 174) (by decide +kernel) rfl
theorem mk_X8 : Cond.instantiable RX8 3 ∈ zTBL := tb5 (j := 175) (by decide +kernel) rfl
theorem cl_X12_74 : Cond.classLink RX12 74 RX9 ∈ zTBL := tb6 (j := 6) (by decide +kernel) rfl
theorem mk_X9 : Cond.instantiable RX9 5 ∈ zTBL := tb6 (j := 7) (by decide +kernel) rfl
theorem cl_X12_85 : Cond.classLink RX12 85 RX10 ∈ zTBL := tb6 (j := 32) (by decide +kernel) rfl
theorem mk_X10 : Cond.instantiable RX10 2 ∈ zTBL := tb6 (j := 33) (by decide +kernel) rfl
theorem cl_Jx4a65c_267 : Cond.classLink RJx4a65c 267 RJx35411 ∈ zTBL := tb6 (j := 81) (by decide +kernel) rfl
theorem mk_Jx35411 : Cond.instantiable RJx35411 4 ∈ zTBL := tb6 (j := 82) (by decide +kernel) rfl
theorem cl_X12_124 : Cond.classLink RX12 124 RX7 ∈ zTBL := tb6 (j := 127) (by decide +kernel) rfl
theorem mk_X7 : Cond.instantiable RX7 4 ∈ zTBL := tb6 (j := 128) (by decide +kernel) rfl
theorem cl_X12_147 : Cond.classLink RX12 147 RX11 ∈ zTBL := tb6 (j := 162) (by decide +kernel) rfl
theorem mk_X11 : Cond.instantiable RX11 3 ∈ zTBL := tb6 (j := 163) (by decide +kernel) rfl
theorem ay_boolean : Cond.arrayClass .boolean ∈ zTBL := tb7 (j := 63) (by decide +kernel) rfl
theorem cl_X12_302 : Cond.classLink RX12 302 RJ4 ∈ zTBL := tb7 (j := 112) (by decide +kernel) rfl
theorem ac_native : Cond.native arraycopyName ∈ zTBL := tb2 (j := 81) (by decide +kernel) rfl
theorem ac_static : Cond.static arraycopyName ∈ zTBL := tb2 (j := 80) (by decide +kernel) rfl
theorem oi_X5_1 : Cond.methodLink RX5 1 Lib.objectInit ∈ zTBL := tb1 (j := 42) (by decide +kernel) rfl
theorem oi_X2_3 : Cond.methodLink RX2 3 Lib.objectInit ∈ zTBL := tb1 (j := 50) (by decide +kernel) rfl
theorem oi_X1_3 : Cond.methodLink RX1 3 Lib.objectInit ∈ zTBL := tb1 (j := 89) (by decide +kernel) rfl
theorem oi_X0_3 : Cond.methodLink RX0 3 Lib.objectInit ∈ zTBL := tb1 (j := 120) (by decide +kernel) rfl
theorem oi_X4_3 : Cond.methodLink RX4 3 Lib.objectInit ∈ zTBL := tb1 (j := 157) (by decide +kernel) rfl
theorem oi_X3_3 : Cond.methodLink RX3 3 Lib.objectInit ∈ zTBL := tb1 (j := 190) (by decide +kernel) rfl
theorem oi_J5_3 : Cond.methodLink RJ5 3 Lib.objectInit ∈ zTBL := tb2 (j := 95) (by decide +kernel) rfl
theorem oi_J0_1 : Cond.methodLink RJ0 1 Lib.objectInit ∈ zTBL := tb2 (j := 228) (by decide +kernel) rfl
theorem oi_X6_1 : Cond.methodLink RX6 1 Lib.objectInit ∈ zTBL := tb4 (j := 118) (by decide +kernel) rfl
theorem oi_X12_1 : Cond.methodLink RX12 1 Lib.objectInit ∈ zTBL := tb5 (j := 64) (by decide +kernel) rfl
theorem oi_Jxa1e45_1 : Cond.methodLink RJxa1e45 1 Lib.objectInit ∈ zTBL := tb5 (j := 76) (by decide +kernel) rfl
theorem oi_X8_1 : Cond.methodLink RX8 1 Lib.objectInit ∈ zTBL := tb5 (j := 179) (by decide +kernel) rfl
theorem oi_X9_1 : Cond.methodLink RX9 1 Lib.objectInit ∈ zTBL := tb6 (j := 11) (by decide +kernel) rfl
theorem oi_X10_1 : Cond.methodLink RX10 1 Lib.objectInit ∈ zTBL := tb6 (j := 37) (by decide +kernel) rfl
theorem oi_Jx35411_7 : Cond.methodLink RJx35411 7 Lib.objectInit ∈ zTBL := tb6 (j := 86) (by decide +kernel) rfl
theorem oi_X7_1 : Cond.methodLink RX7 1 Lib.objectInit ∈ zTBL := tb6 (j := 132) (by decide +kernel) rfl
theorem oi_X11_1 : Cond.methodLink RX11 1 Lib.objectInit ∈ zTBL := tb6 (j := 167) (by decide +kernel) rfl
theorem oi_in : Cond.instanceMethod Lib.objectInit ∈ zTBL := tb1 (j := 43) (by decide +kernel) rfl
theorem oi_code : Cond.code Lib.objectInit ⟨#[0xb1]⟩ 1 none ∈ zTBL := tb1 (j := 44) (by decide +kernel) rfl
