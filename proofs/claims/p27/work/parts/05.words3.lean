theorem nz_L : Cond.initialized RL ∈ zTBL := tb1 (j := 0) (by decide +kernel) rfl
theorem nz_X5 : Cond.initialized RX5 ∈ zTBL := tb1 (j := 1) (by decide +kernel) rfl
theorem nz_X2 : Cond.initialized RX2 ∈ zTBL := tb1 (j := 2) (by decide +kernel) rfl
theorem nz_X1 : Cond.initialized RX1 ∈ zTBL := tb1 (j := 3) (by decide +kernel) rfl
theorem nz_X0 : Cond.initialized RX0 ∈ zTBL := tb1 (j := 4) (by decide +kernel) rfl
theorem nz_X4 : Cond.initialized RX4 ∈ zTBL := tb1 (j := 5) (by decide +kernel) rfl
theorem nz_X3 : Cond.initialized RX3 ∈ zTBL := tb1 (j := 6) (by decide +kernel) rfl
theorem nz_J9 : Cond.initialized RJ9 ∈ zTBL := tb1 (j := 12) (by decide +kernel) rfl
theorem nz_J6 : Cond.initialized RJ6 ∈ zTBL := tb1 (j := 13) (by decide +kernel) rfl
theorem nz_J10 : Cond.initialized RJ10 ∈ zTBL := tb1 (j := 14) (by decide +kernel) rfl
theorem nz_J5 : Cond.initialized RJ5 ∈ zTBL := tb1 (j := 16) (by decide +kernel) rfl
theorem nz_J4 : Cond.initialized RJ4 ∈ zTBL := tb1 (j := 17) (by decide +kernel) rfl
theorem nz_J0 : Cond.initialized RJ0 ∈ zTBL := tb1 (j := 18) (by decide +kernel) rfl
theorem nz_J2 : Cond.initialized RJ2 ∈ zTBL := tb1 (j := 19) (by decide +kernel) rfl
theorem nz_J8 : Cond.initialized RJ8 ∈ zTBL := tb1 (j := 20) (by decide +kernel) rfl
theorem nz_J7 : Cond.initialized RJ7 ∈ zTBL := tb1 (j := 21) (by decide +kernel) rfl
theorem nz_J1 : Cond.initialized RJ1 ∈ zTBL := tb1 (j := 22) (by decide +kernel) rfl
theorem nz_J3 : Cond.initialized RJ3 ∈ zTBL := tb1 (j := 23) (by decide +kernel) rfl
theorem ay_byte : Cond.arrayClass .byte ∈ zTBL := tb1 (j := 100) (by decide +kernel) rfl
theorem mk_X0 : Cond.instantiable RX0 9 ∈ zTBL := tb1 (j := 138) (by decide +kernel) rfl
theorem mk_X2 : Cond.instantiable RX2 7 ∈ zTBL := tb1 (j := 148) (by decide +kernel) rfl
theorem ac_X0_68 : Cond.methodLink RX0 68 arraycopyName ∈ zTBL := tb1 (j := 189) (by decide +kernel) rfl
theorem mk_X5 : Cond.instantiable RX5 9 ∈ zTBL := tb1 (j := 217) (by decide +kernel) rfl
theorem mk_X1 : Cond.instantiable RX1 6 ∈ zTBL := tb2 (j := 47) (by decide +kernel) rfl
theorem mk_X4 : Cond.instantiable RX4 7 ∈ zTBL := tb2 (j := 69) (by decide +kernel) rfl
theorem cl_X5_231 : Cond.classLink RX5 231 RJ4 ∈ zTBL := tb2 (j := 114) (by decide +kernel) rfl
theorem mk_J4 : Cond.instantiable RJ4 4 ∈ zTBL := tb2 (j := 115) (by decide +kernel) rfl
theorem ac_J7_150 : Cond.methodLink RJ7 150 arraycopyName ∈ zTBL := tb2 (j := 182) (by decide +kernel) rfl
theorem cl_J4_18 : Cond.classLink RJ4 18 RJ0 ∈ zTBL := tb3 (j := 0) (by decide +kernel) rfl
theorem mk_J0 : Cond.instantiable RJ0 4 ∈ zTBL := tb3 (j := 1) (by decide +kernel) rfl
theorem cl_L_9 : Cond.classLink RL 9 RX5 ∈ zTBL := tb3 (j := 73) (by decide +kernel) rfl
theorem cl_X5_7 : Cond.classLink RX5 7 RX2 ∈ zTBL := tb3 (j := 78) (by decide +kernel) rfl
theorem ay_int : Cond.arrayClass .int ∈ zTBL := tb3 (j := 115) (by decide +kernel) rfl
theorem cl_X5_16 : Cond.classLink RX5 16 RX1 ∈ zTBL := tb3 (j := 116) (by decide +kernel) rfl
theorem cl_X5_23 : Cond.classLink RX5 23 RX0 ∈ zTBL := tb3 (j := 146) (by decide +kernel) rfl
theorem cl_X5_30 : Cond.classLink RX5 30 RX4 ∈ zTBL := tb3 (j := 182) (by decide +kernel) rfl
theorem cl_X5_37 : Cond.classLink RX5 37 RX3 ∈ zTBL := tb3 (j := 214) (by decide +kernel) rfl
theorem mk_X3 : Cond.instantiable RX3 6 ∈ zTBL := tb3 (j := 215) (by decide +kernel) rfl
theorem ac_native : Cond.native arraycopyName ∈ zTBL := tb1 (j := 191) (by decide +kernel) rfl
theorem ac_static : Cond.static arraycopyName ∈ zTBL := tb1 (j := 190) (by decide +kernel) rfl
theorem oi_J5_3 : Cond.methodLink RJ5 3 Lib.objectInit ∈ zTBL := tb2 (j := 122) (by decide +kernel) rfl
theorem oi_J0_1 : Cond.methodLink RJ0 1 Lib.objectInit ∈ zTBL := tb3 (j := 8) (by decide +kernel) rfl
theorem oi_X5_1 : Cond.methodLink RX5 1 Lib.objectInit ∈ zTBL := tb3 (j := 77) (by decide +kernel) rfl
theorem oi_X2_3 : Cond.methodLink RX2 3 Lib.objectInit ∈ zTBL := tb3 (j := 82) (by decide +kernel) rfl
theorem oi_X1_3 : Cond.methodLink RX1 3 Lib.objectInit ∈ zTBL := tb3 (j := 120) (by decide +kernel) rfl
theorem oi_X0_3 : Cond.methodLink RX0 3 Lib.objectInit ∈ zTBL := tb3 (j := 150) (by decide +kernel) rfl
theorem oi_X4_3 : Cond.methodLink RX4 3 Lib.objectInit ∈ zTBL := tb3 (j := 186) (by decide +kernel) rfl
theorem oi_X3_3 : Cond.methodLink RX3 3 Lib.objectInit ∈ zTBL := tb3 (j := 219) (by decide +kernel) rfl
theorem oi_in : Cond.instanceMethod Lib.objectInit ∈ zTBL := tb1 (j := 57) (by decide +kernel) rfl
theorem oi_code : Cond.code Lib.objectInit ⟨#[0xb1]⟩ 1 none ∈ zTBL := tb1 (j := 58) (by decide +kernel) rfl
