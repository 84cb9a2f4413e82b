/-! the constructors' instructions and links -/
theorem dX4_init_0 : decode cX4_init 0 = .ok (.aload_n 0, 1) := by decide +kernel
theorem dX4_init_1 : decode cX4_init 1 = .ok (.invokespecial 3, 3) := by decide +kernel
theorem dX4_init_4 : decode cX4_init 4 = .ok (.aload_n 0, 1) := by decide +kernel
theorem dX4_init_5 : decode cX4_init 5 = .ok (.bipush 60, 2) := by decide +kernel
theorem dX4_init_7 : decode cX4_init 7 = .ok (.newarray .int, 2) := by decide +kernel
theorem dX4_init_9 : decode cX4_init 9 = .ok (.putfield 9, 3) := by decide +kernel
theorem dX4_init_12 : decode cX4_init 12 = .ok (.aload_n 0, 1) := by decide +kernel
theorem dX4_init_13 : decode cX4_init 13 = .ok (.bipush 60, 2) := by decide +kernel
theorem dX4_init_15 : decode cX4_init 15 = .ok (.newarray .int, 2) := by decide +kernel
theorem dX4_init_17 : decode cX4_init 17 = .ok (.putfield 15, 3) := by decide +kernel
theorem dX4_init_20 : decode cX4_init 20 = .ok (.aload_n 0, 1) := by decide +kernel
theorem dX4_init_21 : decode cX4_init 21 = .ok (.bipush 60, 2) := by decide +kernel
theorem dX4_init_23 : decode cX4_init 23 = .ok (.newarray .int, 2) := by decide +kernel
theorem dX4_init_25 : decode cX4_init 25 = .ok (.putfield 18, 3) := by decide +kernel
theorem dX4_init_28 : decode cX4_init 28 = .ok (.aload_n 0, 1) := by decide +kernel
theorem dX4_init_29 : decode cX4_init 29 = .ok (.bipush 60, 2) := by decide +kernel
theorem dX4_init_31 : decode cX4_init 31 = .ok (.newarray .int, 2) := by decide +kernel
theorem dX4_init_33 : decode cX4_init 33 = .ok (.putfield 21, 3) := by decide +kernel
theorem dX4_init_36 : decode cX4_init 36 = .ok (.aload_n 0, 1) := by decide +kernel
theorem dX4_init_37 : decode cX4_init 37 = .ok (.bipush 60, 2) := by decide +kernel
theorem dX4_init_39 : decode cX4_init 39 = .ok (.newarray .boolean, 2) := by decide +kernel
theorem dX4_init_41 : decode cX4_init 41 = .ok (.putfield 24, 3) := by decide +kernel
theorem dX4_init_44 : decode cX4_init 44 = .ok (.return_, 1) := by decide +kernel
theorem dX7_init_0 : decode cX7_init 0 = .ok (.aload_n 0, 1) := by decide +kernel
theorem dX7_init_1 : decode cX7_init 1 = .ok (.invokespecial 3, 3) := by decide +kernel
theorem dX7_init_4 : decode cX7_init 4 = .ok (.aload_n 0, 1) := by decide +kernel
theorem dX7_init_5 : decode cX7_init 5 = .ok (.bipush 24, 2) := by decide +kernel
theorem dX7_init_7 : decode cX7_init 7 = .ok (.newarray .char, 2) := by decide +kernel
theorem dX7_init_9 : decode cX7_init 9 = .ok (.putfield 9, 3) := by decide +kernel
theorem dX7_init_12 : decode cX7_init 12 = .ok (.return_, 1) := by decide +kernel
theorem dX6_init_0 : decode cX6_init 0 = .ok (.aload_n 0, 1) := by decide +kernel
theorem dX6_init_1 : decode cX6_init 1 = .ok (.invokespecial 3, 3) := by decide +kernel
theorem dX6_init_4 : decode cX6_init 4 = .ok (.aload_n 0, 1) := by decide +kernel
theorem dX6_init_5 : decode cX6_init 5 = .ok (.bipush 6, 2) := by decide +kernel
theorem dX6_init_7 : decode cX6_init 7 = .ok (.newarray .int, 2) := by decide +kernel
theorem dX6_init_9 : decode cX6_init 9 = .ok (.putfield 9, 3) := by decide +kernel
theorem dX6_init_12 : decode cX6_init 12 = .ok (.return_, 1) := by decide +kernel
theorem dX5_init_0 : decode cX5_init 0 = .ok (.aload_n 0, 1) := by decide +kernel
theorem dX5_init_1 : decode cX5_init 1 = .ok (.invokespecial 3, 3) := by decide +kernel
theorem dX5_init_4 : decode cX5_init 4 = .ok (.aload_n 0, 1) := by decide +kernel
theorem dX5_init_5 : decode cX5_init 5 = .ok (.bipush 24, 2) := by decide +kernel
theorem dX5_init_7 : decode cX5_init 7 = .ok (.newarray .char, 2) := by decide +kernel
theorem dX5_init_9 : decode cX5_init 9 = .ok (.putfield 9, 3) := by decide +kernel
theorem dX5_init_12 : decode cX5_init 12 = .ok (.aload_n 0, 1) := by decide +kernel
theorem dX5_init_13 : decode cX5_init 13 = .ok (.bipush 24, 2) := by decide +kernel
theorem dX5_init_15 : decode cX5_init 15 = .ok (.newarray .char, 2) := by decide +kernel
theorem dX5_init_17 : decode cX5_init 17 = .ok (.putfield 15, 3) := by decide +kernel
theorem dX5_init_20 : decode cX5_init 20 = .ok (.aload_n 0, 1) := by decide +kernel
theorem dX5_init_21 : decode cX5_init 21 = .ok (.bipush 24, 2) := by decide +kernel
theorem dX5_init_23 : decode cX5_init 23 = .ok (.newarray .int, 2) := by decide +kernel
theorem dX5_init_25 : decode cX5_init 25 = .ok (.putfield 18, 3) := by decide +kernel
theorem dX5_init_28 : decode cX5_init 28 = .ok (.return_, 1) := by decide +kernel
theorem dX8_init_0 : decode cX8_init 0 = .ok (.aload_n 0, 1) := by decide +kernel
theorem dX8_init_1 : decode cX8_init 1 = .ok (.invokespecial 3, 3) := by decide +kernel
theorem dX8_init_4 : decode cX8_init 4 = .ok (.aload_n 0, 1) := by decide +kernel
theorem dX8_init_5 : decode cX8_init 5 = .ok (.iconst (-1), 1) := by decide +kernel
theorem dX8_init_6 : decode cX8_init 6 = .ok (.putfield 9, 3) := by decide +kernel
theorem dX8_init_9 : decode cX8_init 9 = .ok (.return_, 1) := by decide +kernel
theorem dX0_init_0 : decode cX0_init 0 = .ok (.aload_n 0, 1) := by decide +kernel
theorem dX0_init_1 : decode cX0_init 1 = .ok (.invokespecial 3, 3) := by decide +kernel
theorem dX0_init_4 : decode cX0_init 4 = .ok (.aload_n 0, 1) := by decide +kernel
theorem dX0_init_5 : decode cX0_init 5 = .ok (.bipush 100, 2) := by decide +kernel
theorem dX0_init_7 : decode cX0_init 7 = .ok (.newarray .int, 2) := by decide +kernel
theorem dX0_init_9 : decode cX0_init 9 = .ok (.putfield 9, 3) := by decide +kernel
theorem dX0_init_12 : decode cX0_init 12 = .ok (.aload_n 0, 1) := by decide +kernel
theorem dX0_init_13 : decode cX0_init 13 = .ok (.bipush 100, 2) := by decide +kernel
theorem dX0_init_15 : decode cX0_init 15 = .ok (.newarray .int, 2) := by decide +kernel
theorem dX0_init_17 : decode cX0_init 17 = .ok (.putfield 15, 3) := by decide +kernel
theorem dX0_init_20 : decode cX0_init 20 = .ok (.aload_n 0, 1) := by decide +kernel
theorem dX0_init_21 : decode cX0_init 21 = .ok (.bipush 100, 2) := by decide +kernel
theorem dX0_init_23 : decode cX0_init 23 = .ok (.newarray .int, 2) := by decide +kernel
theorem dX0_init_25 : decode cX0_init 25 = .ok (.putfield 18, 3) := by decide +kernel
theorem dX0_init_28 : decode cX0_init 28 = .ok (.aload_n 0, 1) := by decide +kernel
theorem dX0_init_29 : decode cX0_init 29 = .ok (.bipush 100, 2) := by decide +kernel
theorem dX0_init_31 : decode cX0_init 31 = .ok (.newarray .int, 2) := by decide +kernel
theorem dX0_init_33 : decode cX0_init 33 = .ok (.putfield 21, 3) := by decide +kernel
theorem dX0_init_36 : decode cX0_init 36 = .ok (.aload_n 0, 1) := by decide +kernel
theorem dX0_init_37 : decode cX0_init 37 = .ok (.bipush 100, 2) := by decide +kernel
theorem dX0_init_39 : decode cX0_init 39 = .ok (.newarray .int, 2) := by decide +kernel
theorem dX0_init_41 : decode cX0_init 41 = .ok (.putfield 24, 3) := by decide +kernel
theorem dX0_init_44 : decode cX0_init 44 = .ok (.aload_n 0, 1) := by decide +kernel
theorem dX0_init_45 : decode cX0_init 45 = .ok (.sipush 600, 3) := by decide +kernel
theorem dX0_init_48 : decode cX0_init 48 = .ok (.newarray .int, 2) := by decide +kernel
theorem dX0_init_50 : decode cX0_init 50 = .ok (.putfield 27, 3) := by decide +kernel
theorem dX0_init_53 : decode cX0_init 53 = .ok (.aload_n 0, 1) := by decide +kernel
theorem dX0_init_54 : decode cX0_init 54 = .ok (.bipush 100, 2) := by decide +kernel
theorem dX0_init_56 : decode cX0_init 56 = .ok (.newarray .boolean, 2) := by decide +kernel
theorem dX0_init_58 : decode cX0_init 58 = .ok (.putfield 30, 3) := by decide +kernel
theorem dX0_init_61 : decode cX0_init 61 = .ok (.aload_n 0, 1) := by decide +kernel
theorem dX0_init_62 : decode cX0_init 62 = .ok (.bipush 100, 2) := by decide +kernel
theorem dX0_init_64 : decode cX0_init 64 = .ok (.newarray .int, 2) := by decide +kernel
theorem dX0_init_66 : decode cX0_init 66 = .ok (.putfield 34, 3) := by decide +kernel
theorem dX0_init_69 : decode cX0_init 69 = .ok (.aload_n 0, 1) := by decide +kernel
theorem dX0_init_70 : decode cX0_init 70 = .ok (.aload_n 1, 1) := by decide +kernel
theorem dX0_init_71 : decode cX0_init 71 = .ok (.putfield 37, 3) := by decide +kernel
theorem dX0_init_74 : decode cX0_init 74 = .ok (.return_, 1) := by decide +kernel
theorem dX3_init_0 : decode cX3_init 0 = .ok (.aload_n 0, 1) := by decide +kernel
theorem dX3_init_1 : decode cX3_init 1 = .ok (.aload_n 1, 1) := by decide +kernel
theorem dX3_init_2 : decode cX3_init 2 = .ok (.invokespecial 3, 3) := by decide +kernel
theorem dX3_init_5 : decode cX3_init 5 = .ok (.aload_n 0, 1) := by decide +kernel
theorem dX3_init_6 : decode cX3_init 6 = .ok (.sipush 936, 3) := by decide +kernel
theorem dX3_init_9 : decode cX3_init 9 = .ok (.newarray .int, 2) := by decide +kernel
theorem dX3_init_11 : decode cX3_init 11 = .ok (.putfield 9, 3) := by decide +kernel
theorem dX3_init_14 : decode cX3_init 14 = .ok (.aload_n 0, 1) := by decide +kernel
theorem dX3_init_15 : decode cX3_init 15 = .ok (.sipush 156, 3) := by decide +kernel
theorem dX3_init_18 : decode cX3_init 18 = .ok (.newarray .int, 2) := by decide +kernel
theorem dX3_init_20 : decode cX3_init 20 = .ok (.putfield 15, 3) := by decide +kernel
theorem dX3_init_23 : decode cX3_init 23 = .ok (.aload_n 0, 1) := by decide +kernel
theorem dX3_init_24 : decode cX3_init 24 = .ok (.sipush 156, 3) := by decide +kernel
theorem dX3_init_27 : decode cX3_init 27 = .ok (.newarray .int, 2) := by decide +kernel
theorem dX3_init_29 : decode cX3_init 29 = .ok (.putfield 18, 3) := by decide +kernel
theorem dX3_init_32 : decode cX3_init 32 = .ok (.aload_n 0, 1) := by decide +kernel
theorem dX3_init_33 : decode cX3_init 33 = .ok (.bipush 24, 2) := by decide +kernel
theorem dX3_init_35 : decode cX3_init 35 = .ok (.newarray .int, 2) := by decide +kernel
theorem dX3_init_37 : decode cX3_init 37 = .ok (.putfield 21, 3) := by decide +kernel
theorem dX3_init_40 : decode cX3_init 40 = .ok (.return_, 1) := by decide +kernel
theorem dX1_init_0 : decode cX1_init 0 = .ok (.aload_n 0, 1) := by decide +kernel
theorem dX1_init_1 : decode cX1_init 1 = .ok (.invokespecial 3, 3) := by decide +kernel
theorem dX1_init_4 : decode cX1_init 4 = .ok (.aload_n 0, 1) := by decide +kernel
theorem dX1_init_5 : decode cX1_init 5 = .ok (.bipush 6, 2) := by decide +kernel
theorem dX1_init_7 : decode cX1_init 7 = .ok (.newarray .int, 2) := by decide +kernel
theorem dX1_init_9 : decode cX1_init 9 = .ok (.putfield 9, 3) := by decide +kernel
theorem dX1_init_12 : decode cX1_init 12 = .ok (.aload_n 0, 1) := by decide +kernel
theorem dX1_init_13 : decode cX1_init 13 = .ok (.aload_n 1, 1) := by decide +kernel
theorem dX1_init_14 : decode cX1_init 14 = .ok (.putfield 15, 3) := by decide +kernel
theorem dX1_init_17 : decode cX1_init 17 = .ok (.return_, 1) := by decide +kernel
theorem dX2_init_0 : decode cX2_init 0 = .ok (.aload_n 0, 1) := by decide +kernel
theorem dX2_init_1 : decode cX2_init 1 = .ok (.aload_n 1, 1) := by decide +kernel
theorem dX2_init_2 : decode cX2_init 2 = .ok (.invokespecial 3, 3) := by decide +kernel
theorem dX2_init_5 : decode cX2_init 5 = .ok (.aload_n 0, 1) := by decide +kernel
theorem dX2_init_6 : decode cX2_init 6 = .ok (.sipush 156, 3) := by decide +kernel
theorem dX2_init_9 : decode cX2_init 9 = .ok (.newarray .char, 2) := by decide +kernel
theorem dX2_init_11 : decode cX2_init 11 = .ok (.putfield 9, 3) := by decide +kernel
theorem dX2_init_14 : decode cX2_init 14 = .ok (.aload_n 0, 1) := by decide +kernel
theorem dX2_init_15 : decode cX2_init 15 = .ok (.sipush 156, 3) := by decide +kernel
theorem dX2_init_18 : decode cX2_init 18 = .ok (.newarray .int, 2) := by decide +kernel
theorem dX2_init_20 : decode cX2_init 20 = .ok (.putfield 15, 3) := by decide +kernel
theorem dX2_init_23 : decode cX2_init 23 = .ok (.return_, 1) := by decide +kernel
theorem ac_int : Cond.arrayClass .int ∈ wall := wall_of 59 (by decide +kernel) rfl
theorem ac_boolean : Cond.arrayClass .boolean ∈ wall := wall_of 60 (by decide +kernel) rfl
theorem ac_char : Cond.arrayClass .char ∈ wall := wall_of 77 (by decide +kernel) rfl
theorem oi_inst : Cond.instanceMethod Lib.objectInit ∈ wall := wall_of 30 (by decide +kernel) rfl
theorem oi_code : Cond.code Lib.objectInit ⟨#[0xb1]⟩ 1 none ∈ wall := wall_of 31 (by decide +kernel) rfl
theorem oi_RX4 : Cond.methodLink RX4 3 Lib.objectInit ∈ wall := wall_of 37 (by decide +kernel) rfl
theorem pf_X4_init_9_X4 : Cond.fieldLink RX4 9 "Ballotscript$Rolls" (TX4 0).2.1 (TX4 0).2.2.1 ∈ wall := wall_of 38 (by decide +kernel) rfl
theorem pf_X4_init_17_X4 : Cond.fieldLink RX4 15 "Ballotscript$Rolls" (TX4 1).2.1 (TX4 1).2.2.1 ∈ wall := wall_of 39 (by decide +kernel) rfl
theorem pf_X4_init_25_X4 : Cond.fieldLink RX4 18 "Ballotscript$Rolls" (TX4 2).2.1 (TX4 2).2.2.1 ∈ wall := wall_of 40 (by decide +kernel) rfl
theorem pf_X4_init_33_X4 : Cond.fieldLink RX4 21 "Ballotscript$Rolls" (TX4 3).2.1 (TX4 3).2.2.1 ∈ wall := wall_of 41 (by decide +kernel) rfl
theorem pf_X4_init_41_X4 : Cond.fieldLink RX4 24 "Ballotscript$Rolls" (TX4 4).2.1 (TX4 4).2.2.1 ∈ wall := wall_of 42 (by decide +kernel) rfl
theorem oi_RX7 : Cond.methodLink RX7 3 Lib.objectInit ∈ wall := wall_of 66 (by decide +kernel) rfl
theorem pf_X7_init_9_X7 : Cond.fieldLink RX7 9 "Ballotscript$Text" (TX7 0).2.1 (TX7 0).2.2.1 ∈ wall := wall_of 67 (by decide +kernel) rfl
theorem oi_RX6 : Cond.methodLink RX6 3 Lib.objectInit ∈ wall := wall_of 87 (by decide +kernel) rfl
theorem pf_X6_init_9_X6 : Cond.fieldLink RX6 9 "Ballotscript$Slip" (TX6 0).2.1 (TX6 0).2.2.1 ∈ wall := wall_of 88 (by decide +kernel) rfl
theorem oi_RX5 : Cond.methodLink RX5 3 Lib.objectInit ∈ wall := wall_of 246 (by decide +kernel) rfl
theorem pf_X5_init_9_X5 : Cond.fieldLink RX5 9 "Ballotscript$Rule" (TX5 0).2.1 (TX5 0).2.2.1 ∈ wall := wall_of 247 (by decide +kernel) rfl
theorem pf_X5_init_17_X5 : Cond.fieldLink RX5 15 "Ballotscript$Rule" (TX5 1).2.1 (TX5 1).2.2.1 ∈ wall := wall_of 249 (by decide +kernel) rfl
theorem pf_X5_init_25_X5 : Cond.fieldLink RX5 18 "Ballotscript$Rule" (TX5 2).2.1 (TX5 2).2.2.1 ∈ wall := wall_of 251 (by decide +kernel) rfl
theorem oi_RX8 : Cond.methodLink RX8 3 Lib.objectInit ∈ wall := wall_of 276 (by decide +kernel) rfl
theorem pf_X8_init_6_X8 : Cond.fieldLink RX8 9 "Ballotscript$Vote" (TX8 7).2.1 (TX8 7).2.2.1 ∈ wall := wall_of 288 (by decide +kernel) rfl
theorem oi_RX0 : Cond.methodLink RX0 3 Lib.objectInit ∈ wall := wall_of 103 (by decide +kernel) rfl
theorem pf_X0_init_9_X0 : Cond.fieldLink RX0 9 "Ballotscript$Box" (TX0 1).2.1 (TX0 1).2.2.1 ∈ wall := wall_of 105 (by decide +kernel) rfl
theorem pf_X0_init_17_X0 : Cond.fieldLink RX0 15 "Ballotscript$Box" (TX0 2).2.1 (TX0 2).2.2.1 ∈ wall := wall_of 107 (by decide +kernel) rfl
theorem pf_X0_init_25_X0 : Cond.fieldLink RX0 18 "Ballotscript$Box" (TX0 3).2.1 (TX0 3).2.2.1 ∈ wall := wall_of 108 (by decide +kernel) rfl
theorem pf_X0_init_33_X0 : Cond.fieldLink RX0 21 "Ballotscript$Box" (TX0 4).2.1 (TX0 4).2.2.1 ∈ wall := wall_of 109 (by decide +kernel) rfl
theorem pf_X0_init_41_X0 : Cond.fieldLink RX0 24 "Ballotscript$Box" (TX0 5).2.1 (TX0 5).2.2.1 ∈ wall := wall_of 110 (by decide +kernel) rfl
theorem pf_X0_init_50_X0 : Cond.fieldLink RX0 27 "Ballotscript$Box" (TX0 6).2.1 (TX0 6).2.2.1 ∈ wall := wall_of 114 (by decide +kernel) rfl
theorem pf_X0_init_58_X0 : Cond.fieldLink RX0 30 "Ballotscript$Box" (TX0 7).2.1 (TX0 7).2.2.1 ∈ wall := wall_of 115 (by decide +kernel) rfl
theorem pf_X0_init_66_X0 : Cond.fieldLink RX0 34 "Ballotscript$Box" (TX0 9).2.1 (TX0 9).2.2.1 ∈ wall := wall_of 119 (by decide +kernel) rfl
theorem pf_X0_init_71_X0 : Cond.fieldLink RX0 37 "Ballotscript$Box" (TX0 0).2.1 (TX0 0).2.2.1 ∈ wall := wall_of 104 (by decide +kernel) rfl
theorem oi_RX1 : Cond.methodLink RX1 3 Lib.objectInit ∈ wall := wall_of 158 (by decide +kernel) rfl
theorem pf_X1_init_9_X3 : Cond.fieldLink RX1 9 "Ballotscript$Count" (TX3 1).2.1 (TX3 1).2.2.1 ∈ wall := wall_of 168 (by decide +kernel) rfl
theorem pf_X1_init_14_X3 : Cond.fieldLink RX1 15 "Ballotscript$Count" (TX3 0).2.1 (TX3 0).2.2.1 ∈ wall := wall_of 163 (by decide +kernel) rfl
theorem ls_RX3_3 : Cond.methodLink RX3 3 yX1_init ∈ wall := wall_of 155 (by decide +kernel) rfl
theorem ci_X1_init : Cond.instanceMethod yX1_init ∈ wall ∧ Cond.initialized yX1_init.cls ∈ wall ∧ Cond.code yX1_init cX1_init 2 none ∈ wall := ⟨wall_of 156 (by decide +kernel) rfl, wall_of 6 (by decide +kernel) rfl, wall_of 157 (by decide +kernel) rfl⟩
theorem pf_X3_init_11_X3 : Cond.fieldLink RX3 9 "Ballotscript$MachineCount" (TX3 8).2.1 (TX3 8).2.2.1 ∈ wall := wall_of 159 (by decide +kernel) rfl
theorem pf_X3_init_20_X3 : Cond.fieldLink RX3 15 "Ballotscript$MachineCount" (TX3 9).2.1 (TX3 9).2.2.1 ∈ wall := wall_of 160 (by decide +kernel) rfl
theorem pf_X3_init_29_X3 : Cond.fieldLink RX3 18 "Ballotscript$MachineCount" (TX3 10).2.1 (TX3 10).2.2.1 ∈ wall := wall_of 161 (by decide +kernel) rfl
theorem pf_X3_init_37_X3 : Cond.fieldLink RX3 21 "Ballotscript$MachineCount" (TX3 11).2.1 (TX3 11).2.2.1 ∈ wall := wall_of 162 (by decide +kernel) rfl
theorem pf_X1_init_9_X2 : Cond.fieldLink RX1 9 "Ballotscript$Count" (TX2 1).2.1 (TX2 1).2.2.1 ∈ wall := wall_of 168 (by decide +kernel) rfl
theorem pf_X1_init_14_X2 : Cond.fieldLink RX1 15 "Ballotscript$Count" (TX2 0).2.1 (TX2 0).2.2.1 ∈ wall := wall_of 163 (by decide +kernel) rfl
theorem ls_RX2_3 : Cond.methodLink RX2 3 yX1_init ∈ wall := wall_of 226 (by decide +kernel) rfl
theorem pf_X2_init_11_X2 : Cond.fieldLink RX2 9 "Ballotscript$HandCount" (TX2 8).2.1 (TX2 8).2.2.1 ∈ wall := wall_of 227 (by decide +kernel) rfl
theorem pf_X2_init_20_X2 : Cond.fieldLink RX2 15 "Ballotscript$HandCount" (TX2 9).2.1 (TX2 9).2.2.1 ∈ wall := wall_of 228 (by decide +kernel) rfl
