/-! the constructors' instructions and links -/
theorem dX4_init_0 : decode cX4_init 0 = .ok (.aload_n 0, 1) := by decide +kernel
theorem dX4_init_1 : decode cX4_init 1 = .ok (.invokespecial 3, 3) := by decide +kernel
theorem dX4_init_4 : decode cX4_init 4 = .ok (.aload_n 0, 1) := by decide +kernel
theorem dX4_init_5 : decode cX4_init 5 = .ok (.bipush 60, 2) := by decide +kernel
theorem dX4_init_7 : decode cX4_init 7 = .ok (.newarray .int, 2) := by decide +kernel
theorem dX4_init_9 : decode cX4_init 9 = .ok (.putfield 9, 3) := by decide +kernel
theorem dX4_init_12 : decode cX4_init 12 = .ok (.aload_n 0, 1) := by decide +kernel
theorem dX4_init_13 : decode cX4_init 13 = .ok (.bipush 60, 2) := by decide +kernel
theorem dX4_init_15 : decode cX4_init 15 = .ok (.newarray .int, 2) := by decide +kernel
theorem dX4_init_17 : decode cX4_init 17 = .ok (.putfield 15, 3) := by decide +kernel
theorem dX4_init_20 : decode cX4_init 20 = .ok (.aload_n 0, 1) := by decide +kernel
theorem dX4_init_21 : decode cX4_init 21 = .ok (.bipush 60, 2) := by decide +kernel
theorem dX4_init_23 : decode cX4_init 23 = .ok (.newarray .int, 2) := by decide +kernel
theorem dX4_init_25 : decode cX4_init 25 = .ok (.putfield 18, 3) := by decide +kernel
theorem dX4_init_28 : decode cX4_init 28 = .ok (.aload_n 0, 1) := by decide +kernel
theorem dX4_init_29 : decode cX4_init 29 = .ok (.bipush 60, 2) := by decide +kernel
theorem dX4_init_31 : decode cX4_init 31 = .ok (.newarray .int, 2) := by decide +kernel
theorem dX4_init_33 : decode cX4_init 33 = .ok (.putfield 21, 3) := by decide +kernel
theorem dX4_init_36 : decode cX4_init 36 = .ok (.aload_n 0, 1) := by decide +kernel
theorem dX4_init_37 : decode cX4_init 37 = .ok (.bipush 60, 2) := by decide +kernel
theorem dX4_init_39 : decode cX4_init 39 = .ok (.newarray .boolean, 2) := by decide +kernel
theorem dX4_init_41 : decode cX4_init 41 = .ok (.putfield 24, 3) := by decide +kernel
theorem dX4_init_44 : decode cX4_init 44 = .ok (.return_, 1) := by decide +kernel
theorem dX7_init_0 : decode cX7_init 0 = .ok (.aload_n 0, 1) := by decide +kernel
theorem dX7_init_1 : decode cX7_init 1 = .ok (.invokespecial 3, 3) := by decide +kernel
theorem dX7_init_4 : decode cX7_init 4 = .ok (.aload_n 0, 1) := by decide +kernel
theorem dX7_init_5 : decode cX7_init 5 = .ok (.bipush 24, 2) := by decide +kernel
theorem dX7_init_7 : decode cX7_init 7 = .ok (.newarray .char, 2) := by decide +kernel
theorem dX7_init_9 : decode cX7_init 9 = .ok (.putfield 9, 3) := by decide +kernel
theorem dX7_init_12 : decode cX7_init 12 = .ok (.return_, 1) := by decide +kernel
theorem dX6_init_0 : decode cX6_init 0 = .ok (.aload_n 0, 1) := by decide +kernel
theorem dX6_init_1 : decode cX6_init 1 = .ok (.invokespecial 3, 3) := by decide +kernel
theorem dX6_init_4 : decode cX6_init 4 = .ok (.aload_n 0, 1) := by decide +kernel
theorem dX6_init_5 : decode cX6_init 5 = .ok (.bipush 6, 2) := by decide +kernel
theorem dX6_init_7 : decode cX6_init 7 = .ok (.newarray .int, 2) := by decide +kernel
theorem dX6_init_9 : decode cX6_init 9 = .ok (.putfield 9, 3) := by decide +kernel
theorem dX6_init_12 : decode cX6_init 12 = .ok (.return_, 1) := by decide +kernel
theorem dX5_init_0 : decode cX5_init 0 = .ok (.aload_n 0, 1) := by decide +kernel
theorem dX5_init_1 : decode cX5_init 1 = .ok (.invokespecial 3, 3) := by decide +kernel
theorem dX5_init_4 : decode cX5_init 4 = .ok (.aload_n 0, 1) := by decide +kernel
theorem dX5_init_5 : decode cX5_init 5 = .ok (.bipush 24, 2) := by decide +kernel
theorem dX5_init_7 : decode cX5_init 7 = .ok (.newarray .char, 2) := by decide +kernel
theorem dX5_init_9 : decode cX5_init 9 = .ok (.putfield 9, 3) := by decide +kernel
theorem dX5_init_12 : decode cX5_init 12 = .ok (.aload_n 0, 1) := by decide +kernel
theorem dX5_init_13 : decode cX5_init 13 = .ok (.bipush 24, 2) := by decide +kernel
theorem dX5_init_15 : decode cX5_init 15 = .ok (.newarray .char, 2) := by decide +kernel
theorem dX5_init_17 : decode cX5_init 17 = .ok (.putfield 15, 3) := by decide +kernel
theorem dX5_init_20 : decode cX5_init 20 = .ok (.aload_n 0, 1) := by decide +kernel
theorem dX5_init_21 : decode cX5_init 21 = .ok (.bipush 24, 2) := by decide +kernel
theorem dX5_init_23 : decode cX5_init 23 = .ok (.newarray .int, 2) := by decide +kernel
theorem dX5_init_25 : decode cX5_init 25 = .ok (.putfield 18, 3) := by decide +kernel
theorem dX5_init_28 : decode cX5_init 28 = .ok (.return_, 1) := by decide +kernel
theorem dX8_init_0 : decode cX8_init 0 = .ok (.aload_n 0, 1) := by decide +kernel
theorem dX8_init_1 : decode cX8_init 1 = .ok (.invokespecial 3, 3) := by decide +kernel
theorem dX8_init_4 : decode cX8_init 4 = .ok (.aload_n 0, 1) := by decide +kernel
theorem dX8_init_5 : decode cX8_init 5 = .ok (.iconst (-1), 1) := by decide +kernel
theorem dX8_init_6 : decode cX8_init 6 = .ok (.putfield 9, 3) := by decide +kernel
theorem dX8_init_9 : decode cX8_init 9 = .ok (.return_, 1) := by decide +kernel
theorem dX0_init_0 : decode cX0_init 0 = .ok (.aload_n 0, 1) := by decide +kernel
theorem dX0_init_1 : decode cX0_init 1 = .ok (.invokespecial 3, 3) := by decide +kernel
theorem dX0_init_4 : decode cX0_init 4 = .ok (.aload_n 0, 1) := by decide +kernel
theorem dX0_init_5 : decode cX0_init 5 = .ok (.bipush 100, 2) := by decide +kernel
theorem dX0_init_7 : decode cX0_init 7 = .ok (.newarray .int, 2) := by decide +kernel
theorem dX0_init_9 : decode cX0_init 9 = .ok (.putfield 9, 3) := by decide +kernel
theorem dX0_init_12 : decode cX0_init 12 = .ok (.aload_n 0, 1) := by decide +kernel
theorem dX0_init_13 : decode cX0_init 13 = .ok (.bipush 100, 2) := by decide +kernel
theorem dX0_init_15 : decode cX0_init 15 = .ok (.newarray .int, 2) := by decide +kernel
theorem dX0_init_17 : decode cX0_init 17 = .ok (.putfield 15, 3) := by decide +kernel
theorem dX0_init_20 : decode cX0_init 20 = .ok (.aload_n 0, 1) := by decide +kernel
theorem dX0_init_21 : decode cX0_init 21 = .ok (.bipush 100, 2) := by decide +kernel
theorem dX0_init_23 : decode cX0_init 23 = .ok (.newarray .int, 2) := by decide +kernel
theorem dX0_init_25 : decode cX0_init 25 = .ok (.putfield 18, 3) := by decide +kernel
theorem dX0_init_28 : decode cX0_init 28 = .ok (.aload_n 0, 1) := by decide +kernel
theorem dX0_init_29 : decode cX0_init 29 = .ok (.bipush 100, 2) := by decide +kernel
theorem dX0_init_31 : decode cX0_init 31 = .ok (.newarray .int, 2) := by decide +kernel
theorem dX0_init_33 : decode cX0_init 33 = .ok (.putfield 21, 3) := by decide +kernel
theorem dX0_init_36 : decode cX0_init 36 = .ok (.aload_n 0, 1) := by decide +kernel
theorem dX0_init_37 : decode cX0_init 37 = .ok (.bipush 100, 2) := by decide +kernel
theorem dX0_init_39 : decode cX0_init 39 = .ok (.newarray .int, 2) := by decide +kernel
theorem dX0_init_41 : decode cX0_init 41 = .ok (.putfield 24, 3) := by decide +kernel
theorem dX0_init_44 : decode cX0_init 44 = .ok (.aload_n 0, 1) := by decide +kernel
theorem dX0_init_45 : decode cX0_init 45 = .ok (.sipush 600, 3) := by decide +kernel
theorem dX0_init_48 : decode cX0_init 48 = .ok (.newarray .int, 2) := by decide +kernel
theorem dX0_init_50 : decode cX0_init 50 = .ok (.putfield 27, 3) := by decide +kernel
theorem dX0_init_53 : decode cX0_init 53 = .ok (.aload_n 0, 1) := by decide +kernel
theorem dX0_init_54 : decode cX0_init 54 = .ok (.bipush 100, 2) := by decide +kernel
theorem dX0_init_56 : decode cX0_init 56 = .ok (.newarray .boolean, 2) := by decide +kernel
theorem dX0_init_58 : decode cX0_init 58 = .ok (.putfield 30, 3) := by decide +kernel
theorem dX0_init_61 : decode cX0_init 61 = .ok (.aload_n 0, 1) := by decide +kernel
theorem dX0_init_62 : decode cX0_init 62 = .ok (.bipush 100, 2) := by decide +kernel
theorem dX0_init_64 : decode cX0_init 64 = .ok (.newarray .int, 2) := by decide +kernel
theorem dX0_init_66 : decode cX0_init 66 = .ok (.putfield 34, 3) := by decide +kernel
theorem dX0_init_69 : decode cX0_init 69 = .ok (.aload_n 0, 1) := by decide +kernel
theorem dX0_init_70 : decode cX0_init 70 = .ok (.aload_n 1, 1) := by decide +kernel
theorem dX0_init_71 : decode cX0_init 71 = .ok (.putfield 37, 3) := by decide +kernel
theorem dX0_init_74 : decode cX0_init 74 = .ok (.return_, 1) := by decide +kernel
theorem dX3_init_0 : decode cX3_init 0 = .ok (.aload_n 0, 1) := by decide +kernel
theorem dX3_init_1 : decode cX3_init 1 = .ok (.aload_n 1, 1) := by decide +kernel
theorem dX3_init_2 : decode cX3_init 2 = .ok (.invokespecial 3, 3) := by decide +kernel
theorem dX3_init_5 : decode cX3_init 5 = .ok (.aload_n 0, 1) := by decide +kernel
theorem dX3_init_6 : decode cX3_init 6 = .ok (.sipush 936, 3) := by decide +kernel
theorem dX3_init_9 : decode cX3_init 9 = .ok (.newarray .int, 2) := by decide +kernel
theorem dX3_init_11 : decode cX3_init 11 = .ok (.putfield 9, 3) := by decide +kernel
theorem dX3_init_14 : decode cX3_init 14 = .ok (.aload_n 0, 1) := by decide +kernel
theorem dX3_init_15 : decode cX3_init 15 = .ok (.sipush 156, 3) := by decide +kernel
theorem dX3_init_18 : decode cX3_init 18 = .ok (.newarray .int, 2) := by decide +kernel
theorem dX3_init_20 : decode cX3_init 20 = .ok (.putfield 15, 3) := by decide +kernel
theorem dX3_init_23 : decode cX3_init 23 = .ok (.aload_n 0, 1) := by decide +kernel
theorem dX3_init_24 : decode cX3_init 24 = .ok (.sipush 156, 3) := by decide +kernel
theorem dX3_init_27 : decode cX3_init 27 = .ok (.newarray .int, 2) := by decide +kernel
theorem dX3_init_29 : decode cX3_init 29 = .ok (.putfield 18, 3) := by decide +kernel
theorem dX3_init_32 : decode cX3_init 32 = .ok (.aload_n 0, 1) := by decide +kernel
theorem dX3_init_33 : decode cX3_init 33 = .ok (.bipush 24, 2) := by decide +kernel
theorem dX3_init_35 : decode cX3_init 35 = .ok (.newarray .int, 2) := by decide +kernel
theorem dX3_init_37 : decode cX3_init 37 = .ok (.putfield 21, 3) := by decide +kernel
theorem dX3_init_40 : decode cX3_init 40 = .ok (.return_, 1) := by decide +kernel
theorem dX1_init_0 : decode cX1_init 0 = .ok (.aload_n 0, 1) := by decide +kernel
theorem dX1_init_1 : decode cX1_init 1 = .ok (.invokespecial 3, 3) := by decide +kernel
theorem dX1_init_4 : decode cX1_init 4 = .ok (.aload_n 0, 1) := by decide +kernel
theorem dX1_init_5 : decode cX1_init 5 = .ok (.bipush 6, 2) := by decide +kernel
theorem dX1_init_7 : decode cX1_init 7 = .ok (.newarray .int, 2) := by decide +kernel
theorem dX1_init_9 : decode cX1_init 9 = .ok (.putfield 9, 3) := by decide +kernel
theorem dX1_init_12 : decode cX1_init 12 = .ok (.aload_n 0, 1) := by decide +kernel
theorem dX1_init_13 : decode cX1_init 13 = .ok (.aload_n 1, 1) := by decide +kernel
theorem dX1_init_14 : decode cX1_init 14 = .ok (.putfield 15, 3) := by decide +kernel
theorem dX1_init_17 : decode cX1_init 17 = .ok (.return_, 1) := by decide +kernel
theorem dX2_init_0 : decode cX2_init 0 = .ok (.aload_n 0, 1) := by decide +kernel
theorem dX2_init_1 : decode cX2_init 1 = .ok (.aload_n 1, 1) := by decide +kernel
theorem dX2_init_2 : decode cX2_init 2 = .ok (.invokespecial 3, 3) := by decide +kernel
theorem dX2_init_5 : decode cX2_init 5 = .ok (.aload_n 0, 1) := by decide +kernel
theorem dX2_init_6 : decode cX2_init 6 = .ok (.sipush 156, 3) := by decide +kernel
theorem dX2_init_9 : decode cX2_init 9 = .ok (.newarray .char, 2) := by decide +kernel
theorem dX2_init_11 : decode cX2_init 11 = .ok (.putfield 9, 3) := by decide +kernel
theorem dX2_init_14 : decode cX2_init 14 = .ok (.aload_n 0, 1) := by decide +kernel
theorem dX2_init_15 : decode cX2_init 15 = .ok (.sipush 156, 3) := by decide +kernel
theorem dX2_init_18 : decode cX2_init 18 = .ok (.newarray .int, 2) := by decide +kernel
theorem dX2_init_20 : decode cX2_init 20 = .ok (.putfield 15, 3) := by decide +kernel
theorem dX2_init_23 : decode cX2_init 23 = .ok (.return_, 1) := by decide +kernel
theorem dX10_init_0 : decode cX10_init 0 = .ok (.aload_n 0, 1) := by decide +kernel
theorem dX10_init_1 : decode cX10_init 1 = .ok (.invokespecial 1, 3) := by decide +kernel
theorem dX10_init_4 : decode cX10_init 4 = .ok (.aload_n 0, 1) := by decide +kernel
theorem dX10_init_5 : decode cX10_init 5 = .ok (.bipush 60, 2) := by decide +kernel
theorem dX10_init_7 : decode cX10_init 7 = .ok (.newarray .int, 2) := by decide +kernel
theorem dX10_init_9 : decode cX10_init 9 = .ok (.putfield 7, 3) := by decide +kernel
theorem dX10_init_12 : decode cX10_init 12 = .ok (.aload_n 0, 1) := by decide +kernel
theorem dX10_init_13 : decode cX10_init 13 = .ok (.bipush 60, 2) := by decide +kernel
theorem dX10_init_15 : decode cX10_init 15 = .ok (.newarray .int, 2) := by decide +kernel
theorem dX10_init_17 : decode cX10_init 17 = .ok (.putfield 13, 3) := by decide +kernel
theorem dX10_init_20 : decode cX10_init 20 = .ok (.aload_n 0, 1) := by decide +kernel
theorem dX10_init_21 : decode cX10_init 21 = .ok (.bipush 60, 2) := by decide +kernel
theorem dX10_init_23 : decode cX10_init 23 = .ok (.newarray .int, 2) := by decide +kernel
theorem dX10_init_25 : decode cX10_init 25 = .ok (.putfield 16, 3) := by decide +kernel
theorem dX10_init_28 : decode cX10_init 28 = .ok (.aload_n 0, 1) := by decide +kernel
theorem dX10_init_29 : decode cX10_init 29 = .ok (.bipush 60, 2) := by decide +kernel
theorem dX10_init_31 : decode cX10_init 31 = .ok (.newarray .int, 2) := by decide +kernel
theorem dX10_init_33 : decode cX10_init 33 = .ok (.putfield 19, 3) := by decide +kernel
theorem dX10_init_36 : decode cX10_init 36 = .ok (.aload_n 0, 1) := by decide +kernel
theorem dX10_init_37 : decode cX10_init 37 = .ok (.bipush 60, 2) := by decide +kernel
theorem dX10_init_39 : decode cX10_init 39 = .ok (.newarray .boolean, 2) := by decide +kernel
theorem dX10_init_41 : decode cX10_init 41 = .ok (.putfield 22, 3) := by decide +kernel
theorem dX10_init_44 : decode cX10_init 44 = .ok (.aload_n 0, 1) := by decide +kernel
theorem dX10_init_45 : decode cX10_init 45 = .ok (.bipush 24, 2) := by decide +kernel
theorem dX10_init_47 : decode cX10_init 47 = .ok (.newarray .int, 2) := by decide +kernel
theorem dX10_init_49 : decode cX10_init 49 = .ok (.putfield 26, 3) := by decide +kernel
theorem dX10_init_52 : decode cX10_init 52 = .ok (.aload_n 0, 1) := by decide +kernel
theorem dX10_init_53 : decode cX10_init 53 = .ok (.sipush 192, 3) := by decide +kernel
theorem dX10_init_56 : decode cX10_init 56 = .ok (.newarray .int, 2) := by decide +kernel
theorem dX10_init_58 : decode cX10_init 58 = .ok (.putfield 29, 3) := by decide +kernel
theorem dX10_init_61 : decode cX10_init 61 = .ok (.aload_n 0, 1) := by decide +kernel
theorem dX10_init_62 : decode cX10_init 62 = .ok (.bipush 8, 2) := by decide +kernel
theorem dX10_init_64 : decode cX10_init 64 = .ok (.newarray .int, 2) := by decide +kernel
theorem dX10_init_66 : decode cX10_init 66 = .ok (.putfield 32, 3) := by decide +kernel
theorem dX10_init_69 : decode cX10_init 69 = .ok (.aload_n 0, 1) := by decide +kernel
theorem dX10_init_70 : decode cX10_init 70 = .ok (.bipush 8, 2) := by decide +kernel
theorem dX10_init_72 : decode cX10_init 72 = .ok (.newarray .int, 2) := by decide +kernel
theorem dX10_init_74 : decode cX10_init 74 = .ok (.putfield 35, 3) := by decide +kernel
theorem dX10_init_77 : decode cX10_init 77 = .ok (.aload_n 0, 1) := by decide +kernel
theorem dX10_init_78 : decode cX10_init 78 = .ok (.bipush 8, 2) := by decide +kernel
theorem dX10_init_80 : decode cX10_init 80 = .ok (.newarray .int, 2) := by decide +kernel
theorem dX10_init_82 : decode cX10_init 82 = .ok (.putfield 38, 3) := by decide +kernel
theorem dX10_init_85 : decode cX10_init 85 = .ok (.aload_n 0, 1) := by decide +kernel
theorem dX10_init_86 : decode cX10_init 86 = .ok (.bipush 8, 2) := by decide +kernel
theorem dX10_init_88 : decode cX10_init 88 = .ok (.newarray .int, 2) := by decide +kernel
theorem dX10_init_90 : decode cX10_init 90 = .ok (.putfield 41, 3) := by decide +kernel
theorem dX10_init_93 : decode cX10_init 93 = .ok (.aload_n 0, 1) := by decide +kernel
theorem dX10_init_94 : decode cX10_init 94 = .ok (.bipush 8, 2) := by decide +kernel
theorem dX10_init_96 : decode cX10_init 96 = .ok (.newarray .int, 2) := by decide +kernel
theorem dX10_init_98 : decode cX10_init 98 = .ok (.putfield 44, 3) := by decide +kernel
theorem dX10_init_101 : decode cX10_init 101 = .ok (.aload_n 0, 1) := by decide +kernel
theorem dX10_init_102 : decode cX10_init 102 = .ok (.bipush 8, 2) := by decide +kernel
theorem dX10_init_104 : decode cX10_init 104 = .ok (.newarray .boolean, 2) := by decide +kernel
theorem dX10_init_106 : decode cX10_init 106 = .ok (.putfield 47, 3) := by decide +kernel
theorem dX10_init_109 : decode cX10_init 109 = .ok (.aload_n 0, 1) := by decide +kernel
theorem dX10_init_110 : decode cX10_init 110 = .ok (.bipush 8, 2) := by decide +kernel
theorem dX10_init_112 : decode cX10_init 112 = .ok (.newarray .int, 2) := by decide +kernel
theorem dX10_init_114 : decode cX10_init 114 = .ok (.putfield 50, 3) := by decide +kernel
theorem dX10_init_117 : decode cX10_init 117 = .ok (.aload_n 0, 1) := by decide +kernel
theorem dX10_init_118 : decode cX10_init 118 = .ok (.bipush 8, 2) := by decide +kernel
theorem dX10_init_120 : decode cX10_init 120 = .ok (.newarray .int, 2) := by decide +kernel
theorem dX10_init_122 : decode cX10_init 122 = .ok (.putfield 53, 3) := by decide +kernel
theorem dX10_init_125 : decode cX10_init 125 = .ok (.aload_n 0, 1) := by decide +kernel
theorem dX10_init_126 : decode cX10_init 126 = .ok (.bipush 8, 2) := by decide +kernel
theorem dX10_init_128 : decode cX10_init 128 = .ok (.newarray .int, 2) := by decide +kernel
theorem dX10_init_130 : decode cX10_init 130 = .ok (.putfield 56, 3) := by decide +kernel
theorem dX10_init_133 : decode cX10_init 133 = .ok (.aload_n 0, 1) := by decide +kernel
theorem dX10_init_134 : decode cX10_init 134 = .ok (.sipush 600, 3) := by decide +kernel
theorem dX10_init_137 : decode cX10_init 137 = .ok (.newarray .int, 2) := by decide +kernel
theorem dX10_init_139 : decode cX10_init 139 = .ok (.putfield 59, 3) := by decide +kernel
theorem dX10_init_142 : decode cX10_init 142 = .ok (.aload_n 0, 1) := by decide +kernel
theorem dX10_init_143 : decode cX10_init 143 = .ok (.bipush 100, 2) := by decide +kernel
theorem dX10_init_145 : decode cX10_init 145 = .ok (.newarray .int, 2) := by decide +kernel
theorem dX10_init_147 : decode cX10_init 147 = .ok (.putfield 62, 3) := by decide +kernel
theorem dX10_init_150 : decode cX10_init 150 = .ok (.aload_n 0, 1) := by decide +kernel
theorem dX10_init_151 : decode cX10_init 151 = .ok (.bipush 100, 2) := by decide +kernel
theorem dX10_init_153 : decode cX10_init 153 = .ok (.newarray .int, 2) := by decide +kernel
theorem dX10_init_155 : decode cX10_init 155 = .ok (.putfield 65, 3) := by decide +kernel
theorem dX10_init_158 : decode cX10_init 158 = .ok (.aload_n 0, 1) := by decide +kernel
theorem dX10_init_159 : decode cX10_init 159 = .ok (.bipush 100, 2) := by decide +kernel
theorem dX10_init_161 : decode cX10_init 161 = .ok (.newarray .int, 2) := by decide +kernel
theorem dX10_init_163 : decode cX10_init 163 = .ok (.putfield 68, 3) := by decide +kernel
theorem dX10_init_166 : decode cX10_init 166 = .ok (.aload_n 0, 1) := by decide +kernel
theorem dX10_init_167 : decode cX10_init 167 = .ok (.bipush 100, 2) := by decide +kernel
theorem dX10_init_169 : decode cX10_init 169 = .ok (.newarray .int, 2) := by decide +kernel
theorem dX10_init_171 : decode cX10_init 171 = .ok (.putfield 71, 3) := by decide +kernel
theorem dX10_init_174 : decode cX10_init 174 = .ok (.aload_n 0, 1) := by decide +kernel
theorem dX10_init_175 : decode cX10_init 175 = .ok (.bipush 100, 2) := by decide +kernel
theorem dX10_init_177 : decode cX10_init 177 = .ok (.newarray .boolean, 2) := by decide +kernel
theorem dX10_init_179 : decode cX10_init 179 = .ok (.putfield 74, 3) := by decide +kernel
theorem dX10_init_182 : decode cX10_init 182 = .ok (.aload_n 0, 1) := by decide +kernel
theorem dX10_init_183 : decode cX10_init 183 = .ok (.bipush 6, 2) := by decide +kernel
theorem dX10_init_185 : decode cX10_init 185 = .ok (.newarray .int, 2) := by decide +kernel
theorem dX10_init_187 : decode cX10_init 187 = .ok (.putfield 77, 3) := by decide +kernel
theorem dX10_init_190 : decode cX10_init 190 = .ok (.aload_n 0, 1) := by decide +kernel
theorem dX10_init_191 : decode cX10_init 191 = .ok (.bipush 100, 2) := by decide +kernel
theorem dX10_init_193 : decode cX10_init 193 = .ok (.newarray .boolean, 2) := by decide +kernel
theorem dX10_init_195 : decode cX10_init 195 = .ok (.putfield 80, 3) := by decide +kernel
theorem dX10_init_198 : decode cX10_init 198 = .ok (.aload_n 0, 1) := by decide +kernel
theorem dX10_init_199 : decode cX10_init 199 = .ok (.sipush 2400, 3) := by decide +kernel
theorem dX10_init_202 : decode cX10_init 202 = .ok (.newarray .int, 2) := by decide +kernel
theorem dX10_init_204 : decode cX10_init 204 = .ok (.putfield 83, 3) := by decide +kernel
theorem dX10_init_207 : decode cX10_init 207 = .ok (.aload_n 0, 1) := by decide +kernel
theorem dX10_init_208 : decode cX10_init 208 = .ok (.sipush 800, 3) := by decide +kernel
theorem dX10_init_211 : decode cX10_init 211 = .ok (.newarray .int, 2) := by decide +kernel
theorem dX10_init_213 : decode cX10_init 213 = .ok (.putfield 86, 3) := by decide +kernel
theorem dX10_init_216 : decode cX10_init 216 = .ok (.aload_n 0, 1) := by decide +kernel
theorem dX10_init_217 : decode cX10_init 217 = .ok (.bipush 24, 2) := by decide +kernel
theorem dX10_init_219 : decode cX10_init 219 = .ok (.newarray .int, 2) := by decide +kernel
theorem dX10_init_221 : decode cX10_init 221 = .ok (.putfield 89, 3) := by decide +kernel
theorem dX10_init_224 : decode cX10_init 224 = .ok (.aload_n 0, 1) := by decide +kernel
theorem dX10_init_225 : decode cX10_init 225 = .ok (.bipush 24, 2) := by decide +kernel
theorem dX10_init_227 : decode cX10_init 227 = .ok (.newarray .int, 2) := by decide +kernel
theorem dX10_init_229 : decode cX10_init 229 = .ok (.putfield 92, 3) := by decide +kernel
theorem dX10_init_232 : decode cX10_init 232 = .ok (.aload_n 0, 1) := by decide +kernel
theorem dX10_init_233 : decode cX10_init 233 = .ok (.bipush 8, 2) := by decide +kernel
theorem dX10_init_235 : decode cX10_init 235 = .ok (.newarray .int, 2) := by decide +kernel
theorem dX10_init_237 : decode cX10_init 237 = .ok (.putfield 95, 3) := by decide +kernel
theorem dX10_init_240 : decode cX10_init 240 = .ok (.return_, 1) := by decide +kernel
theorem ac_int : Cond.arrayClass .int ∈ wall := wall_of 60 (by decide +kernel) rfl
theorem ac_boolean : Cond.arrayClass .boolean ∈ wall := wall_of 61 (by decide +kernel) rfl
theorem ac_char : Cond.arrayClass .char ∈ wall := wall_of 78 (by decide +kernel) rfl
theorem ac_long : Cond.arrayClass .long ∈ wall := wall_of 1330 (by decide +kernel) rfl
theorem oi_inst : Cond.instanceMethod Lib.objectInit ∈ wall := wall_of 31 (by decide +kernel) rfl
theorem oi_code : Cond.code Lib.objectInit ⟨#[0xb1]⟩ 1 none ∈ wall := wall_of 32 (by decide +kernel) rfl
theorem oi_RX4 : Cond.methodLink RX4 3 Lib.objectInit ∈ wall := wall_of 38 (by decide +kernel) rfl
theorem pf_X4_init_9_X4 : Cond.fieldLink RX4 9 "Ballotscript$Rolls" (TX4 0).2.1 (TX4 0).2.2.1 ∈ wall := wall_of 39 (by decide +kernel) rfl
theorem pf_X4_init_17_X4 : Cond.fieldLink RX4 15 "Ballotscript$Rolls" (TX4 1).2.1 (TX4 1).2.2.1 ∈ wall := wall_of 40 (by decide +kernel) rfl
theorem pf_X4_init_25_X4 : Cond.fieldLink RX4 18 "Ballotscript$Rolls" (TX4 2).2.1 (TX4 2).2.2.1 ∈ wall := wall_of 41 (by decide +kernel) rfl
theorem pf_X4_init_33_X4 : Cond.fieldLink RX4 21 "Ballotscript$Rolls" (TX4 3).2.1 (TX4 3).2.2.1 ∈ wall := wall_of 42 (by decide +kernel) rfl
theorem pf_X4_init_41_X4 : Cond.fieldLink RX4 24 "Ballotscript$Rolls" (TX4 4).2.1 (TX4 4).2.2.1 ∈ wall := wall_of 43 (by decide +kernel) rfl
theorem oi_RX7 : Cond.methodLink RX7 3 Lib.objectInit ∈ wall := wall_of 67 (by decide +kernel) rfl
theorem pf_X7_init_9_X7 : Cond.fieldLink RX7 9 "Ballotscript$Text" (TX7 0).2.1 (TX7 0).2.2.1 ∈ wall := wall_of 68 (by decide +kernel) rfl
theorem oi_RX6 : Cond.methodLink RX6 3 Lib.objectInit ∈ wall := wall_of 88 (by decide +kernel) rfl
theorem pf_X6_init_9_X6 : Cond.fieldLink RX6 9 "Ballotscript$Slip" (TX6 0).2.1 (TX6 0).2.2.1 ∈ wall := wall_of 89 (by decide +kernel) rfl
theorem oi_RX5 : Cond.methodLink RX5 3 Lib.objectInit ∈ wall := wall_of 247 (by decide +kernel) rfl
theorem pf_X5_init_9_X5 : Cond.fieldLink RX5 9 "Ballotscript$Rule" (TX5 0).2.1 (TX5 0).2.2.1 ∈ wall := wall_of 248 (by decide +kernel) rfl
theorem pf_X5_init_17_X5 : Cond.fieldLink RX5 15 "Ballotscript$Rule" (TX5 1).2.1 (TX5 1).2.2.1 ∈ wall := wall_of 250 (by decide +kernel) rfl
theorem pf_X5_init_25_X5 : Cond.fieldLink RX5 18 "Ballotscript$Rule" (TX5 2).2.1 (TX5 2).2.2.1 ∈ wall := wall_of 252 (by decide +kernel) rfl
theorem oi_RX8 : Cond.methodLink RX8 3 Lib.objectInit ∈ wall := wall_of 277 (by decide +kernel) rfl
theorem pf_X8_init_6_X8 : Cond.fieldLink RX8 9 "Ballotscript$Vote" (TX8 7).2.1 (TX8 7).2.2.1 ∈ wall := wall_of 289 (by decide +kernel) rfl
theorem oi_RX0 : Cond.methodLink RX0 3 Lib.objectInit ∈ wall := wall_of 104 (by decide +kernel) rfl
theorem pf_X0_init_9_X0 : Cond.fieldLink RX0 9 "Ballotscript$Box" (TX0 1).2.1 (TX0 1).2.2.1 ∈ wall := wall_of 106 (by decide +kernel) rfl
theorem pf_X0_init_17_X0 : Cond.fieldLink RX0 15 "Ballotscript$Box" (TX0 2).2.1 (TX0 2).2.2.1 ∈ wall := wall_of 108 (by decide +kernel) rfl
theorem pf_X0_init_25_X0 : Cond.fieldLink RX0 18 "Ballotscript$Box" (TX0 3).2.1 (TX0 3).2.2.1 ∈ wall := wall_of 109 (by decide +kernel) rfl
theorem pf_X0_init_33_X0 : Cond.fieldLink RX0 21 "Ballotscript$Box" (TX0 4).2.1 (TX0 4).2.2.1 ∈ wall := wall_of 110 (by decide +kernel) rfl
theorem pf_X0_init_41_X0 : Cond.fieldLink RX0 24 "Ballotscript$Box" (TX0 5).2.1 (TX0 5).2.2.1 ∈ wall := wall_of 111 (by decide +kernel) rfl
theorem pf_X0_init_50_X0 : Cond.fieldLink RX0 27 "Ballotscript$Box" (TX0 6).2.1 (TX0 6).2.2.1 ∈ wall := wall_of 115 (by decide +kernel) rfl
theorem pf_X0_init_58_X0 : Cond.fieldLink RX0 30 "Ballotscript$Box" (TX0 7).2.1 (TX0 7).2.2.1 ∈ wall := wall_of 116 (by decide +kernel) rfl
theorem pf_X0_init_66_X0 : Cond.fieldLink RX0 34 "Ballotscript$Box" (TX0 9).2.1 (TX0 9).2.2.1 ∈ wall := wall_of 120 (by decide +kernel) rfl
theorem pf_X0_init_71_X0 : Cond.fieldLink RX0 37 "Ballotscript$Box" (TX0 0).2.1 (TX0 0).2.2.1 ∈ wall := wall_of 105 (by decide +kernel) rfl
theorem oi_RX1 : Cond.methodLink RX1 3 Lib.objectInit ∈ wall := wall_of 159 (by decide +kernel) rfl
theorem pf_X1_init_9_X3 : Cond.fieldLink RX1 9 "Ballotscript$Count" (TX3 1).2.1 (TX3 1).2.2.1 ∈ wall := wall_of 169 (by decide +kernel) rfl
theorem pf_X1_init_14_X3 : Cond.fieldLink RX1 15 "Ballotscript$Count" (TX3 0).2.1 (TX3 0).2.2.1 ∈ wall := wall_of 164 (by decide +kernel) rfl
theorem ls_RX3_3 : Cond.methodLink RX3 3 yX1_init ∈ wall := wall_of 156 (by decide +kernel) rfl
theorem ci_X1_init : Cond.instanceMethod yX1_init ∈ wall ∧ Cond.initialized yX1_init.cls ∈ wall ∧ Cond.code yX1_init cX1_init 2 none ∈ wall := ⟨wall_of 157 (by decide +kernel) rfl, wall_of 6 (by decide +kernel) rfl, wall_of 158 (by decide +kernel) rfl⟩
theorem pf_X3_init_11_X3 : Cond.fieldLink RX3 9 "Ballotscript$MachineCount" (TX3 8).2.1 (TX3 8).2.2.1 ∈ wall := wall_of 160 (by decide +kernel) rfl
theorem pf_X3_init_20_X3 : Cond.fieldLink RX3 15 "Ballotscript$MachineCount" (TX3 9).2.1 (TX3 9).2.2.1 ∈ wall := wall_of 161 (by decide +kernel) rfl
theorem pf_X3_init_29_X3 : Cond.fieldLink RX3 18 "Ballotscript$MachineCount" (TX3 10).2.1 (TX3 10).2.2.1 ∈ wall := wall_of 162 (by decide +kernel) rfl
theorem pf_X3_init_37_X3 : Cond.fieldLink RX3 21 "Ballotscript$MachineCount" (TX3 11).2.1 (TX3 11).2.2.1 ∈ wall := wall_of 163 (by decide +kernel) rfl
theorem pf_X1_init_9_X2 : Cond.fieldLink RX1 9 "Ballotscript$Count" (TX2 1).2.1 (TX2 1).2.2.1 ∈ wall := wall_of 169 (by decide +kernel) rfl
theorem pf_X1_init_14_X2 : Cond.fieldLink RX1 15 "Ballotscript$Count" (TX2 0).2.1 (TX2 0).2.2.1 ∈ wall := wall_of 164 (by decide +kernel) rfl
theorem ls_RX2_3 : Cond.methodLink RX2 3 yX1_init ∈ wall := wall_of 227 (by decide +kernel) rfl
theorem pf_X2_init_11_X2 : Cond.fieldLink RX2 9 "Ballotscript$HandCount" (TX2 8).2.1 (TX2 8).2.2.1 ∈ wall := wall_of 228 (by decide +kernel) rfl
theorem pf_X2_init_20_X2 : Cond.fieldLink RX2 15 "Ballotscript$HandCount" (TX2 9).2.1 (TX2 9).2.2.1 ∈ wall := wall_of 229 (by decide +kernel) rfl
theorem oi_RX10 : Cond.methodLink RX10 1 Lib.objectInit ∈ wall := wall_of 978 (by decide +kernel) rfl
theorem pf_X10_init_9_X10 : Cond.fieldLink RX10 7 "BallotscriptModel" (TX10 1).2.1 (TX10 1).2.2.1 ∈ wall := wall_of 980 (by decide +kernel) rfl
theorem pf_X10_init_17_X10 : Cond.fieldLink RX10 13 "BallotscriptModel" (TX10 2).2.1 (TX10 2).2.2.1 ∈ wall := wall_of 981 (by decide +kernel) rfl
theorem pf_X10_init_25_X10 : Cond.fieldLink RX10 16 "BallotscriptModel" (TX10 3).2.1 (TX10 3).2.2.1 ∈ wall := wall_of 982 (by decide +kernel) rfl
theorem pf_X10_init_33_X10 : Cond.fieldLink RX10 19 "BallotscriptModel" (TX10 4).2.1 (TX10 4).2.2.1 ∈ wall := wall_of 983 (by decide +kernel) rfl
theorem pf_X10_init_41_X10 : Cond.fieldLink RX10 22 "BallotscriptModel" (TX10 5).2.1 (TX10 5).2.2.1 ∈ wall := wall_of 984 (by decide +kernel) rfl
theorem pf_X10_init_49_X10 : Cond.fieldLink RX10 26 "BallotscriptModel" (TX10 7).2.1 (TX10 7).2.2.1 ∈ wall := wall_of 986 (by decide +kernel) rfl
theorem pf_X10_init_58_X10 : Cond.fieldLink RX10 29 "BallotscriptModel" (TX10 9).2.1 (TX10 9).2.2.1 ∈ wall := wall_of 988 (by decide +kernel) rfl
theorem pf_X10_init_66_X10 : Cond.fieldLink RX10 32 "BallotscriptModel" (TX10 10).2.1 (TX10 10).2.2.1 ∈ wall := wall_of 989 (by decide +kernel) rfl
theorem pf_X10_init_74_X10 : Cond.fieldLink RX10 35 "BallotscriptModel" (TX10 12).2.1 (TX10 12).2.2.1 ∈ wall := wall_of 991 (by decide +kernel) rfl
theorem pf_X10_init_82_X10 : Cond.fieldLink RX10 38 "BallotscriptModel" (TX10 13).2.1 (TX10 13).2.2.1 ∈ wall := wall_of 992 (by decide +kernel) rfl
theorem pf_X10_init_90_X10 : Cond.fieldLink RX10 41 "BallotscriptModel" (TX10 14).2.1 (TX10 14).2.2.1 ∈ wall := wall_of 993 (by decide +kernel) rfl
theorem pf_X10_init_98_X10 : Cond.fieldLink RX10 44 "BallotscriptModel" (TX10 15).2.1 (TX10 15).2.2.1 ∈ wall := wall_of 994 (by decide +kernel) rfl
theorem pf_X10_init_106_X10 : Cond.fieldLink RX10 47 "BallotscriptModel" (TX10 16).2.1 (TX10 16).2.2.1 ∈ wall := wall_of 995 (by decide +kernel) rfl
theorem pf_X10_init_114_X10 : Cond.fieldLink RX10 50 "BallotscriptModel" (TX10 17).2.1 (TX10 17).2.2.1 ∈ wall := wall_of 996 (by decide +kernel) rfl
theorem pf_X10_init_122_X10 : Cond.fieldLink RX10 53 "BallotscriptModel" (TX10 18).2.1 (TX10 18).2.2.1 ∈ wall := wall_of 997 (by decide +kernel) rfl
theorem pf_X10_init_130_X10 : Cond.fieldLink RX10 56 "BallotscriptModel" (TX10 19).2.1 (TX10 19).2.2.1 ∈ wall := wall_of 998 (by decide +kernel) rfl
theorem pf_X10_init_139_X10 : Cond.fieldLink RX10 59 "BallotscriptModel" (TX10 21).2.1 (TX10 21).2.2.1 ∈ wall := wall_of 1000 (by decide +kernel) rfl
theorem pf_X10_init_147_X10 : Cond.fieldLink RX10 62 "BallotscriptModel" (TX10 22).2.1 (TX10 22).2.2.1 ∈ wall := wall_of 1001 (by decide +kernel) rfl
theorem pf_X10_init_155_X10 : Cond.fieldLink RX10 65 "BallotscriptModel" (TX10 23).2.1 (TX10 23).2.2.1 ∈ wall := wall_of 1002 (by decide +kernel) rfl
theorem pf_X10_init_163_X10 : Cond.fieldLink RX10 68 "BallotscriptModel" (TX10 24).2.1 (TX10 24).2.2.1 ∈ wall := wall_of 1003 (by decide +kernel) rfl
theorem pf_X10_init_171_X10 : Cond.fieldLink RX10 71 "BallotscriptModel" (TX10 25).2.1 (TX10 25).2.2.1 ∈ wall := wall_of 1004 (by decide +kernel) rfl
theorem pf_X10_init_179_X10 : Cond.fieldLink RX10 74 "BallotscriptModel" (TX10 26).2.1 (TX10 26).2.2.1 ∈ wall := wall_of 1005 (by decide +kernel) rfl
theorem pf_X10_init_187_X10 : Cond.fieldLink RX10 77 "BallotscriptModel" (TX10 28).2.1 (TX10 28).2.2.1 ∈ wall := wall_of 1007 (by decide +kernel) rfl
theorem pf_X10_init_195_X10 : Cond.fieldLink RX10 80 "BallotscriptModel" (TX10 30).2.1 (TX10 30).2.2.1 ∈ wall := wall_of 1009 (by decide +kernel) rfl
theorem pf_X10_init_204_X10 : Cond.fieldLink RX10 83 "BallotscriptModel" (TX10 31).2.1 (TX10 31).2.2.1 ∈ wall := wall_of 1010 (by decide +kernel) rfl
theorem pf_X10_init_213_X10 : Cond.fieldLink RX10 86 "BallotscriptModel" (TX10 34).2.1 (TX10 34).2.2.1 ∈ wall := wall_of 1013 (by decide +kernel) rfl
theorem pf_X10_init_221_X10 : Cond.fieldLink RX10 89 "BallotscriptModel" (TX10 41).2.1 (TX10 41).2.2.1 ∈ wall := wall_of 1020 (by decide +kernel) rfl
theorem pf_X10_init_229_X10 : Cond.fieldLink RX10 92 "BallotscriptModel" (TX10 42).2.1 (TX10 42).2.2.1 ∈ wall := wall_of 1021 (by decide +kernel) rfl
theorem pf_X10_init_237_X10 : Cond.fieldLink RX10 95 "BallotscriptModel" (TX10 44).2.1 (TX10 44).2.2.1 ∈ wall := wall_of 1023 (by decide +kernel) rfl
