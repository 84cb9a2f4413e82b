/-! the law's own instructions -/
theorem dL_cell_0 : decode cL_cell 0 = .ok (.iload_n 1, 1) := by decide +kernel
theorem dL_cell_1 : decode cL_cell 1 = .ok (.aload_n 0, 1) := by decide +kernel
theorem dL_cell_2 : decode cL_cell 2 = .ok (.arraylength, 1) := by decide +kernel
theorem dL_cell_3 : decode cL_cell 3 = .ok (.if_icmp .ge 9, 3) := by decide +kernel
theorem dL_cell_6 : decode cL_cell 6 = .ok (.aload_n 0, 1) := by decide +kernel
theorem dL_cell_7 : decode cL_cell 7 = .ok (.iload_n 1, 1) := by decide +kernel
theorem dL_cell_8 : decode cL_cell 8 = .ok (.iaload, 1) := by decide +kernel
theorem dL_cell_9 : decode cL_cell 9 = .ok (.goto 15, 3) := by decide +kernel
theorem dL_cell_12 : decode cL_cell 12 = .ok (.ldc 7, 2) := by decide +kernel
theorem dL_cell_14 : decode cL_cell 14 = .ok (.iload_n 1, 1) := by decide +kernel
theorem dL_cell_15 : decode cL_cell 15 = .ok (.sipush 6211, 3) := by decide +kernel
theorem dL_cell_18 : decode cL_cell 18 = .ok (.irem, 1) := by decide +kernel
theorem dL_cell_19 : decode cL_cell 19 = .ok (.imul, 1) := by decide +kernel
theorem dL_cell_20 : decode cL_cell 20 = .ok (.sipush 3109, 3) := by decide +kernel
theorem dL_cell_23 : decode cL_cell 23 = .ok (.iadd, 1) := by decide +kernel
theorem dL_cell_24 : decode cL_cell 24 = .ok (.ldc 8, 2) := by decide +kernel
theorem dL_cell_26 : decode cL_cell 26 = .ok (.iand, 1) := by decide +kernel
theorem dL_cell_27 : decode cL_cell 27 = .ok (.ireturn, 1) := by decide +kernel
theorem dL_sign_0 : decode cL_sign 0 = .ok (.iload_n 0, 1) := by decide +kernel
theorem dL_sign_1 : decode cL_sign 1 = .ok (.bipush 20, 2) := by decide +kernel
theorem dL_sign_3 : decode cL_sign 3 = .ok (.irem, 1) := by decide +kernel
theorem dL_sign_4 : decode cL_sign 4 = .ok (.istore_n 1, 1) := by decide +kernel
theorem dL_sign_5 : decode cL_sign 5 = .ok (.iload_n 1, 1) := by decide +kernel
theorem dL_sign_6 : decode cL_sign 6 = .ok (.ifCond .ne 8, 3) := by decide +kernel
theorem dL_sign_9 : decode cL_sign 9 = .ok (.bipush 116, 2) := by decide +kernel
theorem dL_sign_11 : decode cL_sign 11 = .ok (.goto 76, 3) := by decide +kernel
theorem dL_sign_14 : decode cL_sign 14 = .ok (.iload_n 1, 1) := by decide +kernel
theorem dL_sign_15 : decode cL_sign 15 = .ok (.iconst 1, 1) := by decide +kernel
theorem dL_sign_16 : decode cL_sign 16 = .ok (.if_icmp .ne 8, 3) := by decide +kernel
theorem dL_sign_19 : decode cL_sign 19 = .ok (.bipush 98, 2) := by decide +kernel
theorem dL_sign_21 : decode cL_sign 21 = .ok (.goto 66, 3) := by decide +kernel
theorem dL_sign_24 : decode cL_sign 24 = .ok (.iload_n 1, 1) := by decide +kernel
theorem dL_sign_25 : decode cL_sign 25 = .ok (.iconst 2, 1) := by decide +kernel
theorem dL_sign_26 : decode cL_sign 26 = .ok (.if_icmp .ne 8, 3) := by decide +kernel
theorem dL_sign_29 : decode cL_sign 29 = .ok (.bipush 97, 2) := by decide +kernel
theorem dL_sign_31 : decode cL_sign 31 = .ok (.goto 56, 3) := by decide +kernel
theorem dL_sign_34 : decode cL_sign 34 = .ok (.iload_n 1, 1) := by decide +kernel
theorem dL_sign_35 : decode cL_sign 35 = .ok (.iconst 3, 1) := by decide +kernel
theorem dL_sign_36 : decode cL_sign 36 = .ok (.if_icmp .ne 8, 3) := by decide +kernel
theorem dL_sign_39 : decode cL_sign 39 = .ok (.bipush 109, 2) := by decide +kernel
theorem dL_sign_41 : decode cL_sign 41 = .ok (.goto 46, 3) := by decide +kernel
theorem dL_sign_44 : decode cL_sign 44 = .ok (.iload_n 1, 1) := by decide +kernel
theorem dL_sign_45 : decode cL_sign 45 = .ok (.iconst 4, 1) := by decide +kernel
theorem dL_sign_46 : decode cL_sign 46 = .ok (.if_icmp .ne 8, 3) := by decide +kernel
theorem dL_sign_49 : decode cL_sign 49 = .ok (.bipush 120, 2) := by decide +kernel
theorem dL_sign_51 : decode cL_sign 51 = .ok (.goto 36, 3) := by decide +kernel
theorem dL_sign_54 : decode cL_sign 54 = .ok (.iload_n 1, 1) := by decide +kernel
theorem dL_sign_55 : decode cL_sign 55 = .ok (.iconst 5, 1) := by decide +kernel
theorem dL_sign_56 : decode cL_sign 56 = .ok (.if_icmp .ne 8, 3) := by decide +kernel
theorem dL_sign_59 : decode cL_sign 59 = .ok (.bipush 114, 2) := by decide +kernel
theorem dL_sign_61 : decode cL_sign 61 = .ok (.goto 26, 3) := by decide +kernel
theorem dL_sign_64 : decode cL_sign 64 = .ok (.iload_n 1, 1) := by decide +kernel
theorem dL_sign_65 : decode cL_sign 65 = .ok (.bipush 6, 2) := by decide +kernel
theorem dL_sign_67 : decode cL_sign 67 = .ok (.if_icmp .ne 8, 3) := by decide +kernel
theorem dL_sign_70 : decode cL_sign 70 = .ok (.bipush 113, 2) := by decide +kernel
theorem dL_sign_72 : decode cL_sign 72 = .ok (.goto 15, 3) := by decide +kernel
theorem dL_sign_75 : decode cL_sign 75 = .ok (.iload_n 1, 1) := by decide +kernel
theorem dL_sign_76 : decode cL_sign 76 = .ok (.bipush 7, 2) := by decide +kernel
theorem dL_sign_78 : decode cL_sign 78 = .ok (.if_icmp .ne 8, 3) := by decide +kernel
theorem dL_sign_81 : decode cL_sign 81 = .ok (.bipush 104, 2) := by decide +kernel
theorem dL_sign_83 : decode cL_sign 83 = .ok (.goto 4, 3) := by decide +kernel
theorem dL_sign_86 : decode cL_sign 86 = .ok (.iconst 0, 1) := by decide +kernel
theorem dL_sign_87 : decode cL_sign 87 = .ok (.istore_n 2, 1) := by decide +kernel
theorem dL_sign_88 : decode cL_sign 88 = .ok (.iload_n 2, 1) := by decide +kernel
theorem dL_sign_89 : decode cL_sign 89 = .ok (.ifCond .le 7, 3) := by decide +kernel
theorem dL_sign_92 : decode cL_sign 92 = .ok (.iload_n 2, 1) := by decide +kernel
theorem dL_sign_93 : decode cL_sign 93 = .ok (.goto 68, 3) := by decide +kernel
theorem dL_sign_96 : decode cL_sign 96 = .ok (.iload_n 1, 1) := by decide +kernel
theorem dL_sign_97 : decode cL_sign 97 = .ok (.bipush 14, 2) := by decide +kernel
theorem dL_sign_99 : decode cL_sign 99 = .ok (.if_icmp .ge 8, 3) := by decide +kernel
theorem dL_sign_102 : decode cL_sign 102 = .ok (.bipush 59, 2) := by decide +kernel
theorem dL_sign_104 : decode cL_sign 104 = .ok (.goto 57, 3) := by decide +kernel
theorem dL_sign_107 : decode cL_sign 107 = .ok (.iload_n 1, 1) := by decide +kernel
theorem dL_sign_108 : decode cL_sign 108 = .ok (.bipush 14, 2) := by decide +kernel
theorem dL_sign_110 : decode cL_sign 110 = .ok (.if_icmp .ne 8, 3) := by decide +kernel
theorem dL_sign_113 : decode cL_sign 113 = .ok (.bipush 40, 2) := by decide +kernel
theorem dL_sign_115 : decode cL_sign 115 = .ok (.goto 46, 3) := by decide +kernel
theorem dL_sign_118 : decode cL_sign 118 = .ok (.iload_n 1, 1) := by decide +kernel
theorem dL_sign_119 : decode cL_sign 119 = .ok (.bipush 15, 2) := by decide +kernel
theorem dL_sign_121 : decode cL_sign 121 = .ok (.if_icmp .ne 8, 3) := by decide +kernel
theorem dL_sign_124 : decode cL_sign 124 = .ok (.bipush 41, 2) := by decide +kernel
theorem dL_sign_126 : decode cL_sign 126 = .ok (.goto 35, 3) := by decide +kernel
theorem dL_sign_129 : decode cL_sign 129 = .ok (.iload_n 1, 1) := by decide +kernel
theorem dL_sign_130 : decode cL_sign 130 = .ok (.bipush 16, 2) := by decide +kernel
theorem dL_sign_132 : decode cL_sign 132 = .ok (.if_icmp .ne 8, 3) := by decide +kernel
theorem dL_sign_135 : decode cL_sign 135 = .ok (.bipush 101, 2) := by decide +kernel
theorem dL_sign_137 : decode cL_sign 137 = .ok (.goto 24, 3) := by decide +kernel
theorem dL_sign_140 : decode cL_sign 140 = .ok (.iload_n 1, 1) := by decide +kernel
theorem dL_sign_141 : decode cL_sign 141 = .ok (.bipush 17, 2) := by decide +kernel
theorem dL_sign_143 : decode cL_sign 143 = .ok (.if_icmp .ne 8, 3) := by decide +kernel
theorem dL_sign_146 : decode cL_sign 146 = .ok (.bipush 107, 2) := by decide +kernel
theorem dL_sign_148 : decode cL_sign 148 = .ok (.goto 13, 3) := by decide +kernel
theorem dL_sign_151 : decode cL_sign 151 = .ok (.bipush 48, 2) := by decide +kernel
theorem dL_sign_153 : decode cL_sign 153 = .ok (.iload_n 0, 1) := by decide +kernel
theorem dL_sign_154 : decode cL_sign 154 = .ok (.bipush 20, 2) := by decide +kernel
theorem dL_sign_156 : decode cL_sign 156 = .ok (.idiv, 1) := by decide +kernel
theorem dL_sign_157 : decode cL_sign 157 = .ok (.bipush 10, 2) := by decide +kernel
theorem dL_sign_159 : decode cL_sign 159 = .ok (.irem, 1) := by decide +kernel
theorem dL_sign_160 : decode cL_sign 160 = .ok (.iadd, 1) := by decide +kernel
theorem dL_sign_161 : decode cL_sign 161 = .ok (.ireturn, 1) := by decide +kernel
theorem dL_size_0 : decode cL_size 0 = .ok (.iconst 0, 1) := by decide +kernel
theorem dL_size_1 : decode cL_size 1 = .ok (.istore_n 1, 1) := by decide +kernel
theorem dL_size_2 : decode cL_size 2 = .ok (.iconst 0, 1) := by decide +kernel
theorem dL_size_3 : decode cL_size 3 = .ok (.istore_n 2, 1) := by decide +kernel
theorem dL_size_4 : decode cL_size 4 = .ok (.iload_n 2, 1) := by decide +kernel
theorem dL_size_5 : decode cL_size 5 = .ok (.bipush 6, 2) := by decide +kernel
theorem dL_size_7 : decode cL_size 7 = .ok (.if_icmp .ge 17, 3) := by decide +kernel
theorem dL_size_10 : decode cL_size 10 = .ok (.iload_n 1, 1) := by decide +kernel
theorem dL_size_11 : decode cL_size 11 = .ok (.iload_n 0, 1) := by decide +kernel
theorem dL_size_12 : decode cL_size 12 = .ok (.iload_n 2, 1) := by decide +kernel
theorem dL_size_13 : decode cL_size 13 = .ok (.ishr, 1) := by decide +kernel
theorem dL_size_14 : decode cL_size 14 = .ok (.iconst 1, 1) := by decide +kernel
theorem dL_size_15 : decode cL_size 15 = .ok (.iand, 1) := by decide +kernel
theorem dL_size_16 : decode cL_size 16 = .ok (.iadd, 1) := by decide +kernel
theorem dL_size_17 : decode cL_size 17 = .ok (.istore_n 1, 1) := by decide +kernel
theorem dL_size_18 : decode cL_size 18 = .ok (.iinc 2 1, 3) := by decide +kernel
theorem dL_size_21 : decode cL_size 21 = .ok (.goto (-17), 3) := by decide +kernel
theorem dL_size_24 : decode cL_size 24 = .ok (.iload_n 1, 1) := by decide +kernel
theorem dL_size_25 : decode cL_size 25 = .ok (.ireturn, 1) := by decide +kernel
theorem dL_lays_0 : decode cL_lays 0 = .ok (.iconst 0, 1) := by decide +kernel
theorem dL_lays_1 : decode cL_lays 1 = .ok (.istore_n 2, 1) := by decide +kernel
theorem dL_lays_2 : decode cL_lays 2 = .ok (.iload_n 1, 1) := by decide +kernel
theorem dL_lays_3 : decode cL_lays 3 = .ok (.istore_n 3, 1) := by decide +kernel
theorem dL_lays_4 : decode cL_lays 4 = .ok (.iconst 0, 1) := by decide +kernel
theorem dL_lays_5 : decode cL_lays 5 = .ok (.istore 4, 2) := by decide +kernel
theorem dL_lays_7 : decode cL_lays 7 = .ok (.iconst 0, 1) := by decide +kernel
theorem dL_lays_8 : decode cL_lays 8 = .ok (.istore 5, 2) := by decide +kernel
theorem dL_lays_10 : decode cL_lays 10 = .ok (.iload 5, 2) := by decide +kernel
theorem dL_lays_12 : decode cL_lays 12 = .ok (.iconst 5, 1) := by decide +kernel
theorem dL_lays_13 : decode cL_lays 13 = .ok (.if_icmp .ge 157, 3) := by decide +kernel
theorem dL_lays_16 : decode cL_lays 16 = .ok (.iload_n 3, 1) := by decide +kernel
theorem dL_lays_17 : decode cL_lays 17 = .ok (.iconst 5, 1) := by decide +kernel
theorem dL_lays_18 : decode cL_lays 18 = .ok (.irem, 1) := by decide +kernel
theorem dL_lays_19 : decode cL_lays 19 = .ok (.ifCond .ne 25, 3) := by decide +kernel
theorem dL_lays_22 : decode cL_lays 22 = .ok (.iload 4, 2) := by decide +kernel
theorem dL_lays_24 : decode cL_lays 24 = .ok (.ifCond .ne 20, 3) := by decide +kernel
theorem dL_lays_27 : decode cL_lays 27 = .ok (.iload 5, 2) := by decide +kernel
theorem dL_lays_29 : decode cL_lays 29 = .ok (.iconst 4, 1) := by decide +kernel
theorem dL_lays_30 : decode cL_lays 30 = .ok (.if_icmp .ge 14, 3) := by decide +kernel
theorem dL_lays_33 : decode cL_lays 33 = .ok (.aload_n 0, 1) := by decide +kernel
theorem dL_lays_34 : decode cL_lays 34 = .ok (.iload_n 2, 1) := by decide +kernel
theorem dL_lays_35 : decode cL_lays 35 = .ok (.bipush 40, 2) := by decide +kernel
theorem dL_lays_37 : decode cL_lays 37 = .ok (.iastore, 1) := by decide +kernel
theorem dL_lays_38 : decode cL_lays 38 = .ok (.iinc 2 1, 3) := by decide +kernel
theorem dL_lays_41 : decode cL_lays 41 = .ok (.iconst 1, 1) := by decide +kernel
theorem dL_lays_42 : decode cL_lays 42 = .ok (.istore 4, 2) := by decide +kernel
theorem dL_lays_44 : decode cL_lays 44 = .ok (.iload_n 3, 1) := by decide +kernel
theorem dL_lays_45 : decode cL_lays 45 = .ok (.iconst 5, 1) := by decide +kernel
theorem dL_lays_46 : decode cL_lays 46 = .ok (.idiv, 1) := by decide +kernel
theorem dL_lays_47 : decode cL_lays 47 = .ok (.bipush 9, 2) := by decide +kernel
theorem dL_lays_49 : decode cL_lays 49 = .ok (.irem, 1) := by decide +kernel
theorem dL_lays_50 : decode cL_lays 50 = .ok (.istore 6, 2) := by decide +kernel
theorem dL_lays_52 : decode cL_lays 52 = .ok (.aload_n 0, 1) := by decide +kernel
theorem dL_lays_53 : decode cL_lays 53 = .ok (.iload_n 2, 1) := by decide +kernel
theorem dL_lays_54 : decode cL_lays 54 = .ok (.iload 6, 2) := by decide +kernel
theorem dL_lays_56 : decode cL_lays 56 = .ok (.iconst 3, 1) := by decide +kernel
theorem dL_lays_57 : decode cL_lays 57 = .ok (.if_icmp .ge 8, 3) := by decide +kernel
theorem dL_lays_60 : decode cL_lays 60 = .ok (.bipush 116, 2) := by decide +kernel
theorem dL_lays_62 : decode cL_lays 62 = .ok (.goto 62, 3) := by decide +kernel
theorem dL_lays_65 : decode cL_lays 65 = .ok (.iload 6, 2) := by decide +kernel
theorem dL_lays_67 : decode cL_lays 67 = .ok (.iconst 3, 1) := by decide +kernel
theorem dL_lays_68 : decode cL_lays 68 = .ok (.if_icmp .ne 8, 3) := by decide +kernel
theorem dL_lays_71 : decode cL_lays 71 = .ok (.bipush 98, 2) := by decide +kernel
theorem dL_lays_73 : decode cL_lays 73 = .ok (.goto 51, 3) := by decide +kernel
theorem dL_lays_76 : decode cL_lays 76 = .ok (.iload 6, 2) := by decide +kernel
theorem dL_lays_78 : decode cL_lays 78 = .ok (.iconst 4, 1) := by decide +kernel
theorem dL_lays_79 : decode cL_lays 79 = .ok (.if_icmp .ne 8, 3) := by decide +kernel
theorem dL_lays_82 : decode cL_lays 82 = .ok (.bipush 120, 2) := by decide +kernel
theorem dL_lays_84 : decode cL_lays 84 = .ok (.goto 40, 3) := by decide +kernel
theorem dL_lays_87 : decode cL_lays 87 = .ok (.iload 6, 2) := by decide +kernel
theorem dL_lays_89 : decode cL_lays 89 = .ok (.iconst 5, 1) := by decide +kernel
theorem dL_lays_90 : decode cL_lays 90 = .ok (.if_icmp .ne 8, 3) := by decide +kernel
theorem dL_lays_93 : decode cL_lays 93 = .ok (.bipush 109, 2) := by decide +kernel
theorem dL_lays_95 : decode cL_lays 95 = .ok (.goto 29, 3) := by decide +kernel
theorem dL_lays_98 : decode cL_lays 98 = .ok (.iload 6, 2) := by decide +kernel
theorem dL_lays_100 : decode cL_lays 100 = .ok (.bipush 6, 2) := by decide +kernel
theorem dL_lays_102 : decode cL_lays 102 = .ok (.if_icmp .ne 8, 3) := by decide +kernel
theorem dL_lays_105 : decode cL_lays 105 = .ok (.bipush 113, 2) := by decide +kernel
theorem dL_lays_107 : decode cL_lays 107 = .ok (.goto 17, 3) := by decide +kernel
theorem dL_lays_110 : decode cL_lays 110 = .ok (.iload 6, 2) := by decide +kernel
theorem dL_lays_112 : decode cL_lays 112 = .ok (.bipush 7, 2) := by decide +kernel
theorem dL_lays_114 : decode cL_lays 114 = .ok (.if_icmp .ne 8, 3) := by decide +kernel
theorem dL_lays_117 : decode cL_lays 117 = .ok (.bipush 104, 2) := by decide +kernel
theorem dL_lays_119 : decode cL_lays 119 = .ok (.goto 5, 3) := by decide +kernel
theorem dL_lays_122 : decode cL_lays 122 = .ok (.bipush 97, 2) := by decide +kernel
theorem dL_lays_124 : decode cL_lays 124 = .ok (.iastore, 1) := by decide +kernel
theorem dL_lays_125 : decode cL_lays 125 = .ok (.aload_n 0, 1) := by decide +kernel
theorem dL_lays_126 : decode cL_lays 126 = .ok (.iload_n 2, 1) := by decide +kernel
theorem dL_lays_127 : decode cL_lays 127 = .ok (.iconst 1, 1) := by decide +kernel
theorem dL_lays_128 : decode cL_lays 128 = .ok (.iadd, 1) := by decide +kernel
theorem dL_lays_129 : decode cL_lays 129 = .ok (.bipush 59, 2) := by decide +kernel
theorem dL_lays_131 : decode cL_lays 131 = .ok (.iastore, 1) := by decide +kernel
theorem dL_lays_132 : decode cL_lays 132 = .ok (.iinc 2 2, 3) := by decide +kernel
theorem dL_lays_135 : decode cL_lays 135 = .ok (.iload 4, 2) := by decide +kernel
theorem dL_lays_137 : decode cL_lays 137 = .ok (.ifCond .eq 22, 3) := by decide +kernel
theorem dL_lays_140 : decode cL_lays 140 = .ok (.iload_n 3, 1) := by decide +kernel
theorem dL_lays_141 : decode cL_lays 141 = .ok (.bipush 7, 2) := by decide +kernel
theorem dL_lays_143 : decode cL_lays 143 = .ok (.irem, 1) := by decide +kernel
theorem dL_lays_144 : decode cL_lays 144 = .ok (.iconst 3, 1) := by decide +kernel
theorem dL_lays_145 : decode cL_lays 145 = .ok (.if_icmp .ge 14, 3) := by decide +kernel
theorem dL_lays_148 : decode cL_lays 148 = .ok (.aload_n 0, 1) := by decide +kernel
theorem dL_lays_149 : decode cL_lays 149 = .ok (.iload_n 2, 1) := by decide +kernel
theorem dL_lays_150 : decode cL_lays 150 = .ok (.bipush 41, 2) := by decide +kernel
theorem dL_lays_152 : decode cL_lays 152 = .ok (.iastore, 1) := by decide +kernel
theorem dL_lays_153 : decode cL_lays 153 = .ok (.iinc 2 1, 3) := by decide +kernel
theorem dL_lays_156 : decode cL_lays 156 = .ok (.iconst 0, 1) := by decide +kernel
theorem dL_lays_157 : decode cL_lays 157 = .ok (.istore 4, 2) := by decide +kernel
theorem dL_lays_159 : decode cL_lays 159 = .ok (.iload_n 3, 1) := by decide +kernel
theorem dL_lays_160 : decode cL_lays 160 = .ok (.bipush 11, 2) := by decide +kernel
theorem dL_lays_162 : decode cL_lays 162 = .ok (.idiv, 1) := by decide +kernel
theorem dL_lays_163 : decode cL_lays 163 = .ok (.istore_n 3, 1) := by decide +kernel
theorem dL_lays_164 : decode cL_lays 164 = .ok (.iinc 5 1, 3) := by decide +kernel
theorem dL_lays_167 : decode cL_lays 167 = .ok (.goto (-157), 3) := by decide +kernel
theorem dL_lays_170 : decode cL_lays 170 = .ok (.aload_n 0, 1) := by decide +kernel
theorem dL_lays_171 : decode cL_lays 171 = .ok (.iload_n 2, 1) := by decide +kernel
theorem dL_lays_172 : decode cL_lays 172 = .ok (.iload 4, 2) := by decide +kernel
theorem dL_lays_174 : decode cL_lays 174 = .ok (.ifCond .eq 8, 3) := by decide +kernel
theorem dL_lays_177 : decode cL_lays 177 = .ok (.bipush 41, 2) := by decide +kernel
theorem dL_lays_179 : decode cL_lays 179 = .ok (.goto 5, 3) := by decide +kernel
theorem dL_lays_182 : decode cL_lays 182 = .ok (.bipush 114, 2) := by decide +kernel
theorem dL_lays_184 : decode cL_lays 184 = .ok (.iastore, 1) := by decide +kernel
theorem dL_lays_185 : decode cL_lays 185 = .ok (.aload_n 0, 1) := by decide +kernel
theorem dL_lays_186 : decode cL_lays 186 = .ok (.iload_n 2, 1) := by decide +kernel
theorem dL_lays_187 : decode cL_lays 187 = .ok (.iconst 1, 1) := by decide +kernel
theorem dL_lays_188 : decode cL_lays 188 = .ok (.iadd, 1) := by decide +kernel
theorem dL_lays_189 : decode cL_lays 189 = .ok (.iload 4, 2) := by decide +kernel
theorem dL_lays_191 : decode cL_lays 191 = .ok (.ifCond .eq 8, 3) := by decide +kernel
theorem dL_lays_194 : decode cL_lays 194 = .ok (.bipush 114, 2) := by decide +kernel
theorem dL_lays_196 : decode cL_lays 196 = .ok (.goto 5, 3) := by decide +kernel
theorem dL_lays_199 : decode cL_lays 199 = .ok (.bipush 59, 2) := by decide +kernel
theorem dL_lays_201 : decode cL_lays 201 = .ok (.iastore, 1) := by decide +kernel
theorem dL_lays_202 : decode cL_lays 202 = .ok (.aload_n 0, 1) := by decide +kernel
theorem dL_lays_203 : decode cL_lays 203 = .ok (.iload_n 2, 1) := by decide +kernel
theorem dL_lays_204 : decode cL_lays 204 = .ok (.iconst 2, 1) := by decide +kernel
theorem dL_lays_205 : decode cL_lays 205 = .ok (.iadd, 1) := by decide +kernel
theorem dL_lays_206 : decode cL_lays 206 = .ok (.bipush 59, 2) := by decide +kernel
theorem dL_lays_208 : decode cL_lays 208 = .ok (.iastore, 1) := by decide +kernel
theorem dL_lays_209 : decode cL_lays 209 = .ok (.iload_n 2, 1) := by decide +kernel
theorem dL_lays_210 : decode cL_lays 210 = .ok (.iload 4, 2) := by decide +kernel
theorem dL_lays_212 : decode cL_lays 212 = .ok (.ifCond .eq 7, 3) := by decide +kernel
theorem dL_lays_215 : decode cL_lays 215 = .ok (.iconst 3, 1) := by decide +kernel
theorem dL_lays_216 : decode cL_lays 216 = .ok (.goto 4, 3) := by decide +kernel
theorem dL_lays_219 : decode cL_lays 219 = .ok (.iconst 2, 1) := by decide +kernel
theorem dL_lays_220 : decode cL_lays 220 = .ok (.iadd, 1) := by decide +kernel
theorem dL_lays_221 : decode cL_lays 221 = .ok (.ireturn, 1) := by decide +kernel
theorem dL_types_0 : decode cL_types 0 = .ok (.aload_n 0, 1) := by decide +kernel
theorem dL_types_1 : decode cL_types 1 = .ok (.invokevirtual 103, 3) := by decide +kernel
theorem dL_types_4 : decode cL_types 4 = .ok (.ifCond .lt 7, 3) := by decide +kernel
theorem dL_types_7 : decode cL_types 7 = .ok (.iconst 1, 1) := by decide +kernel
theorem dL_types_8 : decode cL_types 8 = .ok (.goto 4, 3) := by decide +kernel
theorem dL_types_11 : decode cL_types 11 = .ok (.iconst 0, 1) := by decide +kernel
theorem dL_types_12 : decode cL_types 12 = .ok (.istore_n 3, 1) := by decide +kernel
theorem dL_types_13 : decode cL_types 13 = .ok (.iconst 0, 1) := by decide +kernel
theorem dL_types_14 : decode cL_types 14 = .ok (.istore 4, 2) := by decide +kernel
theorem dL_types_16 : decode cL_types 16 = .ok (.iload 4, 2) := by decide +kernel
theorem dL_types_18 : decode cL_types 18 = .ok (.iload_n 2, 1) := by decide +kernel
theorem dL_types_19 : decode cL_types 19 = .ok (.if_icmp .ge 34, 3) := by decide +kernel
theorem dL_types_22 : decode cL_types 22 = .ok (.iload_n 3, 1) := by decide +kernel
theorem dL_types_23 : decode cL_types 23 = .ok (.ifCond .eq 30, 3) := by decide +kernel
theorem dL_types_26 : decode cL_types 26 = .ok (.aload_n 0, 1) := by decide +kernel
theorem dL_types_27 : decode cL_types 27 = .ok (.aload_n 1, 1) := by decide +kernel
theorem dL_types_28 : decode cL_types 28 = .ok (.iload 4, 2) := by decide +kernel
theorem dL_types_30 : decode cL_types 30 = .ok (.iaload, 1) := by decide +kernel
theorem dL_types_31 : decode cL_types 31 = .ok (.invokestatic 106, 3) := by decide +kernel
theorem dL_types_34 : decode cL_types 34 = .ok (.iload 4, 2) := by decide +kernel
theorem dL_types_36 : decode cL_types 36 = .ok (.iconst 1, 1) := by decide +kernel
theorem dL_types_37 : decode cL_types 37 = .ok (.iadd, 1) := by decide +kernel
theorem dL_types_38 : decode cL_types 38 = .ok (.if_icmp .ne 7, 3) := by decide +kernel
theorem dL_types_41 : decode cL_types 41 = .ok (.iconst 1, 1) := by decide +kernel
theorem dL_types_42 : decode cL_types 42 = .ok (.goto 4, 3) := by decide +kernel
theorem dL_types_45 : decode cL_types 45 = .ok (.iconst 0, 1) := by decide +kernel
theorem dL_types_46 : decode cL_types 46 = .ok (.istore_n 3, 1) := by decide +kernel
theorem dL_types_47 : decode cL_types 47 = .ok (.iinc 4 1, 3) := by decide +kernel
theorem dL_types_50 : decode cL_types 50 = .ok (.goto (-34), 3) := by decide +kernel
theorem dL_types_53 : decode cL_types 53 = .ok (.iload_n 3, 1) := by decide +kernel
theorem dL_types_54 : decode cL_types 54 = .ok (.ireturn, 1) := by decide +kernel
theorem dL_isFault_0 : decode cL_isFault 0 = .ok (.aload_n 0, 1) := by decide +kernel
theorem dL_isFault_1 : decode cL_isFault 1 = .ok (.aload_n 1, 1) := by decide +kernel
theorem dL_isFault_2 : decode cL_isFault 2 = .ok (.iload_n 2, 1) := by decide +kernel
theorem dL_isFault_3 : decode cL_isFault 3 = .ok (.invokestatic 111, 3) := by decide +kernel
theorem dL_isFault_6 : decode cL_isFault 6 = .ok (.istore_n 3, 1) := by decide +kernel
theorem dL_isFault_7 : decode cL_isFault 7 = .ok (.aload_n 0, 1) := by decide +kernel
theorem dL_isFault_8 : decode cL_isFault 8 = .ok (.invokevirtual 115, 3) := by decide +kernel
theorem dL_isFault_11 : decode cL_isFault 11 = .ok (.istore 4, 2) := by decide +kernel
theorem dL_isFault_13 : decode cL_isFault 13 = .ok (.iload_n 3, 1) := by decide +kernel
theorem dL_isFault_14 : decode cL_isFault 14 = .ok (.ifCond .eq 30, 3) := by decide +kernel
theorem dL_isFault_17 : decode cL_isFault 17 = .ok (.iload 4, 2) := by decide +kernel
theorem dL_isFault_19 : decode cL_isFault 19 = .ok (.iconst (-1), 1) := by decide +kernel
theorem dL_isFault_20 : decode cL_isFault 20 = .ok (.if_icmp .lt 24, 3) := by decide +kernel
theorem dL_isFault_23 : decode cL_isFault 23 = .ok (.iload 4, 2) := by decide +kernel
theorem dL_isFault_25 : decode cL_isFault 25 = .ok (.iload_n 2, 1) := by decide +kernel
theorem dL_isFault_26 : decode cL_isFault 26 = .ok (.if_icmp .gt 18, 3) := by decide +kernel
theorem dL_isFault_29 : decode cL_isFault 29 = .ok (.aload_n 0, 1) := by decide +kernel
theorem dL_isFault_30 : decode cL_isFault 30 = .ok (.bipush 8, 2) := by decide +kernel
theorem dL_isFault_32 : decode cL_isFault 32 = .ok (.invokestatic 118, 3) := by decide +kernel
theorem dL_isFault_35 : decode cL_isFault 35 = .ok (.bipush (-101), 2) := by decide +kernel
theorem dL_isFault_37 : decode cL_isFault 37 = .ok (.if_icmp .ne 7, 3) := by decide +kernel
theorem dL_isFault_40 : decode cL_isFault 40 = .ok (.iconst 1, 1) := by decide +kernel
theorem dL_isFault_41 : decode cL_isFault 41 = .ok (.goto 4, 3) := by decide +kernel
theorem dL_isFault_44 : decode cL_isFault 44 = .ok (.iconst 0, 1) := by decide +kernel
theorem dL_isFault_45 : decode cL_isFault 45 = .ok (.istore_n 3, 1) := by decide +kernel
theorem dL_isFault_46 : decode cL_isFault 46 = .ok (.iload_n 3, 1) := by decide +kernel
theorem dL_isFault_47 : decode cL_isFault 47 = .ok (.ifCond .eq 77, 3) := by decide +kernel
theorem dL_isFault_50 : decode cL_isFault 50 = .ok (.iload 4, 2) := by decide +kernel
theorem dL_isFault_52 : decode cL_isFault 52 = .ok (.ifCond .lt 72, 3) := by decide +kernel
theorem dL_isFault_55 : decode cL_isFault 55 = .ok (.aload_n 0, 1) := by decide +kernel
theorem dL_isFault_56 : decode cL_isFault 56 = .ok (.invokestatic 120, 3) := by decide +kernel
theorem dL_isFault_59 : decode cL_isFault 59 = .ok (.bipush (-102), 2) := by decide +kernel
theorem dL_isFault_61 : decode cL_isFault 61 = .ok (.if_icmp .ne 61, 3) := by decide +kernel
theorem dL_isFault_64 : decode cL_isFault 64 = .ok (.aload_n 0, 1) := by decide +kernel
theorem dL_isFault_65 : decode cL_isFault 65 = .ok (.aload_n 1, 1) := by decide +kernel
theorem dL_isFault_66 : decode cL_isFault 66 = .ok (.iload 4, 2) := by decide +kernel
theorem dL_isFault_68 : decode cL_isFault 68 = .ok (.invokestatic 111, 3) := by decide +kernel
theorem dL_isFault_71 : decode cL_isFault 71 = .ok (.ifCond .eq 51, 3) := by decide +kernel
theorem dL_isFault_74 : decode cL_isFault 74 = .ok (.aload_n 0, 1) := by decide +kernel
theorem dL_isFault_75 : decode cL_isFault 75 = .ok (.invokevirtual 115, 3) := by decide +kernel
theorem dL_isFault_78 : decode cL_isFault 78 = .ok (.iconst (-1), 1) := by decide +kernel
theorem dL_isFault_79 : decode cL_isFault 79 = .ok (.if_icmp .eq 12, 3) := by decide +kernel
theorem dL_isFault_82 : decode cL_isFault 82 = .ok (.aload_n 0, 1) := by decide +kernel
theorem dL_isFault_83 : decode cL_isFault 83 = .ok (.invokevirtual 115, 3) := by decide +kernel
theorem dL_isFault_86 : decode cL_isFault 86 = .ok (.iload 4, 2) := by decide +kernel
theorem dL_isFault_88 : decode cL_isFault 88 = .ok (.if_icmp .ne 34, 3) := by decide +kernel
theorem dL_isFault_91 : decode cL_isFault 91 = .ok (.iload 4, 2) := by decide +kernel
theorem dL_isFault_93 : decode cL_isFault 93 = .ok (.iload_n 2, 1) := by decide +kernel
theorem dL_isFault_94 : decode cL_isFault 94 = .ok (.if_icmp .eq 24, 3) := by decide +kernel
theorem dL_isFault_97 : decode cL_isFault 97 = .ok (.aload_n 0, 1) := by decide +kernel
theorem dL_isFault_98 : decode cL_isFault 98 = .ok (.aload_n 1, 1) := by decide +kernel
theorem dL_isFault_99 : decode cL_isFault 99 = .ok (.iload 4, 2) := by decide +kernel
theorem dL_isFault_101 : decode cL_isFault 101 = .ok (.iconst 1, 1) := by decide +kernel
theorem dL_isFault_102 : decode cL_isFault 102 = .ok (.iadd, 1) := by decide +kernel
theorem dL_isFault_103 : decode cL_isFault 103 = .ok (.invokestatic 111, 3) := by decide +kernel
theorem dL_isFault_106 : decode cL_isFault 106 = .ok (.ifCond .eq 16, 3) := by decide +kernel
theorem dL_isFault_109 : decode cL_isFault 109 = .ok (.aload_n 0, 1) := by decide +kernel
theorem dL_isFault_110 : decode cL_isFault 110 = .ok (.invokevirtual 115, 3) := by decide +kernel
theorem dL_isFault_113 : decode cL_isFault 113 = .ok (.iload 4, 2) := by decide +kernel
theorem dL_isFault_115 : decode cL_isFault 115 = .ok (.if_icmp .ne 7, 3) := by decide +kernel
theorem dL_isFault_118 : decode cL_isFault 118 = .ok (.iconst 1, 1) := by decide +kernel
theorem dL_isFault_119 : decode cL_isFault 119 = .ok (.goto 4, 3) := by decide +kernel
theorem dL_isFault_122 : decode cL_isFault 122 = .ok (.iconst 0, 1) := by decide +kernel
theorem dL_isFault_123 : decode cL_isFault 123 = .ok (.istore_n 3, 1) := by decide +kernel
theorem dL_isFault_124 : decode cL_isFault 124 = .ok (.iload_n 3, 1) := by decide +kernel
theorem dL_isFault_125 : decode cL_isFault 125 = .ok (.ireturn, 1) := by decide +kernel
theorem dL_fits_0 : decode cL_fits 0 = .ok (.aload_n 0, 1) := by decide +kernel
theorem dL_fits_1 : decode cL_fits 1 = .ok (.iload_n 1, 1) := by decide +kernel
theorem dL_fits_2 : decode cL_fits 2 = .ok (.invokestatic 123, 3) := by decide +kernel
theorem dL_fits_5 : decode cL_fits 5 = .ok (.istore 5, 2) := by decide +kernel
theorem dL_fits_7 : decode cL_fits 7 = .ok (.aload_n 0, 1) := by decide +kernel
theorem dL_fits_8 : decode cL_fits 8 = .ok (.iload_n 1, 1) := by decide +kernel
theorem dL_fits_9 : decode cL_fits 9 = .ok (.invokestatic 125, 3) := by decide +kernel
theorem dL_fits_12 : decode cL_fits 12 = .ok (.istore 6, 2) := by decide +kernel
theorem dL_fits_14 : decode cL_fits 14 = .ok (.aload_n 0, 1) := by decide +kernel
theorem dL_fits_15 : decode cL_fits 15 = .ok (.iload_n 1, 1) := by decide +kernel
theorem dL_fits_16 : decode cL_fits 16 = .ok (.invokestatic 127, 3) := by decide +kernel
theorem dL_fits_19 : decode cL_fits 19 = .ok (.istore 7, 2) := by decide +kernel
theorem dL_fits_21 : decode cL_fits 21 = .ok (.iload 5, 2) := by decide +kernel
theorem dL_fits_23 : decode cL_fits 23 = .ok (.ifCond .lt 59, 3) := by decide +kernel
theorem dL_fits_26 : decode cL_fits 26 = .ok (.aload_n 0, 1) := by decide +kernel
theorem dL_fits_27 : decode cL_fits 27 = .ok (.iload_n 1, 1) := by decide +kernel
theorem dL_fits_28 : decode cL_fits 28 = .ok (.invokestatic 129, 3) := by decide +kernel
theorem dL_fits_31 : decode cL_fits 31 = .ok (.iload 5, 2) := by decide +kernel
theorem dL_fits_33 : decode cL_fits 33 = .ok (.if_icmp .ne 49, 3) := by decide +kernel
theorem dL_fits_36 : decode cL_fits 36 = .ok (.iload 5, 2) := by decide +kernel
theorem dL_fits_38 : decode cL_fits 38 = .ok (.invokestatic 132, 3) := by decide +kernel
theorem dL_fits_41 : decode cL_fits 41 = .ok (.iload_n 3, 1) := by decide +kernel
theorem dL_fits_42 : decode cL_fits 42 = .ok (.if_icmp .gt 40, 3) := by decide +kernel
theorem dL_fits_45 : decode cL_fits 45 = .ok (.iload 5, 2) := by decide +kernel
theorem dL_fits_47 : decode cL_fits 47 = .ok (.iconst 1, 1) := by decide +kernel
theorem dL_fits_48 : decode cL_fits 48 = .ok (.iload_n 2, 1) := by decide +kernel
theorem dL_fits_49 : decode cL_fits 49 = .ok (.ishl, 1) := by decide +kernel
theorem dL_fits_50 : decode cL_fits 50 = .ok (.if_icmp .ge 32, 3) := by decide +kernel
theorem dL_fits_53 : decode cL_fits 53 = .ok (.aload_n 0, 1) := by decide +kernel
theorem dL_fits_54 : decode cL_fits 54 = .ok (.iload_n 1, 1) := by decide +kernel
theorem dL_fits_55 : decode cL_fits 55 = .ok (.iload 6, 2) := by decide +kernel
theorem dL_fits_57 : decode cL_fits 57 = .ok (.iconst 0, 1) := by decide +kernel
theorem dL_fits_58 : decode cL_fits 58 = .ok (.invokestatic 135, 3) := by decide +kernel
theorem dL_fits_61 : decode cL_fits 61 = .ok (.bipush (-101), 2) := by decide +kernel
theorem dL_fits_63 : decode cL_fits 63 = .ok (.if_icmp .ne 19, 3) := by decide +kernel
theorem dL_fits_66 : decode cL_fits 66 = .ok (.aload_n 0, 1) := by decide +kernel
theorem dL_fits_67 : decode cL_fits 67 = .ok (.iload_n 1, 1) := by decide +kernel
theorem dL_fits_68 : decode cL_fits 68 = .ok (.iload 7, 2) := by decide +kernel
theorem dL_fits_70 : decode cL_fits 70 = .ok (.invokestatic 138, 3) := by decide +kernel
theorem dL_fits_73 : decode cL_fits 73 = .ok (.bipush (-101), 2) := by decide +kernel
theorem dL_fits_75 : decode cL_fits 75 = .ok (.if_icmp .ne 7, 3) := by decide +kernel
theorem dL_fits_78 : decode cL_fits 78 = .ok (.iconst 1, 1) := by decide +kernel
theorem dL_fits_79 : decode cL_fits 79 = .ok (.goto 4, 3) := by decide +kernel
theorem dL_fits_82 : decode cL_fits 82 = .ok (.iconst 0, 1) := by decide +kernel
theorem dL_fits_83 : decode cL_fits 83 = .ok (.istore 8, 2) := by decide +kernel
theorem dL_fits_85 : decode cL_fits 85 = .ok (.iconst 1, 1) := by decide +kernel
theorem dL_fits_86 : decode cL_fits 86 = .ok (.iload_n 2, 1) := by decide +kernel
theorem dL_fits_87 : decode cL_fits 87 = .ok (.ishl, 1) := by decide +kernel
theorem dL_fits_88 : decode cL_fits 88 = .ok (.iconst 1, 1) := by decide +kernel
theorem dL_fits_89 : decode cL_fits 89 = .ok (.isub, 1) := by decide +kernel
theorem dL_fits_90 : decode cL_fits 90 = .ok (.istore 9, 2) := by decide +kernel
theorem dL_fits_92 : decode cL_fits 92 = .ok (.iload 6, 2) := by decide +kernel
theorem dL_fits_94 : decode cL_fits 94 = .ok (.ifCond .ne 7, 3) := by decide +kernel
theorem dL_fits_97 : decode cL_fits 97 = .ok (.iconst 0, 1) := by decide +kernel
theorem dL_fits_98 : decode cL_fits 98 = .ok (.goto 8, 3) := by decide +kernel
theorem dL_fits_101 : decode cL_fits 101 = .ok (.iload 4, 2) := by decide +kernel
theorem dL_fits_103 : decode cL_fits 103 = .ok (.iload 6, 2) := by decide +kernel
theorem dL_fits_105 : decode cL_fits 105 = .ok (.irem, 1) := by decide +kernel
theorem dL_fits_106 : decode cL_fits 106 = .ok (.istore 10, 2) := by decide +kernel
theorem dL_fits_108 : decode cL_fits 108 = .ok (.iload 10, 2) := by decide +kernel
theorem dL_fits_110 : decode cL_fits 110 = .ok (.istore 11, 2) := by decide +kernel
theorem dL_fits_112 : decode cL_fits 112 = .ok (.iload 11, 2) := by decide +kernel
theorem dL_fits_114 : decode cL_fits 114 = .ok (.iload 10, 2) := by decide +kernel
theorem dL_fits_116 : decode cL_fits 116 = .ok (.iconst 2, 1) := by decide +kernel
theorem dL_fits_117 : decode cL_fits 117 = .ok (.iadd, 1) := by decide +kernel
theorem dL_fits_118 : decode cL_fits 118 = .ok (.if_icmp .ge 130, 3) := by decide +kernel
theorem dL_fits_121 : decode cL_fits 121 = .ok (.iload 11, 2) := by decide +kernel
theorem dL_fits_123 : decode cL_fits 123 = .ok (.iload 6, 2) := by decide +kernel
theorem dL_fits_125 : decode cL_fits 125 = .ok (.if_icmp .ge 123, 3) := by decide +kernel
theorem dL_fits_128 : decode cL_fits 128 = .ok (.iload 8, 2) := by decide +kernel
theorem dL_fits_130 : decode cL_fits 130 = .ok (.ifCond .eq 118, 3) := by decide +kernel
theorem dL_fits_133 : decode cL_fits 133 = .ok (.iconst 0, 1) := by decide +kernel
theorem dL_fits_134 : decode cL_fits 134 = .ok (.istore 12, 2) := by decide +kernel
theorem dL_fits_136 : decode cL_fits 136 = .ok (.iconst 0, 1) := by decide +kernel
theorem dL_fits_137 : decode cL_fits 137 = .ok (.istore 13, 2) := by decide +kernel
theorem dL_fits_139 : decode cL_fits 139 = .ok (.iload 13, 2) := by decide +kernel
theorem dL_fits_141 : decode cL_fits 141 = .ok (.iload_n 2, 1) := by decide +kernel
theorem dL_fits_142 : decode cL_fits 142 = .ok (.if_icmp .ge 56, 3) := by decide +kernel
theorem dL_fits_145 : decode cL_fits 145 = .ok (.iload 8, 2) := by decide +kernel
theorem dL_fits_147 : decode cL_fits 147 = .ok (.ifCond .eq 51, 3) := by decide +kernel
theorem dL_fits_150 : decode cL_fits 150 = .ok (.aload_n 0, 1) := by decide +kernel
theorem dL_fits_151 : decode cL_fits 151 = .ok (.iload_n 1, 1) := by decide +kernel
theorem dL_fits_152 : decode cL_fits 152 = .ok (.iload 11, 2) := by decide +kernel
theorem dL_fits_154 : decode cL_fits 154 = .ok (.iload 13, 2) := by decide +kernel
theorem dL_fits_156 : decode cL_fits 156 = .ok (.invokestatic 135, 3) := by decide +kernel
theorem dL_fits_159 : decode cL_fits 159 = .ok (.istore 14, 2) := by decide +kernel
theorem dL_fits_161 : decode cL_fits 161 = .ok (.iload 12, 2) := by decide +kernel
theorem dL_fits_163 : decode cL_fits 163 = .ok (.iload 14, 2) := by decide +kernel
theorem dL_fits_165 : decode cL_fits 165 = .ok (.ifCond .lt 10, 3) := by decide +kernel
theorem dL_fits_168 : decode cL_fits 168 = .ok (.iconst 1, 1) := by decide +kernel
theorem dL_fits_169 : decode cL_fits 169 = .ok (.iload 13, 2) := by decide +kernel
theorem dL_fits_171 : decode cL_fits 171 = .ok (.ishl, 1) := by decide +kernel
theorem dL_fits_172 : decode cL_fits 172 = .ok (.goto 4, 3) := by decide +kernel
theorem dL_fits_175 : decode cL_fits 175 = .ok (.iconst 0, 1) := by decide +kernel
theorem dL_fits_176 : decode cL_fits 176 = .ok (.ior, 1) := by decide +kernel
theorem dL_fits_177 : decode cL_fits 177 = .ok (.istore 12, 2) := by decide +kernel
theorem dL_fits_179 : decode cL_fits 179 = .ok (.iload 14, 2) := by decide +kernel
theorem dL_fits_181 : decode cL_fits 181 = .ok (.iconst (-1), 1) := by decide +kernel
theorem dL_fits_182 : decode cL_fits 182 = .ok (.if_icmp .lt 7, 3) := by decide +kernel
theorem dL_fits_185 : decode cL_fits 185 = .ok (.iconst 1, 1) := by decide +kernel
theorem dL_fits_186 : decode cL_fits 186 = .ok (.goto 4, 3) := by decide +kernel
theorem dL_fits_189 : decode cL_fits 189 = .ok (.iconst 0, 1) := by decide +kernel
theorem dL_fits_190 : decode cL_fits 190 = .ok (.istore 8, 2) := by decide +kernel
theorem dL_fits_192 : decode cL_fits 192 = .ok (.iinc 13 1, 3) := by decide +kernel
theorem dL_fits_195 : decode cL_fits 195 = .ok (.goto (-56), 3) := by decide +kernel
theorem dL_fits_198 : decode cL_fits 198 = .ok (.iload 8, 2) := by decide +kernel
theorem dL_fits_200 : decode cL_fits 200 = .ok (.ifCond .eq 35, 3) := by decide +kernel
theorem dL_fits_203 : decode cL_fits 203 = .ok (.iload 12, 2) := by decide +kernel
theorem dL_fits_205 : decode cL_fits 205 = .ok (.iload 9, 2) := by decide +kernel
theorem dL_fits_207 : decode cL_fits 207 = .ok (.iconst (-1), 1) := by decide +kernel
theorem dL_fits_208 : decode cL_fits 208 = .ok (.ixor, 1) := by decide +kernel
theorem dL_fits_209 : decode cL_fits 209 = .ok (.iand, 1) := by decide +kernel
theorem dL_fits_210 : decode cL_fits 210 = .ok (.ifCond .ne 25, 3) := by decide +kernel
theorem dL_fits_213 : decode cL_fits 213 = .ok (.iload 12, 2) := by decide +kernel
theorem dL_fits_215 : decode cL_fits 215 = .ok (.ifCond .eq 20, 3) := by decide +kernel
theorem dL_fits_218 : decode cL_fits 218 = .ok (.aload_n 0, 1) := by decide +kernel
theorem dL_fits_219 : decode cL_fits 219 = .ok (.iload_n 1, 1) := by decide +kernel
theorem dL_fits_220 : decode cL_fits 220 = .ok (.iload 11, 2) := by decide +kernel
theorem dL_fits_222 : decode cL_fits 222 = .ok (.iload_n 2, 1) := by decide +kernel
theorem dL_fits_223 : decode cL_fits 223 = .ok (.invokestatic 135, 3) := by decide +kernel
theorem dL_fits_226 : decode cL_fits 226 = .ok (.bipush (-101), 2) := by decide +kernel
theorem dL_fits_228 : decode cL_fits 228 = .ok (.if_icmp .ne 7, 3) := by decide +kernel
theorem dL_fits_231 : decode cL_fits 231 = .ok (.iconst 1, 1) := by decide +kernel
theorem dL_fits_232 : decode cL_fits 232 = .ok (.goto 4, 3) := by decide +kernel
theorem dL_fits_235 : decode cL_fits 235 = .ok (.iconst 0, 1) := by decide +kernel
theorem dL_fits_236 : decode cL_fits 236 = .ok (.istore 8, 2) := by decide +kernel
theorem dL_fits_238 : decode cL_fits 238 = .ok (.iload 12, 2) := by decide +kernel
theorem dL_fits_240 : decode cL_fits 240 = .ok (.istore 9, 2) := by decide +kernel
theorem dL_fits_242 : decode cL_fits 242 = .ok (.iinc 11 1, 3) := by decide +kernel
theorem dL_fits_245 : decode cL_fits 245 = .ok (.goto (-133), 3) := by decide +kernel
theorem dL_fits_248 : decode cL_fits 248 = .ok (.iload 7, 2) := by decide +kernel
theorem dL_fits_250 : decode cL_fits 250 = .ok (.ifCond .le 44, 3) := by decide +kernel
theorem dL_fits_253 : decode cL_fits 253 = .ok (.iload 8, 2) := by decide +kernel
theorem dL_fits_255 : decode cL_fits 255 = .ok (.ifCond .eq 39, 3) := by decide +kernel
theorem dL_fits_258 : decode cL_fits 258 = .ok (.aload_n 0, 1) := by decide +kernel
theorem dL_fits_259 : decode cL_fits 259 = .ok (.iload_n 1, 1) := by decide +kernel
theorem dL_fits_260 : decode cL_fits 260 = .ok (.iload 4, 2) := by decide +kernel
theorem dL_fits_262 : decode cL_fits 262 = .ok (.iload 7, 2) := by decide +kernel
theorem dL_fits_264 : decode cL_fits 264 = .ok (.irem, 1) := by decide +kernel
theorem dL_fits_265 : decode cL_fits 265 = .ok (.invokestatic 138, 3) := by decide +kernel
theorem dL_fits_268 : decode cL_fits 268 = .ok (.istore 11, 2) := by decide +kernel
theorem dL_fits_270 : decode cL_fits 270 = .ok (.iload 11, 2) := by decide +kernel
theorem dL_fits_272 : decode cL_fits 272 = .ok (.invokestatic 132, 3) := by decide +kernel
theorem dL_fits_275 : decode cL_fits 275 = .ok (.iconst 2, 1) := by decide +kernel
theorem dL_fits_276 : decode cL_fits 276 = .ok (.if_icmp .lt 15, 3) := by decide +kernel
theorem dL_fits_279 : decode cL_fits 279 = .ok (.iload 11, 2) := by decide +kernel
theorem dL_fits_281 : decode cL_fits 281 = .ok (.iconst 1, 1) := by decide +kernel
theorem dL_fits_282 : decode cL_fits 282 = .ok (.iload_n 2, 1) := by decide +kernel
theorem dL_fits_283 : decode cL_fits 283 = .ok (.ishl, 1) := by decide +kernel
theorem dL_fits_284 : decode cL_fits 284 = .ok (.if_icmp .ge 7, 3) := by decide +kernel
theorem dL_fits_287 : decode cL_fits 287 = .ok (.iconst 1, 1) := by decide +kernel
theorem dL_fits_288 : decode cL_fits 288 = .ok (.goto 4, 3) := by decide +kernel
theorem dL_fits_291 : decode cL_fits 291 = .ok (.iconst 0, 1) := by decide +kernel
theorem dL_fits_292 : decode cL_fits 292 = .ok (.istore 8, 2) := by decide +kernel
theorem dL_fits_294 : decode cL_fits 294 = .ok (.iload 8, 2) := by decide +kernel
theorem dL_fits_296 : decode cL_fits 296 = .ok (.ifCond .eq 25, 3) := by decide +kernel
theorem dL_fits_299 : decode cL_fits 299 = .ok (.aload_n 0, 1) := by decide +kernel
theorem dL_fits_300 : decode cL_fits 300 = .ok (.iload_n 1, 1) := by decide +kernel
theorem dL_fits_301 : decode cL_fits 301 = .ok (.invokestatic 141, 3) := by decide +kernel
theorem dL_fits_304 : decode cL_fits 304 = .ok (.ifCond .lt 17, 3) := by decide +kernel
theorem dL_fits_307 : decode cL_fits 307 = .ok (.aload_n 0, 1) := by decide +kernel
theorem dL_fits_308 : decode cL_fits 308 = .ok (.iload_n 1, 1) := by decide +kernel
theorem dL_fits_309 : decode cL_fits 309 = .ok (.invokestatic 141, 3) := by decide +kernel
theorem dL_fits_312 : decode cL_fits 312 = .ok (.bipush 100, 2) := by decide +kernel
theorem dL_fits_314 : decode cL_fits 314 = .ok (.if_icmp .gt 7, 3) := by decide +kernel
theorem dL_fits_317 : decode cL_fits 317 = .ok (.iconst 1, 1) := by decide +kernel
theorem dL_fits_318 : decode cL_fits 318 = .ok (.goto 4, 3) := by decide +kernel
theorem dL_fits_321 : decode cL_fits 321 = .ok (.iconst 0, 1) := by decide +kernel
theorem dL_fits_322 : decode cL_fits 322 = .ok (.ireturn, 1) := by decide +kernel
theorem dL_law_0 : decode code 0 = .ok (.new 10, 3) := by decide +kernel
theorem dL_law_3 : decode code 3 = .ok (.dup, 1) := by decide +kernel
theorem dL_law_4 : decode code 4 = .ok (.invokespecial 143, 3) := by decide +kernel
theorem dL_law_7 : decode code 7 = .ok (.astore_n 1, 1) := by decide +kernel
theorem dL_law_8 : decode code 8 = .ok (.bipush 24, 2) := by decide +kernel
theorem dL_law_10 : decode code 10 = .ok (.newarray .int, 2) := by decide +kernel
theorem dL_law_12 : decode code 12 = .ok (.astore_n 2, 1) := by decide +kernel
theorem dL_law_13 : decode code 13 = .ok (.bipush 8, 2) := by decide +kernel
theorem dL_law_15 : decode code 15 = .ok (.newarray .int, 2) := by decide +kernel
theorem dL_law_17 : decode code 17 = .ok (.astore_n 3, 1) := by decide +kernel
theorem dL_law_18 : decode code 18 = .ok (.bipush 8, 2) := by decide +kernel
theorem dL_law_20 : decode code 20 = .ok (.newarray .int, 2) := by decide +kernel
theorem dL_law_22 : decode code 22 = .ok (.astore 4, 2) := by decide +kernel
theorem dL_law_24 : decode code 24 = .ok (.bipush 8, 2) := by decide +kernel
theorem dL_law_26 : decode code 26 = .ok (.newarray .int, 2) := by decide +kernel
theorem dL_law_28 : decode code 28 = .ok (.astore 5, 2) := by decide +kernel
theorem dL_law_30 : decode code 30 = .ok (.bipush 48, 2) := by decide +kernel
theorem dL_law_32 : decode code 32 = .ok (.newarray .int, 2) := by decide +kernel
theorem dL_law_34 : decode code 34 = .ok (.astore 6, 2) := by decide +kernel
theorem dL_law_36 : decode code 36 = .ok (.aload_n 1, 1) := by decide +kernel
theorem dL_law_37 : decode code 37 = .ok (.invokevirtual 144, 3) := by decide +kernel
theorem dL_law_40 : decode code 40 = .ok (.ifCond .ne 7, 3) := by decide +kernel
theorem dL_law_43 : decode code 43 = .ok (.iconst 1, 1) := by decide +kernel
theorem dL_law_44 : decode code 44 = .ok (.goto 4, 3) := by decide +kernel
theorem dL_law_47 : decode code 47 = .ok (.iconst 0, 1) := by decide +kernel
theorem dL_law_48 : decode code 48 = .ok (.istore 7, 2) := by decide +kernel
theorem dL_law_50 : decode code 50 = .ok (.iconst 0, 1) := by decide +kernel
theorem dL_law_51 : decode code 51 = .ok (.istore 8, 2) := by decide +kernel
theorem dL_law_53 : decode code 53 = .ok (.iload 8, 2) := by decide +kernel
theorem dL_law_55 : decode code 55 = .ok (.iconst 3, 1) := by decide +kernel
theorem dL_law_56 : decode code 56 = .ok (.if_icmp .ge 71, 3) := by decide +kernel
theorem dL_law_59 : decode code 59 = .ok (.iload 7, 2) := by decide +kernel
theorem dL_law_61 : decode code 61 = .ok (.ifCond .eq 66, 3) := by decide +kernel
theorem dL_law_64 : decode code 64 = .ok (.aload_n 2, 1) := by decide +kernel
theorem dL_law_65 : decode code 65 = .ok (.aload_n 0, 1) := by decide +kernel
theorem dL_law_66 : decode code 66 = .ok (.iload 8, 2) := by decide +kernel
theorem dL_law_68 : decode code 68 = .ok (.invokestatic 147, 3) := by decide +kernel
theorem dL_law_71 : decode code 71 = .ok (.invokestatic 151, 3) := by decide +kernel
theorem dL_law_74 : decode code 74 = .ok (.istore 9, 2) := by decide +kernel
theorem dL_law_76 : decode code 76 = .ok (.aload_n 1, 1) := by decide +kernel
theorem dL_law_77 : decode code 77 = .ok (.aload_n 2, 1) := by decide +kernel
theorem dL_law_78 : decode code 78 = .ok (.iload 9, 2) := by decide +kernel
theorem dL_law_80 : decode code 80 = .ok (.invokestatic 111, 3) := by decide +kernel
theorem dL_law_83 : decode code 83 = .ok (.ifCond .eq 35, 3) := by decide +kernel
theorem dL_law_86 : decode code 86 = .ok (.aload_n 1, 1) := by decide +kernel
theorem dL_law_87 : decode code 87 = .ok (.invokevirtual 115, 3) := by decide +kernel
theorem dL_law_90 : decode code 90 = .ok (.iconst (-1), 1) := by decide +kernel
theorem dL_law_91 : decode code 91 = .ok (.if_icmp .ne 27, 3) := by decide +kernel
theorem dL_law_94 : decode code 94 = .ok (.aload_n 1, 1) := by decide +kernel
theorem dL_law_95 : decode code 95 = .ok (.invokestatic 120, 3) := by decide +kernel
theorem dL_law_98 : decode code 98 = .ok (.iload 8, 2) := by decide +kernel
theorem dL_law_100 : decode code 100 = .ok (.if_icmp .ne 18, 3) := by decide +kernel
theorem dL_law_103 : decode code 103 = .ok (.aload_n 1, 1) := by decide +kernel
theorem dL_law_104 : decode code 104 = .ok (.iload 8, 2) := by decide +kernel
theorem dL_law_106 : decode code 106 = .ok (.invokestatic 154, 3) := by decide +kernel
theorem dL_law_109 : decode code 109 = .ok (.bipush 6, 2) := by decide +kernel
theorem dL_law_111 : decode code 111 = .ok (.if_icmp .ne 7, 3) := by decide +kernel
theorem dL_law_114 : decode code 114 = .ok (.iconst 1, 1) := by decide +kernel
theorem dL_law_115 : decode code 115 = .ok (.goto 4, 3) := by decide +kernel
theorem dL_law_118 : decode code 118 = .ok (.iconst 0, 1) := by decide +kernel
theorem dL_law_119 : decode code 119 = .ok (.istore 7, 2) := by decide +kernel
theorem dL_law_121 : decode code 121 = .ok (.iinc 8 1, 3) := by decide +kernel
theorem dL_law_124 : decode code 124 = .ok (.goto (-71), 3) := by decide +kernel
theorem dL_law_127 : decode code 127 = .ok (.iconst 0, 1) := by decide +kernel
theorem dL_law_128 : decode code 128 = .ok (.istore 9, 2) := by decide +kernel
theorem dL_law_130 : decode code 130 = .ok (.iconst 0, 1) := by decide +kernel
theorem dL_law_131 : decode code 131 = .ok (.istore 10, 2) := by decide +kernel
theorem dL_law_133 : decode code 133 = .ok (.iconst 0, 1) := by decide +kernel
theorem dL_law_134 : decode code 134 = .ok (.istore 11, 2) := by decide +kernel
theorem dL_law_136 : decode code 136 = .ok (.iconst 0, 1) := by decide +kernel
theorem dL_law_137 : decode code 137 = .ok (.istore 12, 2) := by decide +kernel
theorem dL_law_139 : decode code 139 = .ok (.iload 12, 2) := by decide +kernel
theorem dL_law_141 : decode code 141 = .ok (.bipush 50, 2) := by decide +kernel
theorem dL_law_143 : decode code 143 = .ok (.if_icmp .ge 1523, 3) := by decide +kernel
theorem dL_law_146 : decode code 146 = .ok (.iload 7, 2) := by decide +kernel
theorem dL_law_148 : decode code 148 = .ok (.ifCond .eq 1518, 3) := by decide +kernel
theorem dL_law_151 : decode code 151 = .ok (.aload_n 0, 1) := by decide +kernel
theorem dL_law_152 : decode code 152 = .ok (.iconst 3, 1) := by decide +kernel
theorem dL_law_153 : decode code 153 = .ok (.iload 12, 2) := by decide +kernel
theorem dL_law_155 : decode code 155 = .ok (.iadd, 1) := by decide +kernel
theorem dL_law_156 : decode code 156 = .ok (.invokestatic 147, 3) := by decide +kernel
theorem dL_law_159 : decode code 159 = .ok (.istore 13, 2) := by decide +kernel
theorem dL_law_161 : decode code 161 = .ok (.iload 13, 2) := by decide +kernel
theorem dL_law_163 : decode code 163 = .ok (.bipush 16, 2) := by decide +kernel
theorem dL_law_165 : decode code 165 = .ok (.idiv, 1) := by decide +kernel
theorem dL_law_166 : decode code 166 = .ok (.istore 14, 2) := by decide +kernel
theorem dL_law_168 : decode code 168 = .ok (.iload 9, 2) := by decide +kernel
theorem dL_law_170 : decode code 170 = .ok (.ifCond .ne 7, 3) := by decide +kernel
theorem dL_law_173 : decode code 173 = .ok (.iconst 0, 1) := by decide +kernel
theorem dL_law_174 : decode code 174 = .ok (.goto 8, 3) := by decide +kernel
theorem dL_law_177 : decode code 177 = .ok (.iload 13, 2) := by decide +kernel
theorem dL_law_179 : decode code 179 = .ok (.bipush 16, 2) := by decide +kernel
theorem dL_law_181 : decode code 181 = .ok (.irem, 1) := by decide +kernel
theorem dL_law_182 : decode code 182 = .ok (.istore 15, 2) := by decide +kernel
theorem dL_law_184 : decode code 184 = .ok (.iload 9, 2) := by decide +kernel
theorem dL_law_186 : decode code 186 = .ok (.ifCond .ne 7, 3) := by decide +kernel
theorem dL_law_189 : decode code 189 = .ok (.iconst 0, 1) := by decide +kernel
theorem dL_law_190 : decode code 190 = .ok (.goto 8, 3) := by decide +kernel
theorem dL_law_193 : decode code 193 = .ok (.iload 14, 2) := by decide +kernel
theorem dL_law_195 : decode code 195 = .ok (.iload 9, 2) := by decide +kernel
theorem dL_law_197 : decode code 197 = .ok (.irem, 1) := by decide +kernel
theorem dL_law_198 : decode code 198 = .ok (.istore 16, 2) := by decide +kernel
theorem dL_law_200 : decode code 200 = .ok (.iload 14, 2) := by decide +kernel
theorem dL_law_202 : decode code 202 = .ok (.bipush 8, 2) := by decide +kernel
theorem dL_law_204 : decode code 204 = .ok (.idiv, 1) := by decide +kernel
theorem dL_law_205 : decode code 205 = .ok (.istore 17, 2) := by decide +kernel
theorem dL_law_207 : decode code 207 = .ok (.iload 15, 2) := by decide +kernel
theorem dL_law_209 : decode code 209 = .ok (.ifCond .ne 89, 3) := by decide +kernel
theorem dL_law_212 : decode code 212 = .ok (.iload 9, 2) := by decide +kernel
theorem dL_law_214 : decode code 214 = .ok (.bipush 6, 2) := by decide +kernel
theorem dL_law_216 : decode code 216 = .ok (.if_icmp .ge 82, 3) := by decide +kernel
theorem dL_law_219 : decode code 219 = .ok (.aload_n 3, 1) := by decide +kernel
theorem dL_law_220 : decode code 220 = .ok (.iload 9, 2) := by decide +kernel
theorem dL_law_222 : decode code 222 = .ok (.iconst 2, 1) := by decide +kernel
theorem dL_law_223 : decode code 223 = .ok (.iload 17, 2) := by decide +kernel
theorem dL_law_225 : decode code 225 = .ok (.iconst 5, 1) := by decide +kernel
theorem dL_law_226 : decode code 226 = .ok (.irem, 1) := by decide +kernel
theorem dL_law_227 : decode code 227 = .ok (.iadd, 1) := by decide +kernel
theorem dL_law_228 : decode code 228 = .ok (.iastore, 1) := by decide +kernel
theorem dL_law_229 : decode code 229 = .ok (.aload 4, 2) := by decide +kernel
theorem dL_law_231 : decode code 231 = .ok (.iload 9, 2) := by decide +kernel
theorem dL_law_233 : decode code 233 = .ok (.iconst 1, 1) := by decide +kernel
theorem dL_law_234 : decode code 234 = .ok (.iload 17, 2) := by decide +kernel
theorem dL_law_236 : decode code 236 = .ok (.iconst 5, 1) := by decide +kernel
theorem dL_law_237 : decode code 237 = .ok (.idiv, 1) := by decide +kernel
theorem dL_law_238 : decode code 238 = .ok (.iconst 1, 1) := by decide +kernel
theorem dL_law_239 : decode code 239 = .ok (.iload 17, 2) := by decide +kernel
theorem dL_law_241 : decode code 241 = .ok (.iconst 5, 1) := by decide +kernel
theorem dL_law_242 : decode code 242 = .ok (.irem, 1) := by decide +kernel
theorem dL_law_243 : decode code 243 = .ok (.iadd, 1) := by decide +kernel
theorem dL_law_244 : decode code 244 = .ok (.irem, 1) := by decide +kernel
theorem dL_law_245 : decode code 245 = .ok (.iadd, 1) := by decide +kernel
theorem dL_law_246 : decode code 246 = .ok (.iastore, 1) := by decide +kernel
theorem dL_law_247 : decode code 247 = .ok (.aload 5, 2) := by decide +kernel
theorem dL_law_249 : decode code 249 = .ok (.iload 9, 2) := by decide +kernel
theorem dL_law_251 : decode code 251 = .ok (.iconst (-1), 1) := by decide +kernel
theorem dL_law_252 : decode code 252 = .ok (.iastore, 1) := by decide +kernel
theorem dL_law_253 : decode code 253 = .ok (.aload_n 1, 1) := by decide +kernel
theorem dL_law_254 : decode code 254 = .ok (.iload 17, 2) := by decide +kernel
theorem dL_law_256 : decode code 256 = .ok (.bipush 25, 2) := by decide +kernel
theorem dL_law_258 : decode code 258 = .ok (.idiv, 1) := by decide +kernel
theorem dL_law_259 : decode code 259 = .ok (.iconst 3, 1) := by decide +kernel
theorem dL_law_260 : decode code 260 = .ok (.irem, 1) := by decide +kernel
theorem dL_law_261 : decode code 261 = .ok (.aload_n 3, 1) := by decide +kernel
theorem dL_law_262 : decode code 262 = .ok (.iload 9, 2) := by decide +kernel
theorem dL_law_264 : decode code 264 = .ok (.iaload, 1) := by decide +kernel
theorem dL_law_265 : decode code 265 = .ok (.aload 4, 2) := by decide +kernel
theorem dL_law_267 : decode code 267 = .ok (.iload 9, 2) := by decide +kernel
theorem dL_law_269 : decode code 269 = .ok (.iaload, 1) := by decide +kernel
theorem dL_law_270 : decode code 270 = .ok (.iload 17, 2) := by decide +kernel
theorem dL_law_272 : decode code 272 = .ok (.bipush 75, 2) := by decide +kernel
theorem dL_law_274 : decode code 274 = .ok (.idiv, 1) := by decide +kernel
theorem dL_law_275 : decode code 275 = .ok (.iconst 3, 1) := by decide +kernel
theorem dL_law_276 : decode code 276 = .ok (.irem, 1) := by decide +kernel
theorem dL_law_277 : decode code 277 = .ok (.invokestatic 156, 3) := by decide +kernel
theorem dL_law_280 : decode code 280 = .ok (.iload 9, 2) := by decide +kernel
theorem dL_law_282 : decode code 282 = .ok (.if_icmp .ne 7, 3) := by decide +kernel
theorem dL_law_285 : decode code 285 = .ok (.iconst 1, 1) := by decide +kernel
theorem dL_law_286 : decode code 286 = .ok (.goto 4, 3) := by decide +kernel
theorem dL_law_289 : decode code 289 = .ok (.iconst 0, 1) := by decide +kernel
theorem dL_law_290 : decode code 290 = .ok (.istore 7, 2) := by decide +kernel
theorem dL_law_292 : decode code 292 = .ok (.iinc 9 1, 3) := by decide +kernel
theorem dL_law_295 : decode code 295 = .ok (.goto 1133, 3) := by decide +kernel
theorem dL_law_298 : decode code 298 = .ok (.iload 15, 2) := by decide +kernel
theorem dL_law_300 : decode code 300 = .ok (.iconst 4, 1) := by decide +kernel
theorem dL_law_301 : decode code 301 = .ok (.if_icmp .ge 114, 3) := by decide +kernel
theorem dL_law_304 : decode code 304 = .ok (.iload 11, 2) := by decide +kernel
theorem dL_law_306 : decode code 306 = .ok (.bipush 60, 2) := by decide +kernel
theorem dL_law_308 : decode code 308 = .ok (.if_icmp .ge 7, 3) := by decide +kernel
theorem dL_law_311 : decode code 311 = .ok (.iconst 1, 1) := by decide +kernel
theorem dL_law_312 : decode code 312 = .ok (.goto 4, 3) := by decide +kernel
theorem dL_law_315 : decode code 315 = .ok (.iconst 0, 1) := by decide +kernel
theorem dL_law_316 : decode code 316 = .ok (.istore 18, 2) := by decide +kernel
theorem dL_law_318 : decode code 318 = .ok (.aload_n 1, 1) := by decide +kernel
theorem dL_law_319 : decode code 319 = .ok (.iload 17, 2) := by decide +kernel
theorem dL_law_321 : decode code 321 = .ok (.iconst 3, 1) := by decide +kernel
theorem dL_law_322 : decode code 322 = .ok (.irem, 1) := by decide +kernel
theorem dL_law_323 : decode code 323 = .ok (.iload 17, 2) := by decide +kernel
theorem dL_law_325 : decode code 325 = .ok (.iconst 3, 1) := by decide +kernel
theorem dL_law_326 : decode code 326 = .ok (.idiv, 1) := by decide +kernel
theorem dL_law_327 : decode code 327 = .ok (.bipush 8, 2) := by decide +kernel
theorem dL_law_329 : decode code 329 = .ok (.irem, 1) := by decide +kernel
theorem dL_law_330 : decode code 330 = .ok (.iload 17, 2) := by decide +kernel
theorem dL_law_332 : decode code 332 = .ok (.bipush 24, 2) := by decide +kernel
theorem dL_law_334 : decode code 334 = .ok (.idiv, 1) := by decide +kernel
theorem dL_law_335 : decode code 335 = .ok (.bipush 50, 2) := by decide +kernel
theorem dL_law_337 : decode code 337 = .ok (.irem, 1) := by decide +kernel
theorem dL_law_338 : decode code 338 = .ok (.bipush 50, 2) := by decide +kernel
theorem dL_law_340 : decode code 340 = .ok (.iload 17, 2) := by decide +kernel
theorem dL_law_342 : decode code 342 = .ok (.sipush 1200, 3) := by decide +kernel
theorem dL_law_345 : decode code 345 = .ok (.idiv, 1) := by decide +kernel
theorem dL_law_346 : decode code 346 = .ok (.sipush 900, 3) := by decide +kernel
theorem dL_law_349 : decode code 349 = .ok (.irem, 1) := by decide +kernel
theorem dL_law_350 : decode code 350 = .ok (.iadd, 1) := by decide +kernel
theorem dL_law_351 : decode code 351 = .ok (.invokestatic 159, 3) := by decide +kernel
theorem dL_law_354 : decode code 354 = .ok (.iload 18, 2) := by decide +kernel
theorem dL_law_356 : decode code 356 = .ok (.ifCond .eq 8, 3) := by decide +kernel
theorem dL_law_359 : decode code 359 = .ok (.iload 11, 2) := by decide +kernel
theorem dL_law_361 : decode code 361 = .ok (.goto 5, 3) := by decide +kernel
theorem dL_law_364 : decode code 364 = .ok (.bipush (-103), 2) := by decide +kernel
theorem dL_law_366 : decode code 366 = .ok (.if_icmp .ne 28, 3) := by decide +kernel
theorem dL_law_369 : decode code 369 = .ok (.aload_n 1, 1) := by decide +kernel
theorem dL_law_370 : decode code 370 = .ok (.iload 17, 2) := by decide +kernel
theorem dL_law_372 : decode code 372 = .ok (.iconst 3, 1) := by decide +kernel
theorem dL_law_373 : decode code 373 = .ok (.irem, 1) := by decide +kernel
theorem dL_law_374 : decode code 374 = .ok (.iload 17, 2) := by decide +kernel
theorem dL_law_376 : decode code 376 = .ok (.iconst 3, 1) := by decide +kernel
theorem dL_law_377 : decode code 377 = .ok (.idiv, 1) := by decide +kernel
theorem dL_law_378 : decode code 378 = .ok (.bipush 8, 2) := by decide +kernel
theorem dL_law_380 : decode code 380 = .ok (.irem, 1) := by decide +kernel
theorem dL_law_381 : decode code 381 = .ok (.bipush 50, 2) := by decide +kernel
theorem dL_law_383 : decode code 383 = .ok (.invokestatic 161, 3) := by decide +kernel
theorem dL_law_386 : decode code 386 = .ok (.iconst 1, 1) := by decide +kernel
theorem dL_law_387 : decode code 387 = .ok (.if_icmp .ne 7, 3) := by decide +kernel
theorem dL_law_390 : decode code 390 = .ok (.iconst 1, 1) := by decide +kernel
theorem dL_law_391 : decode code 391 = .ok (.goto 4, 3) := by decide +kernel
theorem dL_law_394 : decode code 394 = .ok (.iconst 0, 1) := by decide +kernel
theorem dL_law_395 : decode code 395 = .ok (.istore 7, 2) := by decide +kernel
theorem dL_law_397 : decode code 397 = .ok (.iload 11, 2) := by decide +kernel
theorem dL_law_399 : decode code 399 = .ok (.iload 18, 2) := by decide +kernel
theorem dL_law_401 : decode code 401 = .ok (.ifCond .eq 7, 3) := by decide +kernel
theorem dL_law_404 : decode code 404 = .ok (.iconst 1, 1) := by decide +kernel
theorem dL_law_405 : decode code 405 = .ok (.goto 4, 3) := by decide +kernel
theorem dL_law_408 : decode code 408 = .ok (.iconst 0, 1) := by decide +kernel
theorem dL_law_409 : decode code 409 = .ok (.iadd, 1) := by decide +kernel
theorem dL_law_410 : decode code 410 = .ok (.istore 11, 2) := by decide +kernel
theorem dL_law_412 : decode code 412 = .ok (.goto 1016, 3) := by decide +kernel
theorem dL_law_415 : decode code 415 = .ok (.iload 15, 2) := by decide +kernel
theorem dL_law_417 : decode code 417 = .ok (.bipush 9, 2) := by decide +kernel
theorem dL_law_419 : decode code 419 = .ok (.if_icmp .ge 363, 3) := by decide +kernel
theorem dL_law_422 : decode code 422 = .ok (.aload_n 3, 1) := by decide +kernel
theorem dL_law_423 : decode code 423 = .ok (.iload 16, 2) := by decide +kernel
theorem dL_law_425 : decode code 425 = .ok (.iaload, 1) := by decide +kernel
theorem dL_law_426 : decode code 426 = .ok (.istore 18, 2) := by decide +kernel
theorem dL_law_428 : decode code 428 = .ok (.iconst 1, 1) := by decide +kernel
theorem dL_law_429 : decode code 429 = .ok (.iload 17, 2) := by decide +kernel
theorem dL_law_431 : decode code 431 = .ok (.iload 18, 2) := by decide +kernel
theorem dL_law_433 : decode code 433 = .ok (.irem, 1) := by decide +kernel
theorem dL_law_434 : decode code 434 = .ok (.iadd, 1) := by decide +kernel
theorem dL_law_435 : decode code 435 = .ok (.istore 19, 2) := by decide +kernel
theorem dL_law_437 : decode code 437 = .ok (.iconst 0, 1) := by decide +kernel
theorem dL_law_438 : decode code 438 = .ok (.istore 20, 2) := by decide +kernel
theorem dL_law_440 : decode code 440 = .ok (.iconst 0, 1) := by decide +kernel
theorem dL_law_441 : decode code 441 = .ok (.istore 21, 2) := by decide +kernel
theorem dL_law_443 : decode code 443 = .ok (.iload 21, 2) := by decide +kernel
theorem dL_law_445 : decode code 445 = .ok (.iload 19, 2) := by decide +kernel
theorem dL_law_447 : decode code 447 = .ok (.if_icmp .ge 62, 3) := by decide +kernel
theorem dL_law_450 : decode code 450 = .ok (.iload 7, 2) := by decide +kernel
theorem dL_law_452 : decode code 452 = .ok (.ifCond .eq 57, 3) := by decide +kernel
theorem dL_law_455 : decode code 455 = .ok (.iload 10, 2) := by decide +kernel
theorem dL_law_457 : decode code 457 = .ok (.bipush 48, 2) := by decide +kernel
theorem dL_law_459 : decode code 459 = .ok (.if_icmp .ge 50, 3) := by decide +kernel
theorem dL_law_462 : decode code 462 = .ok (.aload_n 1, 1) := by decide +kernel
theorem dL_law_463 : decode code 463 = .ok (.iload 17, 2) := by decide +kernel
theorem dL_law_465 : decode code 465 = .ok (.bipush 7, 2) := by decide +kernel
theorem dL_law_467 : decode code 467 = .ok (.idiv, 1) := by decide +kernel
theorem dL_law_468 : decode code 468 = .ok (.iload 21, 2) := by decide +kernel
theorem dL_law_470 : decode code 470 = .ok (.iload 18, 2) := by decide +kernel
theorem dL_law_472 : decode code 472 = .ok (.iconst 5, 1) := by decide +kernel
theorem dL_law_473 : decode code 473 = .ok (.if_icmp .ne 7, 3) := by decide +kernel
theorem dL_law_476 : decode code 476 = .ok (.iconst 2, 1) := by decide +kernel
theorem dL_law_477 : decode code 477 = .ok (.goto 4, 3) := by decide +kernel
theorem dL_law_480 : decode code 480 = .ok (.iconst 1, 1) := by decide +kernel
theorem dL_law_481 : decode code 481 = .ok (.imul, 1) := by decide +kernel
theorem dL_law_482 : decode code 482 = .ok (.iadd, 1) := by decide +kernel
theorem dL_law_483 : decode code 483 = .ok (.iload 18, 2) := by decide +kernel
theorem dL_law_485 : decode code 485 = .ok (.irem, 1) := by decide +kernel
theorem dL_law_486 : decode code 486 = .ok (.invokestatic 164, 3) := by decide +kernel
theorem dL_law_489 : decode code 489 = .ok (.iload 21, 2) := by decide +kernel
theorem dL_law_491 : decode code 491 = .ok (.iconst 1, 1) := by decide +kernel
theorem dL_law_492 : decode code 492 = .ok (.iadd, 1) := by decide +kernel
theorem dL_law_493 : decode code 493 = .ok (.if_icmp .ne 7, 3) := by decide +kernel
theorem dL_law_496 : decode code 496 = .ok (.iconst 1, 1) := by decide +kernel
theorem dL_law_497 : decode code 497 = .ok (.goto 4, 3) := by decide +kernel
theorem dL_law_500 : decode code 500 = .ok (.iconst 0, 1) := by decide +kernel
theorem dL_law_501 : decode code 501 = .ok (.istore 7, 2) := by decide +kernel
theorem dL_law_503 : decode code 503 = .ok (.iinc 21 1, 3) := by decide +kernel
theorem dL_law_506 : decode code 506 = .ok (.goto (-63), 3) := by decide +kernel
theorem dL_law_509 : decode code 509 = .ok (.aload_n 1, 1) := by decide +kernel
theorem dL_law_510 : decode code 510 = .ok (.iload 16, 2) := by decide +kernel
theorem dL_law_512 : decode code 512 = .ok (.iload 17, 2) := by decide +kernel
theorem dL_law_514 : decode code 514 = .ok (.bipush 49, 2) := by decide +kernel
theorem dL_law_516 : decode code 516 = .ok (.idiv, 1) := by decide +kernel
theorem dL_law_517 : decode code 517 = .ok (.bipush 8, 2) := by decide +kernel
theorem dL_law_519 : decode code 519 = .ok (.irem, 1) := by decide +kernel
theorem dL_law_520 : decode code 520 = .ok (.invokestatic 166, 3) := by decide +kernel
theorem dL_law_523 : decode code 523 = .ok (.istore 20, 2) := by decide +kernel
theorem dL_law_525 : decode code 525 = .ok (.iload 7, 2) := by decide +kernel
theorem dL_law_527 : decode code 527 = .ok (.ifCond .eq 88, 3) := by decide +kernel
theorem dL_law_530 : decode code 530 = .ok (.iload 10, 2) := by decide +kernel
theorem dL_law_532 : decode code 532 = .ok (.bipush 48, 2) := by decide +kernel
theorem dL_law_534 : decode code 534 = .ok (.if_icmp .ge 70, 3) := by decide +kernel
theorem dL_law_537 : decode code 537 = .ok (.aload_n 1, 1) := by decide +kernel
theorem dL_law_538 : decode code 538 = .ok (.iload 16, 2) := by decide +kernel
theorem dL_law_540 : decode code 540 = .ok (.invokestatic 168, 3) := by decide +kernel
theorem dL_law_543 : decode code 543 = .ok (.iconst (-1), 1) := by decide +kernel
theorem dL_law_544 : decode code 544 = .ok (.if_icmp .lt 60, 3) := by decide +kernel
theorem dL_law_547 : decode code 547 = .ok (.iload 20, 2) := by decide +kernel
theorem dL_law_549 : decode code 549 = .ok (.ifCond .lt 55, 3) := by decide +kernel
theorem dL_law_552 : decode code 552 = .ok (.iload 20, 2) := by decide +kernel
theorem dL_law_554 : decode code 554 = .ok (.iload 10, 2) := by decide +kernel
theorem dL_law_556 : decode code 556 = .ok (.if_icmp .ne 59, 3) := by decide +kernel
theorem dL_law_559 : decode code 559 = .ok (.aload_n 1, 1) := by decide +kernel
theorem dL_law_560 : decode code 560 = .ok (.iload 20, 2) := by decide +kernel
theorem dL_law_562 : decode code 562 = .ok (.invokestatic 170, 3) := by decide +kernel
theorem dL_law_565 : decode code 565 = .ok (.iconst 1, 1) := by decide +kernel
theorem dL_law_566 : decode code 566 = .ok (.if_icmp .eq 49, 3) := by decide +kernel
theorem dL_law_569 : decode code 569 = .ok (.aload_n 1, 1) := by decide +kernel
theorem dL_law_570 : decode code 570 = .ok (.iload 20, 2) := by decide +kernel
theorem dL_law_572 : decode code 572 = .ok (.iload 19, 2) := by decide +kernel
theorem dL_law_574 : decode code 574 = .ok (.iconst 1, 1) := by decide +kernel
theorem dL_law_575 : decode code 575 = .ok (.isub, 1) := by decide +kernel
theorem dL_law_576 : decode code 576 = .ok (.invokestatic 172, 3) := by decide +kernel
theorem dL_law_579 : decode code 579 = .ok (.ifCond .lt 36, 3) := by decide +kernel
theorem dL_law_582 : decode code 582 = .ok (.iload 19, 2) := by decide +kernel
theorem dL_law_584 : decode code 584 = .ok (.bipush 6, 2) := by decide +kernel
theorem dL_law_586 : decode code 586 = .ok (.if_icmp .eq 25, 3) := by decide +kernel
theorem dL_law_589 : decode code 589 = .ok (.aload_n 1, 1) := by decide +kernel
theorem dL_law_590 : decode code 590 = .ok (.iload 20, 2) := by decide +kernel
theorem dL_law_592 : decode code 592 = .ok (.iload 19, 2) := by decide +kernel
theorem dL_law_594 : decode code 594 = .ok (.invokestatic 172, 3) := by decide +kernel
theorem dL_law_597 : decode code 597 = .ok (.iconst (-1), 1) := by decide +kernel
theorem dL_law_598 : decode code 598 = .ok (.if_icmp .ne 17, 3) := by decide +kernel
theorem dL_law_601 : decode code 601 = .ok (.goto 10, 3) := by decide +kernel
theorem dL_law_604 : decode code 604 = .ok (.iload 20, 2) := by decide +kernel
theorem dL_law_606 : decode code 606 = .ok (.bipush (-103), 2) := by decide +kernel
theorem dL_law_608 : decode code 608 = .ok (.if_icmp .ne 7, 3) := by decide +kernel
theorem dL_law_611 : decode code 611 = .ok (.iconst 1, 1) := by decide +kernel
theorem dL_law_612 : decode code 612 = .ok (.goto 4, 3) := by decide +kernel
theorem dL_law_615 : decode code 615 = .ok (.iconst 0, 1) := by decide +kernel
theorem dL_law_616 : decode code 616 = .ok (.istore 7, 2) := by decide +kernel
theorem dL_law_618 : decode code 618 = .ok (.iload 7, 2) := by decide +kernel
theorem dL_law_620 : decode code 620 = .ok (.ifCond .eq 33, 3) := by decide +kernel
theorem dL_law_623 : decode code 623 = .ok (.iload 20, 2) := by decide +kernel
theorem dL_law_625 : decode code 625 = .ok (.ifCond .lt 28, 3) := by decide +kernel
theorem dL_law_628 : decode code 628 = .ok (.aload 6, 2) := by decide +kernel
theorem dL_law_630 : decode code 630 = .ok (.iload 10, 2) := by decide +kernel
theorem dL_law_632 : decode code 632 = .ok (.bipush 100, 2) := by decide +kernel
theorem dL_law_634 : decode code 634 = .ok (.iload 16, 2) := by decide +kernel
theorem dL_law_636 : decode code 636 = .ok (.imul, 1) := by decide +kernel
theorem dL_law_637 : decode code 637 = .ok (.iload 17, 2) := by decide +kernel
theorem dL_law_639 : decode code 639 = .ok (.bipush 49, 2) := by decide +kernel
theorem dL_law_641 : decode code 641 = .ok (.idiv, 1) := by decide +kernel
theorem dL_law_642 : decode code 642 = .ok (.bipush 8, 2) := by decide +kernel
theorem dL_law_644 : decode code 644 = .ok (.irem, 1) := by decide +kernel
theorem dL_law_645 : decode code 645 = .ok (.iadd, 1) := by decide +kernel
theorem dL_law_646 : decode code 646 = .ok (.iastore, 1) := by decide +kernel
theorem dL_law_647 : decode code 647 = .ok (.iinc 10 1, 3) := by decide +kernel
theorem dL_law_650 : decode code 650 = .ok (.goto 129, 3) := by decide +kernel
theorem dL_law_653 : decode code 653 = .ok (.iload 7, 2) := by decide +kernel
theorem dL_law_655 : decode code 655 = .ok (.ifCond .eq 124, 3) := by decide +kernel
theorem dL_law_658 : decode code 658 = .ok (.iload 10, 2) := by decide +kernel
theorem dL_law_660 : decode code 660 = .ok (.bipush 48, 2) := by decide +kernel
theorem dL_law_662 : decode code 662 = .ok (.if_icmp .ge 117, 3) := by decide +kernel
theorem dL_law_665 : decode code 665 = .ok (.iload 9, 2) := by decide +kernel
theorem dL_law_667 : decode code 667 = .ok (.bipush 6, 2) := by decide +kernel
theorem dL_law_669 : decode code 669 = .ok (.if_icmp .eq 17, 3) := by decide +kernel
theorem dL_law_672 : decode code 672 = .ok (.aload_n 1, 1) := by decide +kernel
theorem dL_law_673 : decode code 673 = .ok (.iconst 0, 1) := by decide +kernel
theorem dL_law_674 : decode code 674 = .ok (.bipush 6, 2) := by decide +kernel
theorem dL_law_676 : decode code 676 = .ok (.iconst 1, 1) := by decide +kernel
theorem dL_law_677 : decode code 677 = .ok (.iconst 0, 1) := by decide +kernel
theorem dL_law_678 : decode code 678 = .ok (.invokestatic 156, 3) := by decide +kernel
theorem dL_law_681 : decode code 681 = .ok (.iload 9, 2) := by decide +kernel
theorem dL_law_683 : decode code 683 = .ok (.if_icmp .ne 7, 3) := by decide +kernel
theorem dL_law_686 : decode code 686 = .ok (.iconst 1, 1) := by decide +kernel
theorem dL_law_687 : decode code 687 = .ok (.goto 4, 3) := by decide +kernel
theorem dL_law_690 : decode code 690 = .ok (.iconst 0, 1) := by decide +kernel
theorem dL_law_691 : decode code 691 = .ok (.istore 7, 2) := by decide +kernel
theorem dL_law_693 : decode code 693 = .ok (.iload 9, 2) := by decide +kernel
theorem dL_law_695 : decode code 695 = .ok (.bipush 6, 2) := by decide +kernel
theorem dL_law_697 : decode code 697 = .ok (.if_icmp .ge 64, 3) := by decide +kernel
theorem dL_law_700 : decode code 700 = .ok (.aload_n 3, 1) := by decide +kernel
theorem dL_law_701 : decode code 701 = .ok (.iload 9, 2) := by decide +kernel
theorem dL_law_703 : decode code 703 = .ok (.bipush 6, 2) := by decide +kernel
theorem dL_law_705 : decode code 705 = .ok (.iastore, 1) := by decide +kernel
theorem dL_law_706 : decode code 706 = .ok (.aload 4, 2) := by decide +kernel
theorem dL_law_708 : decode code 708 = .ok (.iload 9, 2) := by decide +kernel
theorem dL_law_710 : decode code 710 = .ok (.iconst 1, 1) := by decide +kernel
theorem dL_law_711 : decode code 711 = .ok (.iastore, 1) := by decide +kernel
theorem dL_law_712 : decode code 712 = .ok (.aload 5, 2) := by decide +kernel
theorem dL_law_714 : decode code 714 = .ok (.iload 9, 2) := by decide +kernel
theorem dL_law_716 : decode code 716 = .ok (.iconst (-1), 1) := by decide +kernel
theorem dL_law_717 : decode code 717 = .ok (.iastore, 1) := by decide +kernel
theorem dL_law_718 : decode code 718 = .ok (.iload 7, 2) := by decide +kernel
theorem dL_law_720 : decode code 720 = .ok (.ifCond .eq 19, 3) := by decide +kernel
theorem dL_law_723 : decode code 723 = .ok (.aload_n 1, 1) := by decide +kernel
theorem dL_law_724 : decode code 724 = .ok (.iload 9, 2) := by decide +kernel
theorem dL_law_726 : decode code 726 = .ok (.iconst 0, 1) := by decide +kernel
theorem dL_law_727 : decode code 727 = .ok (.invokestatic 166, 3) := by decide +kernel
theorem dL_law_730 : decode code 730 = .ok (.iload 10, 2) := by decide +kernel
theorem dL_law_732 : decode code 732 = .ok (.if_icmp .ne 7, 3) := by decide +kernel
theorem dL_law_735 : decode code 735 = .ok (.iconst 1, 1) := by decide +kernel
theorem dL_law_736 : decode code 736 = .ok (.goto 4, 3) := by decide +kernel
theorem dL_law_739 : decode code 739 = .ok (.iconst 0, 1) := by decide +kernel
theorem dL_law_740 : decode code 740 = .ok (.istore 7, 2) := by decide +kernel
theorem dL_law_742 : decode code 742 = .ok (.aload 6, 2) := by decide +kernel
theorem dL_law_744 : decode code 744 = .ok (.iload 10, 2) := by decide +kernel
theorem dL_law_746 : decode code 746 = .ok (.bipush 100, 2) := by decide +kernel
theorem dL_law_748 : decode code 748 = .ok (.iload 9, 2) := by decide +kernel
theorem dL_law_750 : decode code 750 = .ok (.imul, 1) := by decide +kernel
theorem dL_law_751 : decode code 751 = .ok (.iastore, 1) := by decide +kernel
theorem dL_law_752 : decode code 752 = .ok (.iinc 9 1, 3) := by decide +kernel
theorem dL_law_755 : decode code 755 = .ok (.iinc 10 1, 3) := by decide +kernel
theorem dL_law_758 : decode code 758 = .ok (.goto 21, 3) := by decide +kernel
theorem dL_law_761 : decode code 761 = .ok (.iload 7, 2) := by decide +kernel
theorem dL_law_763 : decode code 763 = .ok (.ifCond .eq 14, 3) := by decide +kernel
theorem dL_law_766 : decode code 766 = .ok (.aload_n 1, 1) := by decide +kernel
theorem dL_law_767 : decode code 767 = .ok (.invokevirtual 144, 3) := by decide +kernel
theorem dL_law_770 : decode code 770 = .ok (.ifCond .lt 7, 3) := by decide +kernel
theorem dL_law_773 : decode code 773 = .ok (.iconst 1, 1) := by decide +kernel
theorem dL_law_774 : decode code 774 = .ok (.goto 4, 3) := by decide +kernel
theorem dL_law_777 : decode code 777 = .ok (.iconst 0, 1) := by decide +kernel
theorem dL_law_778 : decode code 778 = .ok (.ireturn, 1) := by decide +kernel
theorem dL_law_779 : decode code 779 = .ok (.goto 649, 3) := by decide +kernel
theorem dL_law_782 : decode code 782 = .ok (.iload 15, 2) := by decide +kernel
theorem dL_law_784 : decode code 784 = .ok (.bipush 9, 2) := by decide +kernel
theorem dL_law_786 : decode code 786 = .ok (.if_icmp .ne 27, 3) := by decide +kernel
theorem dL_law_789 : decode code 789 = .ok (.aload_n 1, 1) := by decide +kernel
theorem dL_law_790 : decode code 790 = .ok (.iconst 1, 1) := by decide +kernel
theorem dL_law_791 : decode code 791 = .ok (.iload 17, 2) := by decide +kernel
theorem dL_law_793 : decode code 793 = .ok (.bipush 12, 2) := by decide +kernel
theorem dL_law_795 : decode code 795 = .ok (.irem, 1) := by decide +kernel
theorem dL_law_796 : decode code 796 = .ok (.iadd, 1) := by decide +kernel
theorem dL_law_797 : decode code 797 = .ok (.invokestatic 174, 3) := by decide +kernel
theorem dL_law_800 : decode code 800 = .ok (.ifCond .le 7, 3) := by decide +kernel
theorem dL_law_803 : decode code 803 = .ok (.iconst 1, 1) := by decide +kernel
theorem dL_law_804 : decode code 804 = .ok (.goto 4, 3) := by decide +kernel
theorem dL_law_807 : decode code 807 = .ok (.iconst 0, 1) := by decide +kernel
theorem dL_law_808 : decode code 808 = .ok (.istore 7, 2) := by decide +kernel
theorem dL_law_810 : decode code 810 = .ok (.goto 618, 3) := by decide +kernel
theorem dL_law_813 : decode code 813 = .ok (.iload 15, 2) := by decide +kernel
theorem dL_law_815 : decode code 815 = .ok (.bipush 10, 2) := by decide +kernel
theorem dL_law_817 : decode code 817 = .ok (.if_icmp .ne 139, 3) := by decide +kernel
theorem dL_law_820 : decode code 820 = .ok (.iconst 0, 1) := by decide +kernel
theorem dL_law_821 : decode code 821 = .ok (.istore 18, 2) := by decide +kernel
theorem dL_law_823 : decode code 823 = .ok (.iconst 0, 1) := by decide +kernel
theorem dL_law_824 : decode code 824 = .ok (.istore 19, 2) := by decide +kernel
theorem dL_law_826 : decode code 826 = .ok (.iconst 0, 1) := by decide +kernel
theorem dL_law_827 : decode code 827 = .ok (.istore 20, 2) := by decide +kernel
theorem dL_law_829 : decode code 829 = .ok (.iload 20, 2) := by decide +kernel
theorem dL_law_831 : decode code 831 = .ok (.iload 10, 2) := by decide +kernel
theorem dL_law_833 : decode code 833 = .ok (.if_icmp .ge 28, 3) := by decide +kernel
theorem dL_law_836 : decode code 836 = .ok (.iload 18, 2) := by decide +kernel
theorem dL_law_838 : decode code 838 = .ok (.aload_n 1, 1) := by decide +kernel
theorem dL_law_839 : decode code 839 = .ok (.iload 20, 2) := by decide +kernel
theorem dL_law_841 : decode code 841 = .ok (.invokestatic 170, 3) := by decide +kernel
theorem dL_law_844 : decode code 844 = .ok (.ifCond .ne 7, 3) := by decide +kernel
theorem dL_law_847 : decode code 847 = .ok (.iconst 1, 1) := by decide +kernel
theorem dL_law_848 : decode code 848 = .ok (.goto 4, 3) := by decide +kernel
theorem dL_law_851 : decode code 851 = .ok (.iconst 0, 1) := by decide +kernel
theorem dL_law_852 : decode code 852 = .ok (.iadd, 1) := by decide +kernel
theorem dL_law_853 : decode code 853 = .ok (.istore 18, 2) := by decide +kernel
theorem dL_law_855 : decode code 855 = .ok (.iinc 20 1, 3) := by decide +kernel
theorem dL_law_858 : decode code 858 = .ok (.goto (-29), 3) := by decide +kernel
theorem dL_law_861 : decode code 861 = .ok (.aload_n 1, 1) := by decide +kernel
theorem dL_law_862 : decode code 862 = .ok (.iload 11, 2) := by decide +kernel
theorem dL_law_864 : decode code 864 = .ok (.ifCond .ne 7, 3) := by decide +kernel
theorem dL_law_867 : decode code 867 = .ok (.iconst 0, 1) := by decide +kernel
theorem dL_law_868 : decode code 868 = .ok (.goto 8, 3) := by decide +kernel
theorem dL_law_871 : decode code 871 = .ok (.iload 17, 2) := by decide +kernel
theorem dL_law_873 : decode code 873 = .ok (.iload 11, 2) := by decide +kernel
theorem dL_law_875 : decode code 875 = .ok (.irem, 1) := by decide +kernel
theorem dL_law_876 : decode code 876 = .ok (.invokestatic 176, 3) := by decide +kernel
theorem dL_law_879 : decode code 879 = .ok (.istore 20, 2) := by decide +kernel
theorem dL_law_881 : decode code 881 = .ok (.iconst 0, 1) := by decide +kernel
theorem dL_law_882 : decode code 882 = .ok (.istore 21, 2) := by decide +kernel
theorem dL_law_884 : decode code 884 = .ok (.iload 21, 2) := by decide +kernel
theorem dL_law_886 : decode code 886 = .ok (.iload 10, 2) := by decide +kernel
theorem dL_law_888 : decode code 888 = .ok (.if_icmp .ge 28, 3) := by decide +kernel
theorem dL_law_891 : decode code 891 = .ok (.iload 19, 2) := by decide +kernel
theorem dL_law_893 : decode code 893 = .ok (.aload_n 1, 1) := by decide +kernel
theorem dL_law_894 : decode code 894 = .ok (.iload 21, 2) := by decide +kernel
theorem dL_law_896 : decode code 896 = .ok (.invokestatic 170, 3) := by decide +kernel
theorem dL_law_899 : decode code 899 = .ok (.ifCond .ne 7, 3) := by decide +kernel
theorem dL_law_902 : decode code 902 = .ok (.iconst 1, 1) := by decide +kernel
theorem dL_law_903 : decode code 903 = .ok (.goto 4, 3) := by decide +kernel
theorem dL_law_906 : decode code 906 = .ok (.iconst 0, 1) := by decide +kernel
theorem dL_law_907 : decode code 907 = .ok (.iadd, 1) := by decide +kernel
theorem dL_law_908 : decode code 908 = .ok (.istore 19, 2) := by decide +kernel
theorem dL_law_910 : decode code 910 = .ok (.iinc 21 1, 3) := by decide +kernel
theorem dL_law_913 : decode code 913 = .ok (.goto (-29), 3) := by decide +kernel
theorem dL_law_916 : decode code 916 = .ok (.iload 20, 2) := by decide +kernel
theorem dL_law_918 : decode code 918 = .ok (.ifCond .ge 18, 3) := by decide +kernel
theorem dL_law_921 : decode code 921 = .ok (.iload 18, 2) := by decide +kernel
theorem dL_law_923 : decode code 923 = .ok (.iload 19, 2) := by decide +kernel
theorem dL_law_925 : decode code 925 = .ok (.if_icmp .ne 7, 3) := by decide +kernel
theorem dL_law_928 : decode code 928 = .ok (.iconst 1, 1) := by decide +kernel
theorem dL_law_929 : decode code 929 = .ok (.goto 22, 3) := by decide +kernel
theorem dL_law_932 : decode code 932 = .ok (.iconst 0, 1) := by decide +kernel
theorem dL_law_933 : decode code 933 = .ok (.goto 18, 3) := by decide +kernel
theorem dL_law_936 : decode code 936 = .ok (.iload 20, 2) := by decide +kernel
theorem dL_law_938 : decode code 938 = .ok (.iload 18, 2) := by decide +kernel
theorem dL_law_940 : decode code 940 = .ok (.iload 19, 2) := by decide +kernel
theorem dL_law_942 : decode code 942 = .ok (.isub, 1) := by decide +kernel
theorem dL_law_943 : decode code 943 = .ok (.if_icmp .ne 7, 3) := by decide +kernel
theorem dL_law_946 : decode code 946 = .ok (.iconst 1, 1) := by decide +kernel
theorem dL_law_947 : decode code 947 = .ok (.goto 4, 3) := by decide +kernel
theorem dL_law_950 : decode code 950 = .ok (.iconst 0, 1) := by decide +kernel
theorem dL_law_951 : decode code 951 = .ok (.istore 7, 2) := by decide +kernel
theorem dL_law_953 : decode code 953 = .ok (.goto 475, 3) := by decide +kernel
theorem dL_law_956 : decode code 956 = .ok (.iload 15, 2) := by decide +kernel
theorem dL_law_958 : decode code 958 = .ok (.bipush 11, 2) := by decide +kernel
theorem dL_law_960 : decode code 960 = .ok (.if_icmp .ne 111, 3) := by decide +kernel
theorem dL_law_963 : decode code 963 = .ok (.iload 10, 2) := by decide +kernel
theorem dL_law_965 : decode code 965 = .ok (.ifCond .le 106, 3) := by decide +kernel
theorem dL_law_968 : decode code 968 = .ok (.iload 17, 2) := by decide +kernel
theorem dL_law_970 : decode code 970 = .ok (.iload 10, 2) := by decide +kernel
theorem dL_law_972 : decode code 972 = .ok (.irem, 1) := by decide +kernel
theorem dL_law_973 : decode code 973 = .ok (.istore 18, 2) := by decide +kernel
theorem dL_law_975 : decode code 975 = .ok (.aload_n 1, 1) := by decide +kernel
theorem dL_law_976 : decode code 976 = .ok (.iload 18, 2) := by decide +kernel
theorem dL_law_978 : decode code 978 = .ok (.iconst 0, 1) := by decide +kernel
theorem dL_law_979 : decode code 979 = .ok (.invokestatic 172, 3) := by decide +kernel
theorem dL_law_982 : decode code 982 = .ok (.istore 19, 2) := by decide +kernel
theorem dL_law_984 : decode code 984 = .ok (.aload_n 1, 1) := by decide +kernel
theorem dL_law_985 : decode code 985 = .ok (.iload 18, 2) := by decide +kernel
theorem dL_law_987 : decode code 987 = .ok (.iconst 1, 1) := by decide +kernel
theorem dL_law_988 : decode code 988 = .ok (.invokestatic 172, 3) := by decide +kernel
theorem dL_law_991 : decode code 991 = .ok (.istore 20, 2) := by decide +kernel
theorem dL_law_993 : decode code 993 = .ok (.aload_n 1, 1) := by decide +kernel
theorem dL_law_994 : decode code 994 = .ok (.iload 18, 2) := by decide +kernel
theorem dL_law_996 : decode code 996 = .ok (.invokestatic 178, 3) := by decide +kernel
theorem dL_law_999 : decode code 999 = .ok (.istore 21, 2) := by decide +kernel
theorem dL_law_1001 : decode code 1001 = .ok (.iload 21, 2) := by decide +kernel
theorem dL_law_1003 : decode code 1003 = .ok (.ifCond .ne 51, 3) := by decide +kernel
theorem dL_law_1006 : decode code 1006 = .ok (.aload_n 1, 1) := by decide +kernel
theorem dL_law_1007 : decode code 1007 = .ok (.iload 18, 2) := by decide +kernel
theorem dL_law_1009 : decode code 1009 = .ok (.iconst 0, 1) := by decide +kernel
theorem dL_law_1010 : decode code 1010 = .ok (.invokestatic 172, 3) := by decide +kernel
theorem dL_law_1013 : decode code 1013 = .ok (.iload 20, 2) := by decide +kernel
theorem dL_law_1015 : decode code 1015 = .ok (.if_icmp .ne 35, 3) := by decide +kernel
theorem dL_law_1018 : decode code 1018 = .ok (.aload_n 1, 1) := by decide +kernel
theorem dL_law_1019 : decode code 1019 = .ok (.iload 18, 2) := by decide +kernel
theorem dL_law_1021 : decode code 1021 = .ok (.iconst 1, 1) := by decide +kernel
theorem dL_law_1022 : decode code 1022 = .ok (.invokestatic 172, 3) := by decide +kernel
theorem dL_law_1025 : decode code 1025 = .ok (.iload 19, 2) := by decide +kernel
theorem dL_law_1027 : decode code 1027 = .ok (.if_icmp .ne 23, 3) := by decide +kernel
theorem dL_law_1030 : decode code 1030 = .ok (.iload 20, 2) := by decide +kernel
theorem dL_law_1032 : decode code 1032 = .ok (.ifCond .lt 18, 3) := by decide +kernel
theorem dL_law_1035 : decode code 1035 = .ok (.aload_n 1, 1) := by decide +kernel
theorem dL_law_1036 : decode code 1036 = .ok (.iload 18, 2) := by decide +kernel
theorem dL_law_1038 : decode code 1038 = .ok (.invokestatic 178, 3) := by decide +kernel
theorem dL_law_1041 : decode code 1041 = .ok (.bipush (-103), 2) := by decide +kernel
theorem dL_law_1043 : decode code 1043 = .ok (.if_icmp .ne 7, 3) := by decide +kernel
theorem dL_law_1046 : decode code 1046 = .ok (.iconst 1, 1) := by decide +kernel
theorem dL_law_1047 : decode code 1047 = .ok (.goto 19, 3) := by decide +kernel
theorem dL_law_1050 : decode code 1050 = .ok (.iconst 0, 1) := by decide +kernel
theorem dL_law_1051 : decode code 1051 = .ok (.goto 15, 3) := by decide +kernel
theorem dL_law_1054 : decode code 1054 = .ok (.iload 21, 2) := by decide +kernel
theorem dL_law_1056 : decode code 1056 = .ok (.bipush (-103), 2) := by decide +kernel
theorem dL_law_1058 : decode code 1058 = .ok (.if_icmp .ne 7, 3) := by decide +kernel
theorem dL_law_1061 : decode code 1061 = .ok (.iconst 1, 1) := by decide +kernel
theorem dL_law_1062 : decode code 1062 = .ok (.goto 4, 3) := by decide +kernel
theorem dL_law_1065 : decode code 1065 = .ok (.iconst 0, 1) := by decide +kernel
theorem dL_law_1066 : decode code 1066 = .ok (.istore 7, 2) := by decide +kernel
theorem dL_law_1068 : decode code 1068 = .ok (.goto 360, 3) := by decide +kernel
theorem dL_law_1071 : decode code 1071 = .ok (.iload 15, 2) := by decide +kernel
theorem dL_law_1073 : decode code 1073 = .ok (.bipush 12, 2) := by decide +kernel
theorem dL_law_1075 : decode code 1075 = .ok (.if_icmp .ne 92, 3) := by decide +kernel
theorem dL_law_1078 : decode code 1078 = .ok (.aload_n 1, 1) := by decide +kernel
theorem dL_law_1079 : decode code 1079 = .ok (.iload 16, 2) := by decide +kernel
theorem dL_law_1081 : decode code 1081 = .ok (.iload 17, 2) := by decide +kernel
theorem dL_law_1083 : decode code 1083 = .ok (.sipush 10000, 3) := by decide +kernel
theorem dL_law_1086 : decode code 1086 = .ok (.irem, 1) := by decide +kernel
theorem dL_law_1087 : decode code 1087 = .ok (.iconst 1, 1) := by decide +kernel
theorem dL_law_1088 : decode code 1088 = .ok (.iload 17, 2) := by decide +kernel
theorem dL_law_1090 : decode code 1090 = .ok (.sipush 10000, 3) := by decide +kernel
theorem dL_law_1093 : decode code 1093 = .ok (.idiv, 1) := by decide +kernel
theorem dL_law_1094 : decode code 1094 = .ok (.bipush 20, 2) := by decide +kernel
theorem dL_law_1096 : decode code 1096 = .ok (.irem, 1) := by decide +kernel
theorem dL_law_1097 : decode code 1097 = .ok (.iadd, 1) := by decide +kernel
theorem dL_law_1098 : decode code 1098 = .ok (.invokestatic 180, 3) := by decide +kernel
theorem dL_law_1101 : decode code 1101 = .ok (.istore 18, 2) := by decide +kernel
theorem dL_law_1103 : decode code 1103 = .ok (.iload 18, 2) := by decide +kernel
theorem dL_law_1105 : decode code 1105 = .ok (.bipush (-103), 2) := by decide +kernel
theorem dL_law_1107 : decode code 1107 = .ok (.if_icmp .eq 50, 3) := by decide +kernel
theorem dL_law_1110 : decode code 1110 = .ok (.iload 18, 2) := by decide +kernel
theorem dL_law_1112 : decode code 1112 = .ok (.ifCond .lt 49, 3) := by decide +kernel
theorem dL_law_1115 : decode code 1115 = .ok (.iload 18, 2) := by decide +kernel
theorem dL_law_1117 : decode code 1117 = .ok (.iconst 1, 1) := by decide +kernel
theorem dL_law_1118 : decode code 1118 = .ok (.iload 17, 2) := by decide +kernel
theorem dL_law_1120 : decode code 1120 = .ok (.sipush 10000, 3) := by decide +kernel
theorem dL_law_1123 : decode code 1123 = .ok (.idiv, 1) := by decide +kernel
theorem dL_law_1124 : decode code 1124 = .ok (.bipush 20, 2) := by decide +kernel
theorem dL_law_1126 : decode code 1126 = .ok (.irem, 1) := by decide +kernel
theorem dL_law_1127 : decode code 1127 = .ok (.iadd, 1) := by decide +kernel
theorem dL_law_1128 : decode code 1128 = .ok (.if_icmp .gt 33, 3) := by decide +kernel
theorem dL_law_1131 : decode code 1131 = .ok (.aload_n 1, 1) := by decide +kernel
theorem dL_law_1132 : decode code 1132 = .ok (.iload 16, 2) := by decide +kernel
theorem dL_law_1134 : decode code 1134 = .ok (.iload 17, 2) := by decide +kernel
theorem dL_law_1136 : decode code 1136 = .ok (.sipush 10000, 3) := by decide +kernel
theorem dL_law_1139 : decode code 1139 = .ok (.irem, 1) := by decide +kernel
theorem dL_law_1140 : decode code 1140 = .ok (.iconst 1, 1) := by decide +kernel
theorem dL_law_1141 : decode code 1141 = .ok (.iload 17, 2) := by decide +kernel
theorem dL_law_1143 : decode code 1143 = .ok (.sipush 10000, 3) := by decide +kernel
theorem dL_law_1146 : decode code 1146 = .ok (.idiv, 1) := by decide +kernel
theorem dL_law_1147 : decode code 1147 = .ok (.bipush 20, 2) := by decide +kernel
theorem dL_law_1149 : decode code 1149 = .ok (.irem, 1) := by decide +kernel
theorem dL_law_1150 : decode code 1150 = .ok (.iadd, 1) := by decide +kernel
theorem dL_law_1151 : decode code 1151 = .ok (.invokestatic 180, 3) := by decide +kernel
theorem dL_law_1154 : decode code 1154 = .ok (.ifCond .ne 7, 3) := by decide +kernel
theorem dL_law_1157 : decode code 1157 = .ok (.iconst 1, 1) := by decide +kernel
theorem dL_law_1158 : decode code 1158 = .ok (.goto 4, 3) := by decide +kernel
theorem dL_law_1161 : decode code 1161 = .ok (.iconst 0, 1) := by decide +kernel
theorem dL_law_1162 : decode code 1162 = .ok (.istore 7, 2) := by decide +kernel
theorem dL_law_1164 : decode code 1164 = .ok (.goto 264, 3) := by decide +kernel
theorem dL_law_1167 : decode code 1167 = .ok (.iload 15, 2) := by decide +kernel
theorem dL_law_1169 : decode code 1169 = .ok (.bipush 13, 2) := by decide +kernel
theorem dL_law_1171 : decode code 1171 = .ok (.if_icmp .ne 125, 3) := by decide +kernel
theorem dL_law_1174 : decode code 1174 = .ok (.aload_n 1, 1) := by decide +kernel
theorem dL_law_1175 : decode code 1175 = .ok (.iload 16, 2) := by decide +kernel
theorem dL_law_1177 : decode code 1177 = .ok (.invokestatic 182, 3) := by decide +kernel
theorem dL_law_1180 : decode code 1180 = .ok (.ifCond .lt 16, 3) := by decide +kernel
theorem dL_law_1183 : decode code 1183 = .ok (.aload_n 1, 1) := by decide +kernel
theorem dL_law_1184 : decode code 1184 = .ok (.iload 16, 2) := by decide +kernel
theorem dL_law_1186 : decode code 1186 = .ok (.invokestatic 182, 3) := by decide +kernel
theorem dL_law_1189 : decode code 1189 = .ok (.ifCond .ne 7, 3) := by decide +kernel
theorem dL_law_1192 : decode code 1192 = .ok (.iconst 1, 1) := by decide +kernel
theorem dL_law_1193 : decode code 1193 = .ok (.goto 4, 3) := by decide +kernel
theorem dL_law_1196 : decode code 1196 = .ok (.iconst 0, 1) := by decide +kernel
theorem dL_law_1197 : decode code 1197 = .ok (.istore 7, 2) := by decide +kernel
theorem dL_law_1199 : decode code 1199 = .ok (.aload_n 1, 1) := by decide +kernel
theorem dL_law_1200 : decode code 1200 = .ok (.iload 16, 2) := by decide +kernel
theorem dL_law_1202 : decode code 1202 = .ok (.invokestatic 123, 3) := by decide +kernel
theorem dL_law_1205 : decode code 1205 = .ok (.istore 18, 2) := by decide +kernel
theorem dL_law_1207 : decode code 1207 = .ok (.aload_n 1, 1) := by decide +kernel
theorem dL_law_1208 : decode code 1208 = .ok (.iload 16, 2) := by decide +kernel
theorem dL_law_1210 : decode code 1210 = .ok (.invokestatic 184, 3) := by decide +kernel
theorem dL_law_1213 : decode code 1213 = .ok (.istore 19, 2) := by decide +kernel
theorem dL_law_1215 : decode code 1215 = .ok (.iload 7, 2) := by decide +kernel
theorem dL_law_1217 : decode code 1217 = .ok (.ifCond .eq 66, 3) := by decide +kernel
theorem dL_law_1220 : decode code 1220 = .ok (.iload 19, 2) := by decide +kernel
theorem dL_law_1222 : decode code 1222 = .ok (.bipush (-103), 2) := by decide +kernel
theorem dL_law_1224 : decode code 1224 = .ok (.if_icmp .ne 26, 3) := by decide +kernel
theorem dL_law_1227 : decode code 1227 = .ok (.aload_n 1, 1) := by decide +kernel
theorem dL_law_1228 : decode code 1228 = .ok (.iload 16, 2) := by decide +kernel
theorem dL_law_1230 : decode code 1230 = .ok (.invokestatic 186, 3) := by decide +kernel
theorem dL_law_1233 : decode code 1233 = .ok (.ifCond .lt 50, 3) := by decide +kernel
theorem dL_law_1236 : decode code 1236 = .ok (.aload_n 1, 1) := by decide +kernel
theorem dL_law_1237 : decode code 1237 = .ok (.iload 16, 2) := by decide +kernel
theorem dL_law_1239 : decode code 1239 = .ok (.invokestatic 184, 3) := by decide +kernel
theorem dL_law_1242 : decode code 1242 = .ok (.iload 18, 2) := by decide +kernel
theorem dL_law_1244 : decode code 1244 = .ok (.if_icmp .ne 39, 3) := by decide +kernel
theorem dL_law_1247 : decode code 1247 = .ok (.goto 21, 3) := by decide +kernel
theorem dL_law_1250 : decode code 1250 = .ok (.iload 19, 2) := by decide +kernel
theorem dL_law_1252 : decode code 1252 = .ok (.iload 18, 2) := by decide +kernel
theorem dL_law_1254 : decode code 1254 = .ok (.if_icmp .ne 29, 3) := by decide +kernel
theorem dL_law_1257 : decode code 1257 = .ok (.aload_n 1, 1) := by decide +kernel
theorem dL_law_1258 : decode code 1258 = .ok (.iload 16, 2) := by decide +kernel
theorem dL_law_1260 : decode code 1260 = .ok (.invokestatic 186, 3) := by decide +kernel
theorem dL_law_1263 : decode code 1263 = .ok (.bipush (-103), 2) := by decide +kernel
theorem dL_law_1265 : decode code 1265 = .ok (.if_icmp .ne 18, 3) := by decide +kernel
theorem dL_law_1268 : decode code 1268 = .ok (.aload_n 1, 1) := by decide +kernel
theorem dL_law_1269 : decode code 1269 = .ok (.iload 16, 2) := by decide +kernel
theorem dL_law_1271 : decode code 1271 = .ok (.invokestatic 168, 3) := by decide +kernel
theorem dL_law_1274 : decode code 1274 = .ok (.iload 18, 2) := by decide +kernel
theorem dL_law_1276 : decode code 1276 = .ok (.if_icmp .ne 7, 3) := by decide +kernel
theorem dL_law_1279 : decode code 1279 = .ok (.iconst 1, 1) := by decide +kernel
theorem dL_law_1280 : decode code 1280 = .ok (.goto 4, 3) := by decide +kernel
theorem dL_law_1283 : decode code 1283 = .ok (.iconst 0, 1) := by decide +kernel
theorem dL_law_1284 : decode code 1284 = .ok (.istore 7, 2) := by decide +kernel
theorem dL_law_1286 : decode code 1286 = .ok (.aload 5, 2) := by decide +kernel
theorem dL_law_1288 : decode code 1288 = .ok (.iload 16, 2) := by decide +kernel
theorem dL_law_1290 : decode code 1290 = .ok (.iload 18, 2) := by decide +kernel
theorem dL_law_1292 : decode code 1292 = .ok (.iastore, 1) := by decide +kernel
theorem dL_law_1293 : decode code 1293 = .ok (.goto 135, 3) := by decide +kernel
theorem dL_law_1296 : decode code 1296 = .ok (.iload 15, 2) := by decide +kernel
theorem dL_law_1298 : decode code 1298 = .ok (.bipush 14, 2) := by decide +kernel
theorem dL_law_1300 : decode code 1300 = .ok (.if_icmp .ne 69, 3) := by decide +kernel
theorem dL_law_1303 : decode code 1303 = .ok (.aload_n 2, 1) := by decide +kernel
theorem dL_law_1304 : decode code 1304 = .ok (.iload 17, 2) := by decide +kernel
theorem dL_law_1306 : decode code 1306 = .ok (.invokestatic 151, 3) := by decide +kernel
theorem dL_law_1309 : decode code 1309 = .ok (.istore 18, 2) := by decide +kernel
theorem dL_law_1311 : decode code 1311 = .ok (.aload_n 1, 1) := by decide +kernel
theorem dL_law_1312 : decode code 1312 = .ok (.aload_n 2, 1) := by decide +kernel
theorem dL_law_1313 : decode code 1313 = .ok (.iload 18, 2) := by decide +kernel
theorem dL_law_1315 : decode code 1315 = .ok (.invokestatic 111, 3) := by decide +kernel
theorem dL_law_1318 : decode code 1318 = .ok (.ifCond .eq 14, 3) := by decide +kernel
theorem dL_law_1321 : decode code 1321 = .ok (.aload_n 1, 1) := by decide +kernel
theorem dL_law_1322 : decode code 1322 = .ok (.iload 17, 2) := by decide +kernel
theorem dL_law_1324 : decode code 1324 = .ok (.iconst 3, 1) := by decide +kernel
theorem dL_law_1325 : decode code 1325 = .ok (.irem, 1) := by decide +kernel
theorem dL_law_1326 : decode code 1326 = .ok (.invokestatic 118, 3) := by decide +kernel
theorem dL_law_1329 : decode code 1329 = .ok (.goto 5, 3) := by decide +kernel
theorem dL_law_1332 : decode code 1332 = .ok (.bipush (-99), 2) := by decide +kernel
theorem dL_law_1334 : decode code 1334 = .ok (.istore 19, 2) := by decide +kernel
theorem dL_law_1336 : decode code 1336 = .ok (.iload 19, 2) := by decide +kernel
theorem dL_law_1338 : decode code 1338 = .ok (.ifCond .lt 25, 3) := by decide +kernel
theorem dL_law_1341 : decode code 1341 = .ok (.iload 19, 2) := by decide +kernel
theorem dL_law_1343 : decode code 1343 = .ok (.iload 9, 2) := by decide +kernel
theorem dL_law_1345 : decode code 1345 = .ok (.if_icmp .gt 18, 3) := by decide +kernel
theorem dL_law_1348 : decode code 1348 = .ok (.aload_n 1, 1) := by decide +kernel
theorem dL_law_1349 : decode code 1349 = .ok (.iload 17, 2) := by decide +kernel
theorem dL_law_1351 : decode code 1351 = .ok (.iconst 3, 1) := by decide +kernel
theorem dL_law_1352 : decode code 1352 = .ok (.irem, 1) := by decide +kernel
theorem dL_law_1353 : decode code 1353 = .ok (.invokestatic 118, 3) := by decide +kernel
theorem dL_law_1356 : decode code 1356 = .ok (.ifCond .ne 7, 3) := by decide +kernel
theorem dL_law_1359 : decode code 1359 = .ok (.iconst 1, 1) := by decide +kernel
theorem dL_law_1360 : decode code 1360 = .ok (.goto 4, 3) := by decide +kernel
theorem dL_law_1363 : decode code 1363 = .ok (.iconst 0, 1) := by decide +kernel
theorem dL_law_1364 : decode code 1364 = .ok (.istore 7, 2) := by decide +kernel
theorem dL_law_1366 : decode code 1366 = .ok (.goto 62, 3) := by decide +kernel
theorem dL_law_1369 : decode code 1369 = .ok (.iconst 0, 1) := by decide +kernel
theorem dL_law_1370 : decode code 1370 = .ok (.istore 18, 2) := by decide +kernel
theorem dL_law_1372 : decode code 1372 = .ok (.iload 18, 2) := by decide +kernel
theorem dL_law_1374 : decode code 1374 = .ok (.bipush 12, 2) := by decide +kernel
theorem dL_law_1376 : decode code 1376 = .ok (.if_icmp .ge 38, 3) := by decide +kernel
theorem dL_law_1379 : decode code 1379 = .ok (.aload_n 2, 1) := by decide +kernel
theorem dL_law_1380 : decode code 1380 = .ok (.iload 18, 2) := by decide +kernel
theorem dL_law_1382 : decode code 1382 = .ok (.aload_n 0, 1) := by decide +kernel
theorem dL_law_1383 : decode code 1383 = .ok (.iload 12, 2) := by decide +kernel
theorem dL_law_1385 : decode code 1385 = .ok (.iconst 5, 1) := by decide +kernel
theorem dL_law_1386 : decode code 1386 = .ok (.iload 18, 2) := by decide +kernel
theorem dL_law_1388 : decode code 1388 = .ok (.imul, 1) := by decide +kernel
theorem dL_law_1389 : decode code 1389 = .ok (.iadd, 1) := by decide +kernel
theorem dL_law_1390 : decode code 1390 = .ok (.bipush 63, 2) := by decide +kernel
theorem dL_law_1392 : decode code 1392 = .ok (.irem, 1) := by decide +kernel
theorem dL_law_1393 : decode code 1393 = .ok (.invokestatic 147, 3) := by decide +kernel
theorem dL_law_1396 : decode code 1396 = .ok (.iconst 3, 1) := by decide +kernel
theorem dL_law_1397 : decode code 1397 = .ok (.idiv, 1) := by decide +kernel
theorem dL_law_1398 : decode code 1398 = .ok (.bipush 7, 2) := by decide +kernel
theorem dL_law_1400 : decode code 1400 = .ok (.iload 18, 2) := by decide +kernel
theorem dL_law_1402 : decode code 1402 = .ok (.imul, 1) := by decide +kernel
theorem dL_law_1403 : decode code 1403 = .ok (.iadd, 1) := by decide +kernel
theorem dL_law_1404 : decode code 1404 = .ok (.invokestatic 188, 3) := by decide +kernel
theorem dL_law_1407 : decode code 1407 = .ok (.iastore, 1) := by decide +kernel
theorem dL_law_1408 : decode code 1408 = .ok (.iinc 18 1, 3) := by decide +kernel
theorem dL_law_1411 : decode code 1411 = .ok (.goto (-39), 3) := by decide +kernel
theorem dL_law_1414 : decode code 1414 = .ok (.aload_n 1, 1) := by decide +kernel
theorem dL_law_1415 : decode code 1415 = .ok (.aload_n 2, 1) := by decide +kernel
theorem dL_law_1416 : decode code 1416 = .ok (.iconst 1, 1) := by decide +kernel
theorem dL_law_1417 : decode code 1417 = .ok (.iload 17, 2) := by decide +kernel
theorem dL_law_1419 : decode code 1419 = .ok (.bipush 12, 2) := by decide +kernel
theorem dL_law_1421 : decode code 1421 = .ok (.irem, 1) := by decide +kernel
theorem dL_law_1422 : decode code 1422 = .ok (.iadd, 1) := by decide +kernel
theorem dL_law_1423 : decode code 1423 = .ok (.invokestatic 191, 3) := by decide +kernel
theorem dL_law_1426 : decode code 1426 = .ok (.istore 7, 2) := by decide +kernel
theorem dL_law_1428 : decode code 1428 = .ok (.iconst 0, 1) := by decide +kernel
theorem dL_law_1429 : decode code 1429 = .ok (.istore 18, 2) := by decide +kernel
theorem dL_law_1431 : decode code 1431 = .ok (.iconst 0, 1) := by decide +kernel
theorem dL_law_1432 : decode code 1432 = .ok (.istore 19, 2) := by decide +kernel
theorem dL_law_1434 : decode code 1434 = .ok (.iload 19, 2) := by decide +kernel
theorem dL_law_1436 : decode code 1436 = .ok (.iload 9, 2) := by decide +kernel
theorem dL_law_1438 : decode code 1438 = .ok (.if_icmp .ge 106, 3) := by decide +kernel
theorem dL_law_1441 : decode code 1441 = .ok (.iload 7, 2) := by decide +kernel
theorem dL_law_1443 : decode code 1443 = .ok (.ifCond .eq 101, 3) := by decide +kernel
theorem dL_law_1446 : decode code 1446 = .ok (.aload_n 1, 1) := by decide +kernel
theorem dL_law_1447 : decode code 1447 = .ok (.iload 19, 2) := by decide +kernel
theorem dL_law_1449 : decode code 1449 = .ok (.invokestatic 168, 3) := by decide +kernel
theorem dL_law_1452 : decode code 1452 = .ok (.aload 5, 2) := by decide +kernel
theorem dL_law_1454 : decode code 1454 = .ok (.iload 19, 2) := by decide +kernel
theorem dL_law_1456 : decode code 1456 = .ok (.iaload, 1) := by decide +kernel
theorem dL_law_1457 : decode code 1457 = .ok (.if_icmp .ne 41, 3) := by decide +kernel
theorem dL_law_1460 : decode code 1460 = .ok (.iload 19, 2) := by decide +kernel
theorem dL_law_1462 : decode code 1462 = .ok (.iload 16, 2) := by decide +kernel
theorem dL_law_1464 : decode code 1464 = .ok (.if_icmp .eq 10, 3) := by decide +kernel
theorem dL_law_1467 : decode code 1467 = .ok (.iload 12, 2) := by decide +kernel
theorem dL_law_1469 : decode code 1469 = .ok (.iconst 4, 1) := by decide +kernel
theorem dL_law_1470 : decode code 1470 = .ok (.irem, 1) := by decide +kernel
theorem dL_law_1471 : decode code 1471 = .ok (.ifCond .gt 23, 3) := by decide +kernel
theorem dL_law_1474 : decode code 1474 = .ok (.aload_n 1, 1) := by decide +kernel
theorem dL_law_1475 : decode code 1475 = .ok (.iload 19, 2) := by decide +kernel
theorem dL_law_1477 : decode code 1477 = .ok (.aload_n 3, 1) := by decide +kernel
theorem dL_law_1478 : decode code 1478 = .ok (.iload 19, 2) := by decide +kernel
theorem dL_law_1480 : decode code 1480 = .ok (.iaload, 1) := by decide +kernel
theorem dL_law_1481 : decode code 1481 = .ok (.aload 4, 2) := by decide +kernel
theorem dL_law_1483 : decode code 1483 = .ok (.iload 19, 2) := by decide +kernel
theorem dL_law_1485 : decode code 1485 = .ok (.iaload, 1) := by decide +kernel
theorem dL_law_1486 : decode code 1486 = .ok (.iload 12, 2) := by decide +kernel
theorem dL_law_1488 : decode code 1488 = .ok (.invokestatic 194, 3) := by decide +kernel
theorem dL_law_1491 : decode code 1491 = .ok (.ifCond .eq 7, 3) := by decide +kernel
theorem dL_law_1494 : decode code 1494 = .ok (.iconst 1, 1) := by decide +kernel
theorem dL_law_1495 : decode code 1495 = .ok (.goto 4, 3) := by decide +kernel
theorem dL_law_1498 : decode code 1498 = .ok (.iconst 0, 1) := by decide +kernel
theorem dL_law_1499 : decode code 1499 = .ok (.istore 7, 2) := by decide +kernel
theorem dL_law_1501 : decode code 1501 = .ok (.iload 18, 2) := by decide +kernel
theorem dL_law_1503 : decode code 1503 = .ok (.iload 7, 2) := by decide +kernel
theorem dL_law_1505 : decode code 1505 = .ok (.ifCond .eq 29, 3) := by decide +kernel
theorem dL_law_1508 : decode code 1508 = .ok (.aload 5, 2) := by decide +kernel
theorem dL_law_1510 : decode code 1510 = .ok (.iload 19, 2) := by decide +kernel
theorem dL_law_1512 : decode code 1512 = .ok (.iaload, 1) := by decide +kernel
theorem dL_law_1513 : decode code 1513 = .ok (.ifCond .lt 21, 3) := by decide +kernel
theorem dL_law_1516 : decode code 1516 = .ok (.aload 5, 2) := by decide +kernel
theorem dL_law_1518 : decode code 1518 = .ok (.iload 19, 2) := by decide +kernel
theorem dL_law_1520 : decode code 1520 = .ok (.iaload, 1) := by decide +kernel
theorem dL_law_1521 : decode code 1521 = .ok (.aload_n 1, 1) := by decide +kernel
theorem dL_law_1522 : decode code 1522 = .ok (.iload 19, 2) := by decide +kernel
theorem dL_law_1524 : decode code 1524 = .ok (.invokestatic 123, 3) := by decide +kernel
theorem dL_law_1527 : decode code 1527 = .ok (.if_icmp .eq 7, 3) := by decide +kernel
theorem dL_law_1530 : decode code 1530 = .ok (.iconst 1, 1) := by decide +kernel
theorem dL_law_1531 : decode code 1531 = .ok (.goto 4, 3) := by decide +kernel
theorem dL_law_1534 : decode code 1534 = .ok (.iconst 0, 1) := by decide +kernel
theorem dL_law_1535 : decode code 1535 = .ok (.iadd, 1) := by decide +kernel
theorem dL_law_1536 : decode code 1536 = .ok (.istore 18, 2) := by decide +kernel
theorem dL_law_1538 : decode code 1538 = .ok (.iinc 19 1, 3) := by decide +kernel
theorem dL_law_1541 : decode code 1541 = .ok (.goto (-107), 3) := by decide +kernel
theorem dL_law_1544 : decode code 1544 = .ok (.iload 7, 2) := by decide +kernel
theorem dL_law_1546 : decode code 1546 = .ok (.ifCond .eq 16, 3) := by decide +kernel
theorem dL_law_1549 : decode code 1549 = .ok (.aload_n 1, 1) := by decide +kernel
theorem dL_law_1550 : decode code 1550 = .ok (.invokevirtual 144, 3) := by decide +kernel
theorem dL_law_1553 : decode code 1553 = .ok (.iload 18, 2) := by decide +kernel
theorem dL_law_1555 : decode code 1555 = .ok (.if_icmp .ne 7, 3) := by decide +kernel
theorem dL_law_1558 : decode code 1558 = .ok (.iconst 1, 1) := by decide +kernel
theorem dL_law_1559 : decode code 1559 = .ok (.goto 4, 3) := by decide +kernel
theorem dL_law_1562 : decode code 1562 = .ok (.iconst 0, 1) := by decide +kernel
theorem dL_law_1563 : decode code 1563 = .ok (.istore 7, 2) := by decide +kernel
theorem dL_law_1565 : decode code 1565 = .ok (.iconst 0, 1) := by decide +kernel
theorem dL_law_1566 : decode code 1566 = .ok (.istore 19, 2) := by decide +kernel
theorem dL_law_1568 : decode code 1568 = .ok (.iload 19, 2) := by decide +kernel
theorem dL_law_1570 : decode code 1570 = .ok (.iload 10, 2) := by decide +kernel
theorem dL_law_1572 : decode code 1572 = .ok (.if_icmp .ge 88, 3) := by decide +kernel
theorem dL_law_1575 : decode code 1575 = .ok (.iload 7, 2) := by decide +kernel
theorem dL_law_1577 : decode code 1577 = .ok (.ifCond .eq 83, 3) := by decide +kernel
theorem dL_law_1580 : decode code 1580 = .ok (.iconst 0, 1) := by decide +kernel
theorem dL_law_1581 : decode code 1581 = .ok (.istore 20, 2) := by decide +kernel
theorem dL_law_1583 : decode code 1583 = .ok (.iload 19, 2) := by decide +kernel
theorem dL_law_1585 : decode code 1585 = .ok (.iconst 1, 1) := by decide +kernel
theorem dL_law_1586 : decode code 1586 = .ok (.iadd, 1) := by decide +kernel
theorem dL_law_1587 : decode code 1587 = .ok (.istore 21, 2) := by decide +kernel
theorem dL_law_1589 : decode code 1589 = .ok (.iload 21, 2) := by decide +kernel
theorem dL_law_1591 : decode code 1591 = .ok (.iload 10, 2) := by decide +kernel
theorem dL_law_1593 : decode code 1593 = .ok (.if_icmp .ge 34, 3) := by decide +kernel
theorem dL_law_1596 : decode code 1596 = .ok (.iload 20, 2) := by decide +kernel
theorem dL_law_1598 : decode code 1598 = .ok (.ifCond .ne 16, 3) := by decide +kernel
theorem dL_law_1601 : decode code 1601 = .ok (.aload 6, 2) := by decide +kernel
theorem dL_law_1603 : decode code 1603 = .ok (.iload 21, 2) := by decide +kernel
theorem dL_law_1605 : decode code 1605 = .ok (.iaload, 1) := by decide +kernel
theorem dL_law_1606 : decode code 1606 = .ok (.aload 6, 2) := by decide +kernel
theorem dL_law_1608 : decode code 1608 = .ok (.iload 19, 2) := by decide +kernel
theorem dL_law_1610 : decode code 1610 = .ok (.iaload, 1) := by decide +kernel
theorem dL_law_1611 : decode code 1611 = .ok (.if_icmp .ne 7, 3) := by decide +kernel
theorem dL_law_1614 : decode code 1614 = .ok (.iconst 1, 1) := by decide +kernel
theorem dL_law_1615 : decode code 1615 = .ok (.goto 4, 3) := by decide +kernel
theorem dL_law_1618 : decode code 1618 = .ok (.iconst 0, 1) := by decide +kernel
theorem dL_law_1619 : decode code 1619 = .ok (.istore 20, 2) := by decide +kernel
theorem dL_law_1621 : decode code 1621 = .ok (.iinc 21 1, 3) := by decide +kernel
theorem dL_law_1624 : decode code 1624 = .ok (.goto (-35), 3) := by decide +kernel
theorem dL_law_1627 : decode code 1627 = .ok (.aload_n 1, 1) := by decide +kernel
theorem dL_law_1628 : decode code 1628 = .ok (.iload 19, 2) := by decide +kernel
theorem dL_law_1630 : decode code 1630 = .ok (.invokestatic 170, 3) := by decide +kernel
theorem dL_law_1633 : decode code 1633 = .ok (.iconst 1, 1) := by decide +kernel
theorem dL_law_1634 : decode code 1634 = .ok (.if_icmp .ne 7, 3) := by decide +kernel
theorem dL_law_1637 : decode code 1637 = .ok (.iconst 1, 1) := by decide +kernel
theorem dL_law_1638 : decode code 1638 = .ok (.goto 4, 3) := by decide +kernel
theorem dL_law_1641 : decode code 1641 = .ok (.iconst 0, 1) := by decide +kernel
theorem dL_law_1642 : decode code 1642 = .ok (.iload 20, 2) := by decide +kernel
theorem dL_law_1644 : decode code 1644 = .ok (.if_icmp .ne 7, 3) := by decide +kernel
theorem dL_law_1647 : decode code 1647 = .ok (.iconst 1, 1) := by decide +kernel
theorem dL_law_1648 : decode code 1648 = .ok (.goto 4, 3) := by decide +kernel
theorem dL_law_1651 : decode code 1651 = .ok (.iconst 0, 1) := by decide +kernel
theorem dL_law_1652 : decode code 1652 = .ok (.istore 7, 2) := by decide +kernel
theorem dL_law_1654 : decode code 1654 = .ok (.iinc 19 1, 3) := by decide +kernel
theorem dL_law_1657 : decode code 1657 = .ok (.goto (-89), 3) := by decide +kernel
theorem dL_law_1660 : decode code 1660 = .ok (.iinc 12 1, 3) := by decide +kernel
theorem dL_law_1663 : decode code 1663 = .ok (.goto (-1524), 3) := by decide +kernel
theorem dL_law_1666 : decode code 1666 = .ok (.iload 7, 2) := by decide +kernel
theorem dL_law_1668 : decode code 1668 = .ok (.ireturn, 1) := by decide +kernel
theorem lk_cell : lkS RL 147 yL_cell cL_cell 2 (some .int) 2 := ⟨wall_of 578 (by decide +kernel) rfl, wall_of 579 (by decide +kernel) rfl, wall_of 0 (by decide +kernel) rfl, wall_of 580 (by decide +kernel) rfl, ⟨by decide, by decide⟩, by decide +kernel⟩
theorem lk_RL_103 : lkV RL 103 RX9 yX9_wipe cX9_wipe 2 (some .int) 0 := ⟨wall_of 902 (by decide +kernel) rfl, wall_of 903 (by decide +kernel) rfl, wall_of 904 (by decide +kernel) rfl, wall_of 1 (by decide +kernel) rfl, wall_of 905 (by decide +kernel) rfl, ⟨by decide, by decide⟩, by decide +kernel⟩
theorem lk_RL_115 : lkV RL 115 RX9 yX9_fault cX9_fault 1 (some .int) 0 := ⟨wall_of 344 (by decide +kernel) rfl, wall_of 345 (by decide +kernel) rfl, wall_of 346 (by decide +kernel) rfl, wall_of 1 (by decide +kernel) rfl, wall_of 347 (by decide +kernel) rfl, ⟨by decide, by decide⟩, by decide +kernel⟩
theorem lk_RL_144 : lkV RL 144 RX9 yX9_stale cX9_stale 4 (some .int) 0 := ⟨wall_of 446 (by decide +kernel) rfl, wall_of 447 (by decide +kernel) rfl, wall_of 448 (by decide +kernel) rfl, wall_of 1 (by decide +kernel) rfl, wall_of 449 (by decide +kernel) rfl, ⟨by decide, by decide⟩, by decide +kernel⟩
theorem lw_106 : lkW 106 yL_type cL_type 3 [(0, 6, 7, 17), (0, 6, 11, 19)] 2 := ⟨wall_of 906 (by decide +kernel) rfl, wall_of 907 (by decide +kernel) rfl, wall_of 0 (by decide +kernel) rfl, wall_of 908 (by decide +kernel) rfl, ⟨by decide, by decide⟩, by decide +kernel⟩
theorem lw_120 : lkW 120 yL_rule cL_rule 2 [(0, 4, 5, 17), (0, 4, 9, 19)] 1 := ⟨wall_of 728 (by decide +kernel) rfl, wall_of 729 (by decide +kernel) rfl, wall_of 0 (by decide +kernel) rfl, wall_of 730 (by decide +kernel) rfl, ⟨by decide, by decide⟩, by decide +kernel⟩
theorem lw_118 : lkW 118 yL_mend cL_mend 3 [(0, 5, 6, 15), (0, 5, 10, 17)] 2 := ⟨wall_of 746 (by decide +kernel) rfl, wall_of 747 (by decide +kernel) rfl, wall_of 0 (by decide +kernel) rfl, wall_of 748 (by decide +kernel) rfl, ⟨by decide, by decide⟩, by decide +kernel⟩
theorem lw_141 : lkW 141 yL_doubt cL_doubt 3 [(0, 5, 6, 15)] 2 := ⟨wall_of 988 (by decide +kernel) rfl, wall_of 989 (by decide +kernel) rfl, wall_of 0 (by decide +kernel) rfl, wall_of 990 (by decide +kernel) rfl, ⟨by decide, by decide⟩, by decide +kernel⟩
theorem lw_138 : lkW 138 yL_tied cL_tied 4 [(0, 6, 7, 15)] 3 := ⟨wall_of 980 (by decide +kernel) rfl, wall_of 981 (by decide +kernel) rfl, wall_of 0 (by decide +kernel) rfl, wall_of 982 (by decide +kernel) rfl, ⟨by decide, by decide⟩, by decide +kernel⟩
theorem lw_135 : lkW 135 yL_votes cL_votes 5 [(0, 7, 8, 15)] 4 := ⟨wall_of 967 (by decide +kernel) rfl, wall_of 968 (by decide +kernel) rfl, wall_of 0 (by decide +kernel) rfl, wall_of 969 (by decide +kernel) rfl, ⟨by decide, by decide⟩, by decide +kernel⟩
theorem lw_123 : lkW 123 yL_winners cL_winners 3 [(0, 5, 6, 15)] 2 := ⟨wall_of 874 (by decide +kernel) rfl, wall_of 875 (by decide +kernel) rfl, wall_of 0 (by decide +kernel) rfl, wall_of 876 (by decide +kernel) rfl, ⟨by decide, by decide⟩, by decide +kernel⟩
theorem lw_125 : lkW 125 yL_tallies cL_tallies 3 [(0, 5, 6, 15)] 2 := ⟨wall_of 932 (by decide +kernel) rfl, wall_of 933 (by decide +kernel) rfl, wall_of 0 (by decide +kernel) rfl, wall_of 934 (by decide +kernel) rfl, ⟨by decide, by decide⟩, by decide +kernel⟩
theorem lw_127 : lkW 127 yL_ties cL_ties 3 [(0, 5, 6, 15)] 2 := ⟨wall_of 939 (by decide +kernel) rfl, wall_of 940 (by decide +kernel) rfl, wall_of 0 (by decide +kernel) rfl, wall_of 941 (by decide +kernel) rfl, ⟨by decide, by decide⟩, by decide +kernel⟩
theorem lw_129 : lkW 129 yL_hand cL_hand 3 [(0, 5, 6, 15)] 2 := ⟨wall_of 946 (by decide +kernel) rfl, wall_of 947 (by decide +kernel) rfl, wall_of 0 (by decide +kernel) rfl, wall_of 948 (by decide +kernel) rfl, ⟨by decide, by decide⟩, by decide +kernel⟩
theorem lw_170 : lkW 170 yL_why cL_why 3 [(0, 5, 6, 15)] 2 := ⟨wall_of 823 (by decide +kernel) rfl, wall_of 824 (by decide +kernel) rfl, wall_of 0 (by decide +kernel) rfl, wall_of 825 (by decide +kernel) rfl, ⟨by decide, by decide⟩, by decide +kernel⟩
theorem lw_168 : lkW 168 yL_certified cL_certified 3 [(0, 5, 6, 15)] 2 := ⟨wall_of 889 (by decide +kernel) rfl, wall_of 890 (by decide +kernel) rfl, wall_of 0 (by decide +kernel) rfl, wall_of 891 (by decide +kernel) rfl, ⟨by decide, by decide⟩, by decide +kernel⟩
theorem lw_184 : lkW 184 yL_certify cL_certify 3 [(0, 5, 6, 15), (0, 5, 10, 19)] 2 := ⟨wall_of 881 (by decide +kernel) rfl, wall_of 882 (by decide +kernel) rfl, wall_of 0 (by decide +kernel) rfl, wall_of 883 (by decide +kernel) rfl, ⟨by decide, by decide⟩, by decide +kernel⟩
theorem lw_186 : lkW 186 yL_close cL_close 3 [(0, 5, 6, 15), (0, 5, 10, 19)] 2 := ⟨wall_of 775 (by decide +kernel) rfl, wall_of 776 (by decide +kernel) rfl, wall_of 0 (by decide +kernel) rfl, wall_of 777 (by decide +kernel) rfl, ⟨by decide, by decide⟩, by decide +kernel⟩
theorem lw_182 : lkW 182 yL_recount cL_recount 3 [(0, 5, 6, 15)] 2 := ⟨wall_of 867 (by decide +kernel) rfl, wall_of 868 (by decide +kernel) rfl, wall_of 0 (by decide +kernel) rfl, wall_of 869 (by decide +kernel) rfl, ⟨by decide, by decide⟩, by decide +kernel⟩
theorem lw_180 : lkW 180 yL_sample cL_sample 5 [(0, 7, 8, 15), (0, 7, 13, 17), (0, 7, 18, 19)] 4 := ⟨wall_of 853 (by decide +kernel) rfl, wall_of 854 (by decide +kernel) rfl, wall_of 0 (by decide +kernel) rfl, wall_of 855 (by decide +kernel) rfl, ⟨by decide, by decide⟩, by decide +kernel⟩
theorem lw_176 : lkW 176 yL_strike cL_strike 3 [(0, 5, 6, 15), (0, 5, 10, 19)] 2 := ⟨wall_of 697 (by decide +kernel) rfl, wall_of 698 (by decide +kernel) rfl, wall_of 0 (by decide +kernel) rfl, wall_of 699 (by decide +kernel) rfl, ⟨by decide, by decide⟩, by decide +kernel⟩
theorem lw_166 : lkW 166 yL_cast cL_cast 4 [(0, 6, 7, 15), (0, 6, 11, 19)] 3 := ⟨wall_of 805 (by decide +kernel) rfl, wall_of 806 (by decide +kernel) rfl, wall_of 0 (by decide +kernel) rfl, wall_of 807 (by decide +kernel) rfl, ⟨by decide, by decide⟩, by decide +kernel⟩
theorem lw_156 : lkW 156 yL_open cL_open 6 [(0, 9, 10, 15), (0, 9, 15, 17), (0, 9, 20, 19)] 5 := ⟨wall_of 761 (by decide +kernel) rfl, wall_of 762 (by decide +kernel) rfl, wall_of 0 (by decide +kernel) rfl, wall_of 763 (by decide +kernel) rfl, ⟨by decide, by decide⟩, by decide +kernel⟩
theorem lw_172 : lkW 172 yL_read cL_read 4 [(0, 6, 7, 15)] 3 := ⟨wall_of 836 (by decide +kernel) rfl, wall_of 837 (by decide +kernel) rfl, wall_of 0 (by decide +kernel) rfl, wall_of 838 (by decide +kernel) rfl, ⟨by decide, by decide⟩, by decide +kernel⟩
theorem lw_164 : lkW 164 yL_mark cL_mark 3 [(0, 5, 6, 15), (0, 5, 10, 19)] 2 := ⟨wall_of 788 (by decide +kernel) rfl, wall_of 789 (by decide +kernel) rfl, wall_of 0 (by decide +kernel) rfl, wall_of 790 (by decide +kernel) rfl, ⟨by decide, by decide⟩, by decide +kernel⟩
theorem lw_161 : lkW 161 yL_allowed cL_allowed 5 [(0, 15, 16, 15), (0, 15, 21, 17)] 4 := ⟨wall_of 710 (by decide +kernel) rfl, wall_of 711 (by decide +kernel) rfl, wall_of 0 (by decide +kernel) rfl, wall_of 712 (by decide +kernel) rfl, ⟨by decide, by decide⟩, by decide +kernel⟩
theorem lw_159 : lkW 159 yL_enter cL_enter 6 [(0, 9, 10, 15), (0, 9, 15, 17), (0, 9, 20, 19)] 5 := ⟨wall_of 583 (by decide +kernel) rfl, wall_of 584 (by decide +kernel) rfl, wall_of 0 (by decide +kernel) rfl, wall_of 585 (by decide +kernel) rfl, ⟨by decide, by decide⟩, by decide +kernel⟩
theorem lw_178 : lkW 178 yL_misread cL_misread 3 [(0, 5, 8, 15), (0, 5, 12, 19)] 2 := ⟨wall_of 845 (by decide +kernel) rfl, wall_of 846 (by decide +kernel) rfl, wall_of 0 (by decide +kernel) rfl, wall_of 847 (by decide +kernel) rfl, ⟨by decide, by decide⟩, by decide +kernel⟩
theorem lw_174 : lkW 174 yL_pass cL_pass 3 [(0, 5, 6, 17), (0, 5, 10, 19)] 2 := ⟨wall_of 719 (by decide +kernel) rfl, wall_of 720 (by decide +kernel) rfl, wall_of 0 (by decide +kernel) rfl, wall_of 721 (by decide +kernel) rfl, ⟨by decide, by decide⟩, by decide +kernel⟩
theorem lw_154 : lkW 154 yL_commands cL_commands 3 [(0, 5, 6, 15)] 2 := ⟨wall_of 754 (by decide +kernel) rfl, wall_of 755 (by decide +kernel) rfl, wall_of 0 (by decide +kernel) rfl, wall_of 756 (by decide +kernel) rfl, ⟨by decide, by decide⟩, by decide +kernel⟩
theorem lk_RL_111 : lkS RL 111 yL_types cL_types 5 (some .boolean) 3 := ⟨wall_of 899 (by decide +kernel) rfl, wall_of 900 (by decide +kernel) rfl, wall_of 0 (by decide +kernel) rfl, wall_of 901 (by decide +kernel) rfl, ⟨by decide, by decide⟩, by decide +kernel⟩
theorem lk_RL_132 : lkS RL 132 yL_size cL_size 3 (some .int) 1 := ⟨wall_of 964 (by decide +kernel) rfl, wall_of 965 (by decide +kernel) rfl, wall_of 0 (by decide +kernel) rfl, wall_of 966 (by decide +kernel) rfl, ⟨by decide, by decide⟩, by decide +kernel⟩
theorem lk_RL_194 : lkS RL 194 yL_fits cL_fits 15 (some .boolean) 5 := ⟨wall_of 929 (by decide +kernel) rfl, wall_of 930 (by decide +kernel) rfl, wall_of 0 (by decide +kernel) rfl, wall_of 931 (by decide +kernel) rfl, ⟨by decide, by decide⟩, by decide +kernel⟩
theorem lk_RL_191 : lkS RL 191 yL_isFault cL_isFault 5 (some .boolean) 3 := ⟨wall_of 926 (by decide +kernel) rfl, wall_of 927 (by decide +kernel) rfl, wall_of 0 (by decide +kernel) rfl, wall_of 928 (by decide +kernel) rfl, ⟨by decide, by decide⟩, by decide +kernel⟩
theorem lk_RL_188 : lkS RL 188 yL_sign cL_sign 3 (some .int) 1 := ⟨wall_of 896 (by decide +kernel) rfl, wall_of 897 (by decide +kernel) rfl, wall_of 0 (by decide +kernel) rfl, wall_of 898 (by decide +kernel) rfl, ⟨by decide, by decide⟩, by decide +kernel⟩
theorem lk_RL_151 : lkS RL 151 yL_lays cL_lays 7 (some .int) 2 := ⟨wall_of 923 (by decide +kernel) rfl, wall_of 924 (by decide +kernel) rfl, wall_of 0 (by decide +kernel) rfl, wall_of 925 (by decide +kernel) rfl, ⟨by decide, by decide⟩, by decide +kernel⟩
theorem cw_RL_7 : Cond.constant RL 7 61027 ∈ wall := wall_of 581 (by decide +kernel) rfl
theorem cw_RL_8 : Cond.constant RL 8 2147483647 ∈ wall := wall_of 582 (by decide +kernel) rfl

/-! the script's cells -/
def RM_l_cell : Room := { frames := 0, cells := 0, slots := 0, locals := 0 }
theorem c_l_cell (l : Launch) (D : va_G) (dA : Nat → ClassId) (q : Nat → Nat) (bb L : Nat) (xs : Nat → Int32) (k : Int32) (w : Wt) (r : Int32) (h : l_cell xs L k = some r) : Mi l (EVs bb L xs) [] D dA q yL_cell cL_cell 2 (some .int) RM_l_cell [.ref bb, .int k] w r w :=
  mk_i (by decide) rfl EVs_ok (Nat.le_of_ble_eq_true rfl) (fun p e s m args below meth c A Q ls hx hb hml C S hl fin => by
    have hl : lv_has ls 2 [(0, .ref bb), (1, .int k)] := hl
    obtain ⟨hX, hbl, hbA⟩ := C.2.2.2.2.2.2
    have tail : ∀ v : Int32, v &&& 2147483647 = r → W p l e RM_l_cell s m args below meth c s.heap [] 0 0 Q (F0 m 24 ls [.int v]) := fun v hv => by
      refine lv_ldc hx hb C.1 (C.2.1 _ cw_RL_8) dL_cell_24 ?_
      refine lv_iand hx hb dL_cell_26 ?_
      exact fin _ _ _ _ w _ S (by rw [hv]) dL_cell_27
    refine lv_iload_n hx hb dL_cell_0 rfl (lv_at hl 1 rfl) ?_
    refine lv_aload_n hx hb dL_cell_1 rfl (lv_at hl 0 rfl) ?_
    refine va_slen hx hb hX hbl hbA S.2 dL_cell_2 ?_
    unfold l_cell at h
    refine lv_icmp_ge (tgt := 12) hx hb dL_cell_3 rfl (fun c1 => ?_) (fun c1 => ?_)
    · rw [if_pos c1] at h
      refine lv_ldc hx hb C.1 (C.2.1 _ cw_RL_7) dL_cell_12 ?_
      refine lv_iload_n hx hb dL_cell_14 rfl (lv_at hl 1 rfl) ?_
      refine lv_sipush (v := 6211) hx hb dL_cell_15 (by decide) ?_
      refine lv_irem hx hb dL_cell_18 (by decide) ?_
      refine lv_imul hx hb dL_cell_19 ?_
      refine lv_sipush (v := 3109) hx hb dL_cell_20 (by decide) ?_
      refine lv_iadd hx hb dL_cell_23 ?_
      exact tail _ (Option.some.inj h)
    · rw [if_neg c1] at h
      obtain ⟨g, h⟩ := h_gs h
      refine lv_aload_n hx hb dL_cell_6 rfl (lv_at hl 0 rfl) ?_
      refine lv_iload_n hx hb dL_cell_7 rfl (lv_at hl 1 rfl) ?_
      refine va_sld hx hb hX hbl hbA S.2 (h_in g) dL_cell_8 ?_
      refine lv_goto (tgt := 24) hx hb dL_cell_9 rfl ?_
      exact tail _ (Option.some.inj h))
section CELL
variable {p : Program} {l : Launch} {e : Env} {R : Room} {s : State} {m : MethodId} {args : Array Value} {below : List Frame} {meth : Method} {c : Code} {H : Heap} {locs : List Loc} {cells slots : Nat} {Q : State → Prop}
variable {D : va_G} {dA : Nat → ClassId} {q : Nat → Nat} {A : Nat → Prop} {w : Wt} {r k : Int32} {bb L : Nat} {xs : Nat → Int32}
variable {cc : ByteArray} {pc nL : Nat} {ls : Array Slot} {rest : List Value}
theorem k_cell (hx : p.tables.exec = Jvm.exec) (hb : c.code = cc) (hml : c.maxLocals = nL) (C : Cx EVl KL D dA q A s m args RL) (S : Sta KL D dA q A s.heap w H locs) (hX : va_X bb L xs s s.heap) (hbl : bb < s.heap.size) (hbA : ¬ A bb) (h : l_cell xs L k = some r) (hR : 0 + 1 ≤ R.frames ∧ 8 + (2 + 11) + 0 ≤ R.locals) (hsz : ls.size = nL) (hW : (rest.map fun v => v.category).sum ≤ 8) (hdg : decode cc pc = .ok (.invokestatic 147, 3)) (hf : cells ≤ R.cells ∧ slots ≤ R.slots)
    (kk : ∀ (H1 : Heap) (locs1 : List Loc), Sta KL D dA q A s.heap w H1 locs1 → W p l e R s m args below meth c H1 locs1 cells slots Q (F0 m (pc + 3) ls (.int r :: rest))) : W p l e R s m args below meth c H locs cells slots Q (F0 m pc ls (.int k :: .ref bb :: rest)) := by
  have C' : Cx (EVs bb L xs) [] D dA q A s m args RL := ⟨C.1, C.2.1, C.2.2.1, fun i j hi => absurd hi (Nat.not_lt_zero _), fun i hi => absurd hi (Nat.not_lt_zero _), C.2.2.2.2.2.1, hX, hbl, hbA⟩
  have S' : Sta [] D dA q A s.heap w H locs := ⟨fun k z hz => absurd (wld_in hz).1 (Nat.not_lt_zero _), S.2⟩
  refine va_calli (q_S (rest := rest) (As := [.ref bb, .int k]) lk_cell EVs_ok hx hb hml C' S' (c_l_cell l D dA q bb L xs k w r h H.size) rfl rfl hR rfl hsz rfl hW hdg hf) S.2 (fun x _ h => C'.sub S' x h) (C'.sub S') (fun r' _ t H1 locs1 ht _ hr' _ _ hk hS => ?_)
  subst hr'
  refine kk H1 locs1 ⟨S.1.kept (fun k z hz => hk _ (S.1 k z hz).lt ?_), hS⟩
  intro hA
  rcases hA with ⟨i, hi, -⟩ | e
  · exact absurd hi (Nat.not_lt_zero _)
  · have := (S.1 k z hz).lt; omega
end CELL
