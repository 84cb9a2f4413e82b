/-! the reference's instructions -/
theorem dX10_thrown_0 : decode cX10_thrown 0 = .ok (.aload_n 0, 1) := by decide +kernel
theorem dX10_thrown_1 : decode cX10_thrown 1 = .ok (.getfield 98, 3) := by decide +kernel
theorem dX10_thrown_4 : decode cX10_thrown 4 = .ok (.ireturn, 1) := by decide +kernel
theorem dX10_goes_0 : decode cX10_goes 0 = .ok (.aload_n 0, 1) := by decide +kernel
theorem dX10_goes_1 : decode cX10_goes 1 = .ok (.iload_n 1, 1) := by decide +kernel
theorem dX10_goes_2 : decode cX10_goes 2 = .ok (.ifCond .ne 7, 3) := by decide +kernel
theorem dX10_goes_5 : decode cX10_goes 5 = .ok (.iconst 1, 1) := by decide +kernel
theorem dX10_goes_6 : decode cX10_goes 6 = .ok (.goto 20, 3) := by decide +kernel
theorem dX10_goes_9 : decode cX10_goes 9 = .ok (.iload_n 2, 1) := by decide +kernel
theorem dX10_goes_10 : decode cX10_goes 10 = .ok (.ifCond .ne 7, 3) := by decide +kernel
theorem dX10_goes_13 : decode cX10_goes 13 = .ok (.iconst 2, 1) := by decide +kernel
theorem dX10_goes_14 : decode cX10_goes 14 = .ok (.goto 12, 3) := by decide +kernel
theorem dX10_goes_17 : decode cX10_goes 17 = .ok (.iload_n 3, 1) := by decide +kernel
theorem dX10_goes_18 : decode cX10_goes 18 = .ok (.ifCond .ne 7, 3) := by decide +kernel
theorem dX10_goes_21 : decode cX10_goes 21 = .ok (.iconst 3, 1) := by decide +kernel
theorem dX10_goes_22 : decode cX10_goes 22 = .ok (.goto 4, 3) := by decide +kernel
theorem dX10_goes_25 : decode cX10_goes 25 = .ok (.iconst 0, 1) := by decide +kernel
theorem dX10_goes_26 : decode cX10_goes 26 = .ok (.putfield 98, 3) := by decide +kernel
theorem dX10_goes_29 : decode cX10_goes 29 = .ok (.aload_n 0, 1) := by decide +kernel
theorem dX10_goes_30 : decode cX10_goes 30 = .ok (.getfield 98, 3) := by decide +kernel
theorem dX10_goes_33 : decode cX10_goes 33 = .ok (.ifCond .ne 7, 3) := by decide +kernel
theorem dX10_goes_36 : decode cX10_goes 36 = .ok (.iconst 1, 1) := by decide +kernel
theorem dX10_goes_37 : decode cX10_goes 37 = .ok (.goto 4, 3) := by decide +kernel
theorem dX10_goes_40 : decode cX10_goes 40 = .ok (.iconst 0, 1) := by decide +kernel
theorem dX10_goes_41 : decode cX10_goes 41 = .ok (.ireturn, 1) := by decide +kernel
theorem dX10_isBelow_0 : decode cX10_isBelow 0 = .ok (.iload_n 0, 1) := by decide +kernel
theorem dX10_isBelow_1 : decode cX10_isBelow 1 = .ok (.ifCond .lt 12, 3) := by decide +kernel
theorem dX10_isBelow_4 : decode cX10_isBelow 4 = .ok (.iload_n 0, 1) := by decide +kernel
theorem dX10_isBelow_5 : decode cX10_isBelow 5 = .ok (.iload_n 1, 1) := by decide +kernel
theorem dX10_isBelow_6 : decode cX10_isBelow 6 = .ok (.if_icmp .ge 7, 3) := by decide +kernel
theorem dX10_isBelow_9 : decode cX10_isBelow 9 = .ok (.iconst 1, 1) := by decide +kernel
theorem dX10_isBelow_10 : decode cX10_isBelow 10 = .ok (.goto 4, 3) := by decide +kernel
theorem dX10_isBelow_13 : decode cX10_isBelow 13 = .ok (.iconst 0, 1) := by decide +kernel
theorem dX10_isBelow_14 : decode cX10_isBelow 14 = .ok (.ireturn, 1) := by decide +kernel
theorem dX10_isWithin_0 : decode cX10_isWithin 0 = .ok (.iload_n 0, 1) := by decide +kernel
theorem dX10_isWithin_1 : decode cX10_isWithin 1 = .ok (.iload_n 1, 1) := by decide +kernel
theorem dX10_isWithin_2 : decode cX10_isWithin 2 = .ok (.if_icmp .lt 12, 3) := by decide +kernel
theorem dX10_isWithin_5 : decode cX10_isWithin 5 = .ok (.iload_n 0, 1) := by decide +kernel
theorem dX10_isWithin_6 : decode cX10_isWithin 6 = .ok (.iload_n 2, 1) := by decide +kernel
theorem dX10_isWithin_7 : decode cX10_isWithin 7 = .ok (.if_icmp .gt 7, 3) := by decide +kernel
theorem dX10_isWithin_10 : decode cX10_isWithin 10 = .ok (.iconst 1, 1) := by decide +kernel
theorem dX10_isWithin_11 : decode cX10_isWithin 11 = .ok (.goto 4, 3) := by decide +kernel
theorem dX10_isWithin_14 : decode cX10_isWithin 14 = .ok (.iconst 0, 1) := by decide +kernel
theorem dX10_isWithin_15 : decode cX10_isWithin 15 = .ok (.ireturn, 1) := by decide +kernel
theorem dX10_enter_0 : decode cX10_enter 0 = .ok (.iload_n 3, 1) := by decide +kernel
theorem dX10_enter_1 : decode cX10_enter 1 = .ok (.iconst 0, 1) := by decide +kernel
theorem dX10_enter_2 : decode cX10_enter 2 = .ok (.sipush 1000, 3) := by decide +kernel
theorem dX10_enter_5 : decode cX10_enter 5 = .ok (.invokestatic 102, 3) := by decide +kernel
theorem dX10_enter_8 : decode cX10_enter 8 = .ok (.ifCond .eq 19, 3) := by decide +kernel
theorem dX10_enter_11 : decode cX10_enter 11 = .ok (.iload 4, 2) := by decide +kernel
theorem dX10_enter_13 : decode cX10_enter 13 = .ok (.iload_n 3, 1) := by decide +kernel
theorem dX10_enter_14 : decode cX10_enter 14 = .ok (.sipush 1000, 3) := by decide +kernel
theorem dX10_enter_17 : decode cX10_enter 17 = .ok (.invokestatic 102, 3) := by decide +kernel
theorem dX10_enter_20 : decode cX10_enter 20 = .ok (.ifCond .eq 7, 3) := by decide +kernel
theorem dX10_enter_23 : decode cX10_enter 23 = .ok (.iconst 1, 1) := by decide +kernel
theorem dX10_enter_24 : decode cX10_enter 24 = .ok (.goto 4, 3) := by decide +kernel
theorem dX10_enter_27 : decode cX10_enter 27 = .ok (.iconst 0, 1) := by decide +kernel
theorem dX10_enter_28 : decode cX10_enter 28 = .ok (.istore 5, 2) := by decide +kernel
theorem dX10_enter_30 : decode cX10_enter 30 = .ok (.aload_n 0, 1) := by decide +kernel
theorem dX10_enter_31 : decode cX10_enter 31 = .ok (.iload_n 1, 1) := by decide +kernel
theorem dX10_enter_32 : decode cX10_enter 32 = .ok (.iconst 3, 1) := by decide +kernel
theorem dX10_enter_33 : decode cX10_enter 33 = .ok (.invokestatic 106, 3) := by decide +kernel
theorem dX10_enter_36 : decode cX10_enter 36 = .ok (.ifCond .eq 16, 3) := by decide +kernel
theorem dX10_enter_39 : decode cX10_enter 39 = .ok (.iload_n 2, 1) := by decide +kernel
theorem dX10_enter_40 : decode cX10_enter 40 = .ok (.bipush 20, 2) := by decide +kernel
theorem dX10_enter_42 : decode cX10_enter 42 = .ok (.invokestatic 106, 3) := by decide +kernel
theorem dX10_enter_45 : decode cX10_enter 45 = .ok (.ifCond .eq 7, 3) := by decide +kernel
theorem dX10_enter_48 : decode cX10_enter 48 = .ok (.iconst 1, 1) := by decide +kernel
theorem dX10_enter_49 : decode cX10_enter 49 = .ok (.goto 4, 3) := by decide +kernel
theorem dX10_enter_52 : decode cX10_enter 52 = .ok (.iconst 0, 1) := by decide +kernel
theorem dX10_enter_53 : decode cX10_enter 53 = .ok (.iload 5, 2) := by decide +kernel
theorem dX10_enter_55 : decode cX10_enter 55 = .ok (.aload_n 0, 1) := by decide +kernel
theorem dX10_enter_56 : decode cX10_enter 56 = .ok (.getfield 110, 3) := by decide +kernel
theorem dX10_enter_59 : decode cX10_enter 59 = .ok (.bipush 60, 2) := by decide +kernel
theorem dX10_enter_61 : decode cX10_enter 61 = .ok (.if_icmp .ge 7, 3) := by decide +kernel
theorem dX10_enter_64 : decode cX10_enter 64 = .ok (.iconst 1, 1) := by decide +kernel
theorem dX10_enter_65 : decode cX10_enter 65 = .ok (.goto 4, 3) := by decide +kernel
theorem dX10_enter_68 : decode cX10_enter 68 = .ok (.iconst 0, 1) := by decide +kernel
theorem dX10_enter_69 : decode cX10_enter 69 = .ok (.invokevirtual 113, 3) := by decide +kernel
theorem dX10_enter_72 : decode cX10_enter 72 = .ok (.ifCond .ne 5, 3) := by decide +kernel
theorem dX10_enter_75 : decode cX10_enter 75 = .ok (.iconst 0, 1) := by decide +kernel
theorem dX10_enter_76 : decode cX10_enter 76 = .ok (.ireturn, 1) := by decide +kernel
theorem dX10_enter_77 : decode cX10_enter 77 = .ok (.aload_n 0, 1) := by decide +kernel
theorem dX10_enter_78 : decode cX10_enter 78 = .ok (.getfield 7, 3) := by decide +kernel
theorem dX10_enter_81 : decode cX10_enter 81 = .ok (.aload_n 0, 1) := by decide +kernel
theorem dX10_enter_82 : decode cX10_enter 82 = .ok (.getfield 110, 3) := by decide +kernel
theorem dX10_enter_85 : decode cX10_enter 85 = .ok (.iload_n 1, 1) := by decide +kernel
theorem dX10_enter_86 : decode cX10_enter 86 = .ok (.iastore, 1) := by decide +kernel
theorem dX10_enter_87 : decode cX10_enter 87 = .ok (.aload_n 0, 1) := by decide +kernel
theorem dX10_enter_88 : decode cX10_enter 88 = .ok (.getfield 13, 3) := by decide +kernel
theorem dX10_enter_91 : decode cX10_enter 91 = .ok (.aload_n 0, 1) := by decide +kernel
theorem dX10_enter_92 : decode cX10_enter 92 = .ok (.getfield 110, 3) := by decide +kernel
theorem dX10_enter_95 : decode cX10_enter 95 = .ok (.iload_n 2, 1) := by decide +kernel
theorem dX10_enter_96 : decode cX10_enter 96 = .ok (.iastore, 1) := by decide +kernel
theorem dX10_enter_97 : decode cX10_enter 97 = .ok (.aload_n 0, 1) := by decide +kernel
theorem dX10_enter_98 : decode cX10_enter 98 = .ok (.getfield 16, 3) := by decide +kernel
theorem dX10_enter_101 : decode cX10_enter 101 = .ok (.aload_n 0, 1) := by decide +kernel
theorem dX10_enter_102 : decode cX10_enter 102 = .ok (.getfield 110, 3) := by decide +kernel
theorem dX10_enter_105 : decode cX10_enter 105 = .ok (.iload_n 3, 1) := by decide +kernel
theorem dX10_enter_106 : decode cX10_enter 106 = .ok (.iastore, 1) := by decide +kernel
theorem dX10_enter_107 : decode cX10_enter 107 = .ok (.aload_n 0, 1) := by decide +kernel
theorem dX10_enter_108 : decode cX10_enter 108 = .ok (.getfield 19, 3) := by decide +kernel
theorem dX10_enter_111 : decode cX10_enter 111 = .ok (.aload_n 0, 1) := by decide +kernel
theorem dX10_enter_112 : decode cX10_enter 112 = .ok (.getfield 110, 3) := by decide +kernel
theorem dX10_enter_115 : decode cX10_enter 115 = .ok (.iload 4, 2) := by decide +kernel
theorem dX10_enter_117 : decode cX10_enter 117 = .ok (.iastore, 1) := by decide +kernel
theorem dX10_enter_118 : decode cX10_enter 118 = .ok (.aload_n 0, 1) := by decide +kernel
theorem dX10_enter_119 : decode cX10_enter 119 = .ok (.getfield 22, 3) := by decide +kernel
theorem dX10_enter_122 : decode cX10_enter 122 = .ok (.aload_n 0, 1) := by decide +kernel
theorem dX10_enter_123 : decode cX10_enter 123 = .ok (.getfield 110, 3) := by decide +kernel
theorem dX10_enter_126 : decode cX10_enter 126 = .ok (.iconst 0, 1) := by decide +kernel
theorem dX10_enter_127 : decode cX10_enter 127 = .ok (.bastore, 1) := by decide +kernel
theorem dX10_enter_128 : decode cX10_enter 128 = .ok (.aload_n 0, 1) := by decide +kernel
theorem dX10_enter_129 : decode cX10_enter 129 = .ok (.dup, 1) := by decide +kernel
theorem dX10_enter_130 : decode cX10_enter 130 = .ok (.getfield 110, 3) := by decide +kernel
theorem dX10_enter_133 : decode cX10_enter 133 = .ok (.iconst 1, 1) := by decide +kernel
theorem dX10_enter_134 : decode cX10_enter 134 = .ok (.iadd, 1) := by decide +kernel
theorem dX10_enter_135 : decode cX10_enter 135 = .ok (.putfield 110, 3) := by decide +kernel
theorem dX10_enter_138 : decode cX10_enter 138 = .ok (.aload_n 0, 1) := by decide +kernel
theorem dX10_enter_139 : decode cX10_enter 139 = .ok (.getfield 110, 3) := by decide +kernel
theorem dX10_enter_142 : decode cX10_enter 142 = .ok (.iconst 1, 1) := by decide +kernel
theorem dX10_enter_143 : decode cX10_enter 143 = .ok (.isub, 1) := by decide +kernel
theorem dX10_enter_144 : decode cX10_enter 144 = .ok (.ireturn, 1) := by decide +kernel
theorem dX10_allowed_0 : decode cX10_allowed 0 = .ok (.iconst 0, 1) := by decide +kernel
theorem dX10_allowed_1 : decode cX10_allowed 1 = .ok (.istore 4, 2) := by decide +kernel
theorem dX10_allowed_3 : decode cX10_allowed 3 = .ok (.iconst 0, 1) := by decide +kernel
theorem dX10_allowed_4 : decode cX10_allowed 4 = .ok (.istore 5, 2) := by decide +kernel
theorem dX10_allowed_6 : decode cX10_allowed 6 = .ok (.iload 5, 2) := by decide +kernel
theorem dX10_allowed_8 : decode cX10_allowed 8 = .ok (.aload_n 0, 1) := by decide +kernel
theorem dX10_allowed_9 : decode cX10_allowed 9 = .ok (.getfield 110, 3) := by decide +kernel
theorem dX10_allowed_12 : decode cX10_allowed 12 = .ok (.if_icmp .ge 74, 3) := by decide +kernel
theorem dX10_allowed_15 : decode cX10_allowed 15 = .ok (.iload 4, 2) := by decide +kernel
theorem dX10_allowed_17 : decode cX10_allowed 17 = .ok (.ifCond .ne 56, 3) := by decide +kernel
theorem dX10_allowed_20 : decode cX10_allowed 20 = .ok (.aload_n 0, 1) := by decide +kernel
theorem dX10_allowed_21 : decode cX10_allowed 21 = .ok (.getfield 22, 3) := by decide +kernel
theorem dX10_allowed_24 : decode cX10_allowed 24 = .ok (.iload 5, 2) := by decide +kernel
theorem dX10_allowed_26 : decode cX10_allowed 26 = .ok (.baload, 1) := by decide +kernel
theorem dX10_allowed_27 : decode cX10_allowed 27 = .ok (.ifCond .ne 50, 3) := by decide +kernel
theorem dX10_allowed_30 : decode cX10_allowed 30 = .ok (.aload_n 0, 1) := by decide +kernel
theorem dX10_allowed_31 : decode cX10_allowed 31 = .ok (.getfield 7, 3) := by decide +kernel
theorem dX10_allowed_34 : decode cX10_allowed 34 = .ok (.iload 5, 2) := by decide +kernel
theorem dX10_allowed_36 : decode cX10_allowed 36 = .ok (.iaload, 1) := by decide +kernel
theorem dX10_allowed_37 : decode cX10_allowed 37 = .ok (.iload_n 1, 1) := by decide +kernel
theorem dX10_allowed_38 : decode cX10_allowed 38 = .ok (.if_icmp .ne 39, 3) := by decide +kernel
theorem dX10_allowed_41 : decode cX10_allowed 41 = .ok (.aload_n 0, 1) := by decide +kernel
theorem dX10_allowed_42 : decode cX10_allowed 42 = .ok (.getfield 13, 3) := by decide +kernel
theorem dX10_allowed_45 : decode cX10_allowed 45 = .ok (.iload 5, 2) := by decide +kernel
theorem dX10_allowed_47 : decode cX10_allowed 47 = .ok (.iaload, 1) := by decide +kernel
theorem dX10_allowed_48 : decode cX10_allowed 48 = .ok (.iload_n 2, 1) := by decide +kernel
theorem dX10_allowed_49 : decode cX10_allowed 49 = .ok (.if_icmp .ne 28, 3) := by decide +kernel
theorem dX10_allowed_52 : decode cX10_allowed 52 = .ok (.iload_n 3, 1) := by decide +kernel
theorem dX10_allowed_53 : decode cX10_allowed 53 = .ok (.aload_n 0, 1) := by decide +kernel
theorem dX10_allowed_54 : decode cX10_allowed 54 = .ok (.getfield 16, 3) := by decide +kernel
theorem dX10_allowed_57 : decode cX10_allowed 57 = .ok (.iload 5, 2) := by decide +kernel
theorem dX10_allowed_59 : decode cX10_allowed 59 = .ok (.iaload, 1) := by decide +kernel
theorem dX10_allowed_60 : decode cX10_allowed 60 = .ok (.aload_n 0, 1) := by decide +kernel
theorem dX10_allowed_61 : decode cX10_allowed 61 = .ok (.getfield 19, 3) := by decide +kernel
theorem dX10_allowed_64 : decode cX10_allowed 64 = .ok (.iload 5, 2) := by decide +kernel
theorem dX10_allowed_66 : decode cX10_allowed 66 = .ok (.iaload, 1) := by decide +kernel
theorem dX10_allowed_67 : decode cX10_allowed 67 = .ok (.invokestatic 102, 3) := by decide +kernel
theorem dX10_allowed_70 : decode cX10_allowed 70 = .ok (.ifCond .eq 7, 3) := by decide +kernel
theorem dX10_allowed_73 : decode cX10_allowed 73 = .ok (.iconst 1, 1) := by decide +kernel
theorem dX10_allowed_74 : decode cX10_allowed 74 = .ok (.goto 4, 3) := by decide +kernel
theorem dX10_allowed_77 : decode cX10_allowed 77 = .ok (.iconst 0, 1) := by decide +kernel
theorem dX10_allowed_78 : decode cX10_allowed 78 = .ok (.istore 4, 2) := by decide +kernel
theorem dX10_allowed_80 : decode cX10_allowed 80 = .ok (.iinc 5 1, 3) := by decide +kernel
theorem dX10_allowed_83 : decode cX10_allowed 83 = .ok (.goto (-77), 3) := by decide +kernel
theorem dX10_allowed_86 : decode cX10_allowed 86 = .ok (.iload 4, 2) := by decide +kernel
theorem dX10_allowed_88 : decode cX10_allowed 88 = .ok (.ireturn, 1) := by decide +kernel
theorem dX10_reason_0 : decode cX10_reason 0 = .ok (.iconst 0, 1) := by decide +kernel
theorem dX10_reason_1 : decode cX10_reason 1 = .ok (.istore_n 2, 1) := by decide +kernel
theorem dX10_reason_2 : decode cX10_reason 2 = .ok (.iload_n 1, 1) := by decide +kernel
theorem dX10_reason_3 : decode cX10_reason 3 = .ok (.iconst 1, 1) := by decide +kernel
theorem dX10_reason_4 : decode cX10_reason 4 = .ok (.iadd, 1) := by decide +kernel
theorem dX10_reason_5 : decode cX10_reason 5 = .ok (.istore_n 3, 1) := by decide +kernel
theorem dX10_reason_6 : decode cX10_reason 6 = .ok (.iload_n 3, 1) := by decide +kernel
theorem dX10_reason_7 : decode cX10_reason 7 = .ok (.aload_n 0, 1) := by decide +kernel
theorem dX10_reason_8 : decode cX10_reason 8 = .ok (.getfield 117, 3) := by decide +kernel
theorem dX10_reason_11 : decode cX10_reason 11 = .ok (.if_icmp .ge 49, 3) := by decide +kernel
theorem dX10_reason_14 : decode cX10_reason 14 = .ok (.iload_n 2, 1) := by decide +kernel
theorem dX10_reason_15 : decode cX10_reason 15 = .ok (.ifCond .ne 33, 3) := by decide +kernel
theorem dX10_reason_18 : decode cX10_reason 18 = .ok (.aload_n 0, 1) := by decide +kernel
theorem dX10_reason_19 : decode cX10_reason 19 = .ok (.getfield 65, 3) := by decide +kernel
theorem dX10_reason_22 : decode cX10_reason 22 = .ok (.iload_n 3, 1) := by decide +kernel
theorem dX10_reason_23 : decode cX10_reason 23 = .ok (.iaload, 1) := by decide +kernel
theorem dX10_reason_24 : decode cX10_reason 24 = .ok (.aload_n 0, 1) := by decide +kernel
theorem dX10_reason_25 : decode cX10_reason 25 = .ok (.getfield 65, 3) := by decide +kernel
theorem dX10_reason_28 : decode cX10_reason 28 = .ok (.iload_n 1, 1) := by decide +kernel
theorem dX10_reason_29 : decode cX10_reason 29 = .ok (.iaload, 1) := by decide +kernel
theorem dX10_reason_30 : decode cX10_reason 30 = .ok (.if_icmp .ne 22, 3) := by decide +kernel
theorem dX10_reason_33 : decode cX10_reason 33 = .ok (.aload_n 0, 1) := by decide +kernel
theorem dX10_reason_34 : decode cX10_reason 34 = .ok (.getfield 68, 3) := by decide +kernel
theorem dX10_reason_37 : decode cX10_reason 37 = .ok (.iload_n 3, 1) := by decide +kernel
theorem dX10_reason_38 : decode cX10_reason 38 = .ok (.iaload, 1) := by decide +kernel
theorem dX10_reason_39 : decode cX10_reason 39 = .ok (.aload_n 0, 1) := by decide +kernel
theorem dX10_reason_40 : decode cX10_reason 40 = .ok (.getfield 68, 3) := by decide +kernel
theorem dX10_reason_43 : decode cX10_reason 43 = .ok (.iload_n 1, 1) := by decide +kernel
theorem dX10_reason_44 : decode cX10_reason 44 = .ok (.iaload, 1) := by decide +kernel
theorem dX10_reason_45 : decode cX10_reason 45 = .ok (.if_icmp .ne 7, 3) := by decide +kernel
theorem dX10_reason_48 : decode cX10_reason 48 = .ok (.iconst 1, 1) := by decide +kernel
theorem dX10_reason_49 : decode cX10_reason 49 = .ok (.goto 4, 3) := by decide +kernel
theorem dX10_reason_52 : decode cX10_reason 52 = .ok (.iconst 0, 1) := by decide +kernel
theorem dX10_reason_53 : decode cX10_reason 53 = .ok (.istore_n 2, 1) := by decide +kernel
theorem dX10_reason_54 : decode cX10_reason 54 = .ok (.iinc 3 1, 3) := by decide +kernel
theorem dX10_reason_57 : decode cX10_reason 57 = .ok (.goto (-51), 3) := by decide +kernel
theorem dX10_reason_60 : decode cX10_reason 60 = .ok (.iload_n 2, 1) := by decide +kernel
theorem dX10_reason_61 : decode cX10_reason 61 = .ok (.ifCond .eq 7, 3) := by decide +kernel
theorem dX10_reason_64 : decode cX10_reason 64 = .ok (.iconst 1, 1) := by decide +kernel
theorem dX10_reason_65 : decode cX10_reason 65 = .ok (.goto 38, 3) := by decide +kernel
theorem dX10_reason_68 : decode cX10_reason 68 = .ok (.aload_n 0, 1) := by decide +kernel
theorem dX10_reason_69 : decode cX10_reason 69 = .ok (.aload_n 0, 1) := by decide +kernel
theorem dX10_reason_70 : decode cX10_reason 70 = .ok (.getfield 35, 3) := by decide +kernel
theorem dX10_reason_73 : decode cX10_reason 73 = .ok (.aload_n 0, 1) := by decide +kernel
theorem dX10_reason_74 : decode cX10_reason 74 = .ok (.getfield 65, 3) := by decide +kernel
theorem dX10_reason_77 : decode cX10_reason 77 = .ok (.iload_n 1, 1) := by decide +kernel
theorem dX10_reason_78 : decode cX10_reason 78 = .ok (.iaload, 1) := by decide +kernel
theorem dX10_reason_79 : decode cX10_reason 79 = .ok (.iaload, 1) := by decide +kernel
theorem dX10_reason_80 : decode cX10_reason 80 = .ok (.aload_n 0, 1) := by decide +kernel
theorem dX10_reason_81 : decode cX10_reason 81 = .ok (.getfield 68, 3) := by decide +kernel
theorem dX10_reason_84 : decode cX10_reason 84 = .ok (.iload_n 1, 1) := by decide +kernel
theorem dX10_reason_85 : decode cX10_reason 85 = .ok (.iaload, 1) := by decide +kernel
theorem dX10_reason_86 : decode cX10_reason 86 = .ok (.aload_n 0, 1) := by decide +kernel
theorem dX10_reason_87 : decode cX10_reason 87 = .ok (.getfield 71, 3) := by decide +kernel
theorem dX10_reason_90 : decode cX10_reason 90 = .ok (.iload_n 1, 1) := by decide +kernel
theorem dX10_reason_91 : decode cX10_reason 91 = .ok (.iaload, 1) := by decide +kernel
theorem dX10_reason_92 : decode cX10_reason 92 = .ok (.invokevirtual 128, 3) := by decide +kernel
theorem dX10_reason_95 : decode cX10_reason 95 = .ok (.ifCond .eq 7, 3) := by decide +kernel
theorem dX10_reason_98 : decode cX10_reason 98 = .ok (.iconst 0, 1) := by decide +kernel
theorem dX10_reason_99 : decode cX10_reason 99 = .ok (.goto 4, 3) := by decide +kernel
theorem dX10_reason_102 : decode cX10_reason 102 = .ok (.iconst 2, 1) := by decide +kernel
theorem dX10_reason_103 : decode cX10_reason 103 = .ok (.ireturn, 1) := by decide +kernel
theorem dX10_counting_0 : decode cX10_counting 0 = .ok (.iconst 0, 1) := by decide +kernel
theorem dX10_counting_1 : decode cX10_counting 1 = .ok (.istore_n 1, 1) := by decide +kernel
theorem dX10_counting_2 : decode cX10_counting 2 = .ok (.iconst 0, 1) := by decide +kernel
theorem dX10_counting_3 : decode cX10_counting 3 = .ok (.istore_n 2, 1) := by decide +kernel
theorem dX10_counting_4 : decode cX10_counting 4 = .ok (.iload_n 2, 1) := by decide +kernel
theorem dX10_counting_5 : decode cX10_counting 5 = .ok (.aload_n 0, 1) := by decide +kernel
theorem dX10_counting_6 : decode cX10_counting 6 = .ok (.getfield 117, 3) := by decide +kernel
theorem dX10_counting_9 : decode cX10_counting 9 = .ok (.if_icmp .ge 25, 3) := by decide +kernel
theorem dX10_counting_12 : decode cX10_counting 12 = .ok (.iload_n 1, 1) := by decide +kernel
theorem dX10_counting_13 : decode cX10_counting 13 = .ok (.aload_n 0, 1) := by decide +kernel
theorem dX10_counting_14 : decode cX10_counting 14 = .ok (.iload_n 2, 1) := by decide +kernel
theorem dX10_counting_15 : decode cX10_counting 15 = .ok (.invokevirtual 120, 3) := by decide +kernel
theorem dX10_counting_18 : decode cX10_counting 18 = .ok (.ifCond .ne 7, 3) := by decide +kernel
theorem dX10_counting_21 : decode cX10_counting 21 = .ok (.iconst 1, 1) := by decide +kernel
theorem dX10_counting_22 : decode cX10_counting 22 = .ok (.goto 4, 3) := by decide +kernel
theorem dX10_counting_25 : decode cX10_counting 25 = .ok (.iconst 0, 1) := by decide +kernel
theorem dX10_counting_26 : decode cX10_counting 26 = .ok (.iadd, 1) := by decide +kernel
theorem dX10_counting_27 : decode cX10_counting 27 = .ok (.istore_n 1, 1) := by decide +kernel
theorem dX10_counting_28 : decode cX10_counting 28 = .ok (.iinc 2 1, 3) := by decide +kernel
theorem dX10_counting_31 : decode cX10_counting 31 = .ok (.goto (-27), 3) := by decide +kernel
theorem dX10_counting_34 : decode cX10_counting 34 = .ok (.iload_n 1, 1) := by decide +kernel
theorem dX10_counting_35 : decode cX10_counting 35 = .ok (.ireturn, 1) := by decide +kernel
theorem dX10_strike_0 : decode cX10_strike 0 = .ok (.iload_n 1, 1) := by decide +kernel
theorem dX10_strike_1 : decode cX10_strike 1 = .ok (.aload_n 0, 1) := by decide +kernel
theorem dX10_strike_2 : decode cX10_strike 2 = .ok (.getfield 110, 3) := by decide +kernel
theorem dX10_strike_5 : decode cX10_strike 5 = .ok (.invokestatic 106, 3) := by decide +kernel
theorem dX10_strike_8 : decode cX10_strike 8 = .ok (.istore_n 2, 1) := by decide +kernel
theorem dX10_strike_9 : decode cX10_strike 9 = .ok (.aload_n 0, 1) := by decide +kernel
theorem dX10_strike_10 : decode cX10_strike 10 = .ok (.iload_n 2, 1) := by decide +kernel
theorem dX10_strike_11 : decode cX10_strike 11 = .ok (.iload_n 2, 1) := by decide +kernel
theorem dX10_strike_12 : decode cX10_strike 12 = .ok (.ifCond .eq 16, 3) := by decide +kernel
theorem dX10_strike_15 : decode cX10_strike 15 = .ok (.aload_n 0, 1) := by decide +kernel
theorem dX10_strike_16 : decode cX10_strike 16 = .ok (.getfield 22, 3) := by decide +kernel
theorem dX10_strike_19 : decode cX10_strike 19 = .ok (.iload_n 1, 1) := by decide +kernel
theorem dX10_strike_20 : decode cX10_strike 20 = .ok (.baload, 1) := by decide +kernel
theorem dX10_strike_21 : decode cX10_strike 21 = .ok (.ifCond .ne 7, 3) := by decide +kernel
theorem dX10_strike_24 : decode cX10_strike 24 = .ok (.iconst 1, 1) := by decide +kernel
theorem dX10_strike_25 : decode cX10_strike 25 = .ok (.goto 4, 3) := by decide +kernel
theorem dX10_strike_28 : decode cX10_strike 28 = .ok (.iconst 0, 1) := by decide +kernel
theorem dX10_strike_29 : decode cX10_strike 29 = .ok (.iconst 1, 1) := by decide +kernel
theorem dX10_strike_30 : decode cX10_strike 30 = .ok (.invokevirtual 113, 3) := by decide +kernel
theorem dX10_strike_33 : decode cX10_strike 33 = .ok (.ifCond .ne 5, 3) := by decide +kernel
theorem dX10_strike_36 : decode cX10_strike 36 = .ok (.iconst 0, 1) := by decide +kernel
theorem dX10_strike_37 : decode cX10_strike 37 = .ok (.ireturn, 1) := by decide +kernel
theorem dX10_strike_38 : decode cX10_strike 38 = .ok (.aload_n 0, 1) := by decide +kernel
theorem dX10_strike_39 : decode cX10_strike 39 = .ok (.invokevirtual 124, 3) := by decide +kernel
theorem dX10_strike_42 : decode cX10_strike 42 = .ok (.istore_n 3, 1) := by decide +kernel
theorem dX10_strike_43 : decode cX10_strike 43 = .ok (.aload_n 0, 1) := by decide +kernel
theorem dX10_strike_44 : decode cX10_strike 44 = .ok (.getfield 22, 3) := by decide +kernel
theorem dX10_strike_47 : decode cX10_strike 47 = .ok (.iload_n 1, 1) := by decide +kernel
theorem dX10_strike_48 : decode cX10_strike 48 = .ok (.iconst 1, 1) := by decide +kernel
theorem dX10_strike_49 : decode cX10_strike 49 = .ok (.bastore, 1) := by decide +kernel
theorem dX10_strike_50 : decode cX10_strike 50 = .ok (.iload_n 3, 1) := by decide +kernel
theorem dX10_strike_51 : decode cX10_strike 51 = .ok (.aload_n 0, 1) := by decide +kernel
theorem dX10_strike_52 : decode cX10_strike 52 = .ok (.invokevirtual 124, 3) := by decide +kernel
theorem dX10_strike_55 : decode cX10_strike 55 = .ok (.isub, 1) := by decide +kernel
theorem dX10_strike_56 : decode cX10_strike 56 = .ok (.ireturn, 1) := by decide +kernel
theorem dX10_isAllowed_0 : decode cX10_isAllowed 0 = .ok (.aload_n 0, 1) := by decide +kernel
theorem dX10_isAllowed_1 : decode cX10_isAllowed 1 = .ok (.iload_n 1, 1) := by decide +kernel
theorem dX10_isAllowed_2 : decode cX10_isAllowed 2 = .ok (.iconst 3, 1) := by decide +kernel
theorem dX10_isAllowed_3 : decode cX10_isAllowed 3 = .ok (.invokestatic 106, 3) := by decide +kernel
theorem dX10_isAllowed_6 : decode cX10_isAllowed 6 = .ok (.ifCond .eq 16, 3) := by decide +kernel
theorem dX10_isAllowed_9 : decode cX10_isAllowed 9 = .ok (.iload_n 2, 1) := by decide +kernel
theorem dX10_isAllowed_10 : decode cX10_isAllowed 10 = .ok (.bipush 20, 2) := by decide +kernel
theorem dX10_isAllowed_12 : decode cX10_isAllowed 12 = .ok (.invokestatic 106, 3) := by decide +kernel
theorem dX10_isAllowed_15 : decode cX10_isAllowed 15 = .ok (.ifCond .eq 7, 3) := by decide +kernel
theorem dX10_isAllowed_18 : decode cX10_isAllowed 18 = .ok (.iconst 1, 1) := by decide +kernel
theorem dX10_isAllowed_19 : decode cX10_isAllowed 19 = .ok (.goto 4, 3) := by decide +kernel
theorem dX10_isAllowed_22 : decode cX10_isAllowed 22 = .ok (.iconst 0, 1) := by decide +kernel
theorem dX10_isAllowed_23 : decode cX10_isAllowed 23 = .ok (.iload_n 3, 1) := by decide +kernel
theorem dX10_isAllowed_24 : decode cX10_isAllowed 24 = .ok (.iconst 0, 1) := by decide +kernel
theorem dX10_isAllowed_25 : decode cX10_isAllowed 25 = .ok (.sipush 1000, 3) := by decide +kernel
theorem dX10_isAllowed_28 : decode cX10_isAllowed 28 = .ok (.invokestatic 102, 3) := by decide +kernel
theorem dX10_isAllowed_31 : decode cX10_isAllowed 31 = .ok (.iconst 1, 1) := by decide +kernel
theorem dX10_isAllowed_32 : decode cX10_isAllowed 32 = .ok (.invokevirtual 113, 3) := by decide +kernel
theorem dX10_isAllowed_35 : decode cX10_isAllowed 35 = .ok (.ifCond .eq 17, 3) := by decide +kernel
theorem dX10_isAllowed_38 : decode cX10_isAllowed 38 = .ok (.aload_n 0, 1) := by decide +kernel
theorem dX10_isAllowed_39 : decode cX10_isAllowed 39 = .ok (.iload_n 1, 1) := by decide +kernel
theorem dX10_isAllowed_40 : decode cX10_isAllowed 40 = .ok (.iload_n 2, 1) := by decide +kernel
theorem dX10_isAllowed_41 : decode cX10_isAllowed 41 = .ok (.iload_n 3, 1) := by decide +kernel
theorem dX10_isAllowed_42 : decode cX10_isAllowed 42 = .ok (.invokevirtual 128, 3) := by decide +kernel
theorem dX10_isAllowed_45 : decode cX10_isAllowed 45 = .ok (.ifCond .eq 7, 3) := by decide +kernel
theorem dX10_isAllowed_48 : decode cX10_isAllowed 48 = .ok (.iconst 1, 1) := by decide +kernel
theorem dX10_isAllowed_49 : decode cX10_isAllowed 49 = .ok (.goto 4, 3) := by decide +kernel
theorem dX10_isAllowed_52 : decode cX10_isAllowed 52 = .ok (.iconst 0, 1) := by decide +kernel
theorem dX10_isAllowed_53 : decode cX10_isAllowed 53 = .ok (.ireturn, 1) := by decide +kernel
theorem dX10_pass_0 : decode cX10_pass 0 = .ok (.iload_n 1, 1) := by decide +kernel
theorem dX10_pass_1 : decode cX10_pass 1 = .ok (.iconst 1, 1) := by decide +kernel
theorem dX10_pass_2 : decode cX10_pass 2 = .ok (.bipush 100, 2) := by decide +kernel
theorem dX10_pass_4 : decode cX10_pass 4 = .ok (.invokestatic 102, 3) := by decide +kernel
theorem dX10_pass_7 : decode cX10_pass 7 = .ok (.istore_n 2, 1) := by decide +kernel
theorem dX10_pass_8 : decode cX10_pass 8 = .ok (.aload_n 0, 1) := by decide +kernel
theorem dX10_pass_9 : decode cX10_pass 9 = .ok (.iload_n 2, 1) := by decide +kernel
theorem dX10_pass_10 : decode cX10_pass 10 = .ok (.iload_n 2, 1) := by decide +kernel
theorem dX10_pass_11 : decode cX10_pass 11 = .ok (.ifCond .eq 19, 3) := by decide +kernel
theorem dX10_pass_14 : decode cX10_pass 14 = .ok (.aload_n 0, 1) := by decide +kernel
theorem dX10_pass_15 : decode cX10_pass 15 = .ok (.getfield 131, 3) := by decide +kernel
theorem dX10_pass_18 : decode cX10_pass 18 = .ok (.iload_n 1, 1) := by decide +kernel
theorem dX10_pass_19 : decode cX10_pass 19 = .ok (.iadd, 1) := by decide +kernel
theorem dX10_pass_20 : decode cX10_pass 20 = .ok (.sipush 1000, 3) := by decide +kernel
theorem dX10_pass_23 : decode cX10_pass 23 = .ok (.if_icmp .gt 7, 3) := by decide +kernel
theorem dX10_pass_26 : decode cX10_pass 26 = .ok (.iconst 1, 1) := by decide +kernel
theorem dX10_pass_27 : decode cX10_pass 27 = .ok (.goto 4, 3) := by decide +kernel
theorem dX10_pass_30 : decode cX10_pass 30 = .ok (.iconst 0, 1) := by decide +kernel
theorem dX10_pass_31 : decode cX10_pass 31 = .ok (.iconst 1, 1) := by decide +kernel
theorem dX10_pass_32 : decode cX10_pass 32 = .ok (.invokevirtual 113, 3) := by decide +kernel
theorem dX10_pass_35 : decode cX10_pass 35 = .ok (.ifCond .ne 5, 3) := by decide +kernel
theorem dX10_pass_38 : decode cX10_pass 38 = .ok (.iconst 0, 1) := by decide +kernel
theorem dX10_pass_39 : decode cX10_pass 39 = .ok (.ireturn, 1) := by decide +kernel
theorem dX10_pass_40 : decode cX10_pass 40 = .ok (.aload_n 0, 1) := by decide +kernel
theorem dX10_pass_41 : decode cX10_pass 41 = .ok (.dup, 1) := by decide +kernel
theorem dX10_pass_42 : decode cX10_pass 42 = .ok (.getfield 131, 3) := by decide +kernel
theorem dX10_pass_45 : decode cX10_pass 45 = .ok (.iload_n 1, 1) := by decide +kernel
theorem dX10_pass_46 : decode cX10_pass 46 = .ok (.iadd, 1) := by decide +kernel
theorem dX10_pass_47 : decode cX10_pass 47 = .ok (.putfield 131, 3) := by decide +kernel
theorem dX10_pass_50 : decode cX10_pass 50 = .ok (.aload_n 0, 1) := by decide +kernel
theorem dX10_pass_51 : decode cX10_pass 51 = .ok (.getfield 131, 3) := by decide +kernel
theorem dX10_pass_54 : decode cX10_pass 54 = .ok (.ireturn, 1) := by decide +kernel
theorem dX10_isFigure_0 : decode cX10_isFigure 0 = .ok (.iload_n 0, 1) := by decide +kernel
theorem dX10_isFigure_1 : decode cX10_isFigure 1 = .ok (.bipush 48, 2) := by decide +kernel
theorem dX10_isFigure_3 : decode cX10_isFigure 3 = .ok (.if_icmp .lt 13, 3) := by decide +kernel
theorem dX10_isFigure_6 : decode cX10_isFigure 6 = .ok (.iload_n 0, 1) := by decide +kernel
theorem dX10_isFigure_7 : decode cX10_isFigure 7 = .ok (.bipush 57, 2) := by decide +kernel
theorem dX10_isFigure_9 : decode cX10_isFigure 9 = .ok (.if_icmp .gt 7, 3) := by decide +kernel
theorem dX10_isFigure_12 : decode cX10_isFigure 12 = .ok (.iconst 1, 1) := by decide +kernel
theorem dX10_isFigure_13 : decode cX10_isFigure 13 = .ok (.goto 4, 3) := by decide +kernel
theorem dX10_isFigure_16 : decode cX10_isFigure 16 = .ok (.iconst 0, 1) := by decide +kernel
theorem dX10_isFigure_17 : decode cX10_isFigure 17 = .ok (.ireturn, 1) := by decide +kernel
theorem dX10_type_0 : decode cX10_type 0 = .ok (.iload_n 1, 1) := by decide +kernel
theorem dX10_type_1 : decode cX10_type 1 = .ok (.bipush 97, 2) := by decide +kernel
theorem dX10_type_3 : decode cX10_type 3 = .ok (.if_icmp .lt 9, 3) := by decide +kernel
theorem dX10_type_6 : decode cX10_type 6 = .ok (.iload_n 1, 1) := by decide +kernel
theorem dX10_type_7 : decode cX10_type 7 = .ok (.bipush 122, 2) := by decide +kernel
theorem dX10_type_9 : decode cX10_type 9 = .ok (.if_icmp .le 28, 3) := by decide +kernel
theorem dX10_type_12 : decode cX10_type 12 = .ok (.iload_n 1, 1) := by decide +kernel
theorem dX10_type_13 : decode cX10_type 13 = .ok (.invokestatic 134, 3) := by decide +kernel
theorem dX10_type_16 : decode cX10_type 16 = .ok (.ifCond .ne 21, 3) := by decide +kernel
theorem dX10_type_19 : decode cX10_type 19 = .ok (.iload_n 1, 1) := by decide +kernel
theorem dX10_type_20 : decode cX10_type 20 = .ok (.bipush 59, 2) := by decide +kernel
theorem dX10_type_22 : decode cX10_type 22 = .ok (.if_icmp .eq 15, 3) := by decide +kernel
theorem dX10_type_25 : decode cX10_type 25 = .ok (.iload_n 1, 1) := by decide +kernel
theorem dX10_type_26 : decode cX10_type 26 = .ok (.bipush 40, 2) := by decide +kernel
theorem dX10_type_28 : decode cX10_type 28 = .ok (.if_icmp .eq 9, 3) := by decide +kernel
theorem dX10_type_31 : decode cX10_type 31 = .ok (.iload_n 1, 1) := by decide +kernel
theorem dX10_type_32 : decode cX10_type 32 = .ok (.bipush 41, 2) := by decide +kernel
theorem dX10_type_34 : decode cX10_type 34 = .ok (.if_icmp .ne 7, 3) := by decide +kernel
theorem dX10_type_37 : decode cX10_type 37 = .ok (.iconst 1, 1) := by decide +kernel
theorem dX10_type_38 : decode cX10_type 38 = .ok (.goto 4, 3) := by decide +kernel
theorem dX10_type_41 : decode cX10_type 41 = .ok (.iconst 0, 1) := by decide +kernel
theorem dX10_type_42 : decode cX10_type 42 = .ok (.istore_n 2, 1) := by decide +kernel
theorem dX10_type_43 : decode cX10_type 43 = .ok (.aload_n 0, 1) := by decide +kernel
theorem dX10_type_44 : decode cX10_type 44 = .ok (.iload_n 2, 1) := by decide +kernel
theorem dX10_type_45 : decode cX10_type 45 = .ok (.aload_n 0, 1) := by decide +kernel
theorem dX10_type_46 : decode cX10_type 46 = .ok (.getfield 138, 3) := by decide +kernel
theorem dX10_type_49 : decode cX10_type 49 = .ok (.bipush 24, 2) := by decide +kernel
theorem dX10_type_51 : decode cX10_type 51 = .ok (.if_icmp .ge 7, 3) := by decide +kernel
theorem dX10_type_54 : decode cX10_type 54 = .ok (.iconst 1, 1) := by decide +kernel
theorem dX10_type_55 : decode cX10_type 55 = .ok (.goto 4, 3) := by decide +kernel
theorem dX10_type_58 : decode cX10_type 58 = .ok (.iconst 0, 1) := by decide +kernel
theorem dX10_type_59 : decode cX10_type 59 = .ok (.iconst 1, 1) := by decide +kernel
theorem dX10_type_60 : decode cX10_type 60 = .ok (.invokevirtual 113, 3) := by decide +kernel
theorem dX10_type_63 : decode cX10_type 63 = .ok (.ifCond .ne 5, 3) := by decide +kernel
theorem dX10_type_66 : decode cX10_type 66 = .ok (.iconst 0, 1) := by decide +kernel
theorem dX10_type_67 : decode cX10_type 67 = .ok (.ireturn, 1) := by decide +kernel
theorem dX10_type_68 : decode cX10_type 68 = .ok (.aload_n 0, 1) := by decide +kernel
theorem dX10_type_69 : decode cX10_type 69 = .ok (.getfield 26, 3) := by decide +kernel
theorem dX10_type_72 : decode cX10_type 72 = .ok (.aload_n 0, 1) := by decide +kernel
theorem dX10_type_73 : decode cX10_type 73 = .ok (.getfield 138, 3) := by decide +kernel
theorem dX10_type_76 : decode cX10_type 76 = .ok (.iload_n 1, 1) := by decide +kernel
theorem dX10_type_77 : decode cX10_type 77 = .ok (.iastore, 1) := by decide +kernel
theorem dX10_type_78 : decode cX10_type 78 = .ok (.aload_n 0, 1) := by decide +kernel
theorem dX10_type_79 : decode cX10_type 79 = .ok (.dup, 1) := by decide +kernel
theorem dX10_type_80 : decode cX10_type 80 = .ok (.getfield 138, 3) := by decide +kernel
theorem dX10_type_83 : decode cX10_type 83 = .ok (.iconst 1, 1) := by decide +kernel
theorem dX10_type_84 : decode cX10_type 84 = .ok (.iadd, 1) := by decide +kernel
theorem dX10_type_85 : decode cX10_type 85 = .ok (.putfield 138, 3) := by decide +kernel
theorem dX10_type_88 : decode cX10_type 88 = .ok (.aload_n 0, 1) := by decide +kernel
theorem dX10_type_89 : decode cX10_type 89 = .ok (.getfield 138, 3) := by decide +kernel
theorem dX10_type_92 : decode cX10_type 92 = .ok (.ireturn, 1) := by decide +kernel
theorem dX10_wipe_0 : decode cX10_wipe 0 = .ok (.aload_n 0, 1) := by decide +kernel
theorem dX10_wipe_1 : decode cX10_wipe 1 = .ok (.iconst 0, 1) := by decide +kernel
theorem dX10_wipe_2 : decode cX10_wipe 2 = .ok (.putfield 98, 3) := by decide +kernel
theorem dX10_wipe_5 : decode cX10_wipe 5 = .ok (.aload_n 0, 1) := by decide +kernel
theorem dX10_wipe_6 : decode cX10_wipe 6 = .ok (.getfield 138, 3) := by decide +kernel
theorem dX10_wipe_9 : decode cX10_wipe 9 = .ok (.istore_n 1, 1) := by decide +kernel
theorem dX10_wipe_10 : decode cX10_wipe 10 = .ok (.aload_n 0, 1) := by decide +kernel
theorem dX10_wipe_11 : decode cX10_wipe 11 = .ok (.iconst 0, 1) := by decide +kernel
theorem dX10_wipe_12 : decode cX10_wipe 12 = .ok (.putfield 138, 3) := by decide +kernel
theorem dX10_wipe_15 : decode cX10_wipe 15 = .ok (.iload_n 1, 1) := by decide +kernel
theorem dX10_wipe_16 : decode cX10_wipe 16 = .ok (.ireturn, 1) := by decide +kernel
theorem dX10_isPlain_0 : decode cX10_isPlain 0 = .ok (.iload_n 0, 1) := by decide +kernel
theorem dX10_isPlain_1 : decode cX10_isPlain 1 = .ok (.bipush 116, 2) := by decide +kernel
theorem dX10_isPlain_3 : decode cX10_isPlain 3 = .ok (.if_icmp .eq 15, 3) := by decide +kernel
theorem dX10_isPlain_6 : decode cX10_isPlain 6 = .ok (.iload_n 0, 1) := by decide +kernel
theorem dX10_isPlain_7 : decode cX10_isPlain 7 = .ok (.bipush 98, 2) := by decide +kernel
theorem dX10_isPlain_9 : decode cX10_isPlain 9 = .ok (.if_icmp .eq 9, 3) := by decide +kernel
theorem dX10_isPlain_12 : decode cX10_isPlain 12 = .ok (.iload_n 0, 1) := by decide +kernel
theorem dX10_isPlain_13 : decode cX10_isPlain 13 = .ok (.bipush 97, 2) := by decide +kernel
theorem dX10_isPlain_15 : decode cX10_isPlain 15 = .ok (.if_icmp .ne 7, 3) := by decide +kernel
theorem dX10_isPlain_18 : decode cX10_isPlain 18 = .ok (.iconst 1, 1) := by decide +kernel
theorem dX10_isPlain_19 : decode cX10_isPlain 19 = .ok (.goto 4, 3) := by decide +kernel
theorem dX10_isPlain_22 : decode cX10_isPlain 22 = .ok (.iconst 0, 1) := by decide +kernel
theorem dX10_isPlain_23 : decode cX10_isPlain 23 = .ok (.istore_n 1, 1) := by decide +kernel
theorem dX10_isPlain_24 : decode cX10_isPlain 24 = .ok (.iload_n 0, 1) := by decide +kernel
theorem dX10_isPlain_25 : decode cX10_isPlain 25 = .ok (.bipush 109, 2) := by decide +kernel
theorem dX10_isPlain_27 : decode cX10_isPlain 27 = .ok (.if_icmp .eq 15, 3) := by decide +kernel
theorem dX10_isPlain_30 : decode cX10_isPlain 30 = .ok (.iload_n 0, 1) := by decide +kernel
theorem dX10_isPlain_31 : decode cX10_isPlain 31 = .ok (.bipush 120, 2) := by decide +kernel
theorem dX10_isPlain_33 : decode cX10_isPlain 33 = .ok (.if_icmp .eq 9, 3) := by decide +kernel
theorem dX10_isPlain_36 : decode cX10_isPlain 36 = .ok (.iload_n 0, 1) := by decide +kernel
theorem dX10_isPlain_37 : decode cX10_isPlain 37 = .ok (.bipush 114, 2) := by decide +kernel
theorem dX10_isPlain_39 : decode cX10_isPlain 39 = .ok (.if_icmp .ne 7, 3) := by decide +kernel
theorem dX10_isPlain_42 : decode cX10_isPlain 42 = .ok (.iconst 1, 1) := by decide +kernel
theorem dX10_isPlain_43 : decode cX10_isPlain 43 = .ok (.goto 4, 3) := by decide +kernel
theorem dX10_isPlain_46 : decode cX10_isPlain 46 = .ok (.iconst 0, 1) := by decide +kernel
theorem dX10_isPlain_47 : decode cX10_isPlain 47 = .ok (.istore_n 2, 1) := by decide +kernel
theorem dX10_isPlain_48 : decode cX10_isPlain 48 = .ok (.iload_n 1, 1) := by decide +kernel
theorem dX10_isPlain_49 : decode cX10_isPlain 49 = .ok (.ifCond .ne 25, 3) := by decide +kernel
theorem dX10_isPlain_52 : decode cX10_isPlain 52 = .ok (.iload_n 2, 1) := by decide +kernel
theorem dX10_isPlain_53 : decode cX10_isPlain 53 = .ok (.ifCond .ne 21, 3) := by decide +kernel
theorem dX10_isPlain_56 : decode cX10_isPlain 56 = .ok (.iload_n 0, 1) := by decide +kernel
theorem dX10_isPlain_57 : decode cX10_isPlain 57 = .ok (.bipush 108, 2) := by decide +kernel
theorem dX10_isPlain_59 : decode cX10_isPlain 59 = .ok (.if_icmp .eq 15, 3) := by decide +kernel
theorem dX10_isPlain_62 : decode cX10_isPlain 62 = .ok (.iload_n 0, 1) := by decide +kernel
theorem dX10_isPlain_63 : decode cX10_isPlain 63 = .ok (.bipush 104, 2) := by decide +kernel
theorem dX10_isPlain_65 : decode cX10_isPlain 65 = .ok (.if_icmp .eq 9, 3) := by decide +kernel
theorem dX10_isPlain_68 : decode cX10_isPlain 68 = .ok (.iload_n 0, 1) := by decide +kernel
theorem dX10_isPlain_69 : decode cX10_isPlain 69 = .ok (.bipush 113, 2) := by decide +kernel
theorem dX10_isPlain_71 : decode cX10_isPlain 71 = .ok (.if_icmp .ne 7, 3) := by decide +kernel
theorem dX10_isPlain_74 : decode cX10_isPlain 74 = .ok (.iconst 1, 1) := by decide +kernel
theorem dX10_isPlain_75 : decode cX10_isPlain 75 = .ok (.goto 4, 3) := by decide +kernel
theorem dX10_isPlain_78 : decode cX10_isPlain 78 = .ok (.iconst 0, 1) := by decide +kernel
theorem dX10_isPlain_79 : decode cX10_isPlain 79 = .ok (.ireturn, 1) := by decide +kernel
theorem dX10_faultOf_0 : decode cX10_faultOf 0 = .ok (.iconst 0, 1) := by decide +kernel
theorem dX10_faultOf_1 : decode cX10_faultOf 1 = .ok (.istore_n 1, 1) := by decide +kernel
theorem dX10_faultOf_2 : decode cX10_faultOf 2 = .ok (.iconst 0, 1) := by decide +kernel
theorem dX10_faultOf_3 : decode cX10_faultOf 3 = .ok (.istore_n 2, 1) := by decide +kernel
theorem dX10_faultOf_4 : decode cX10_faultOf 4 = .ok (.iconst 0, 1) := by decide +kernel
theorem dX10_faultOf_5 : decode cX10_faultOf 5 = .ok (.istore_n 3, 1) := by decide +kernel
theorem dX10_faultOf_6 : decode cX10_faultOf 6 = .ok (.iload_n 3, 1) := by decide +kernel
theorem dX10_faultOf_7 : decode cX10_faultOf 7 = .ok (.aload_n 0, 1) := by decide +kernel
theorem dX10_faultOf_8 : decode cX10_faultOf 8 = .ok (.getfield 138, 3) := by decide +kernel
theorem dX10_faultOf_11 : decode cX10_faultOf 11 = .ok (.if_icmp .ge 150, 3) := by decide +kernel
theorem dX10_faultOf_14 : decode cX10_faultOf 14 = .ok (.aload_n 0, 1) := by decide +kernel
theorem dX10_faultOf_15 : decode cX10_faultOf 15 = .ok (.getfield 26, 3) := by decide +kernel
theorem dX10_faultOf_18 : decode cX10_faultOf 18 = .ok (.iload_n 3, 1) := by decide +kernel
theorem dX10_faultOf_19 : decode cX10_faultOf 19 = .ok (.iaload, 1) := by decide +kernel
theorem dX10_faultOf_20 : decode cX10_faultOf 20 = .ok (.istore 4, 2) := by decide +kernel
theorem dX10_faultOf_22 : decode cX10_faultOf 22 = .ok (.iload_n 2, 1) := by decide +kernel
theorem dX10_faultOf_23 : decode cX10_faultOf 23 = .ok (.iconst 2, 1) := by decide +kernel
theorem dX10_faultOf_24 : decode cX10_faultOf 24 = .ok (.if_icmp .ge 16, 3) := by decide +kernel
theorem dX10_faultOf_27 : decode cX10_faultOf 27 = .ok (.iload 4, 2) := by decide +kernel
theorem dX10_faultOf_29 : decode cX10_faultOf 29 = .ok (.invokestatic 141, 3) := by decide +kernel
theorem dX10_faultOf_32 : decode cX10_faultOf 32 = .ok (.ifCond .eq 8, 3) := by decide +kernel
theorem dX10_faultOf_35 : decode cX10_faultOf 35 = .ok (.iconst 2, 1) := by decide +kernel
theorem dX10_faultOf_36 : decode cX10_faultOf 36 = .ok (.istore_n 2, 1) := by decide +kernel
theorem dX10_faultOf_37 : decode cX10_faultOf 37 = .ok (.goto 118, 3) := by decide +kernel
theorem dX10_faultOf_40 : decode cX10_faultOf 40 = .ok (.iload_n 2, 1) := by decide +kernel
theorem dX10_faultOf_41 : decode cX10_faultOf 41 = .ok (.iconst 2, 1) := by decide +kernel
theorem dX10_faultOf_42 : decode cX10_faultOf 42 = .ok (.if_icmp .ge 15, 3) := by decide +kernel
theorem dX10_faultOf_45 : decode cX10_faultOf 45 = .ok (.iload 4, 2) := by decide +kernel
theorem dX10_faultOf_47 : decode cX10_faultOf 47 = .ok (.bipush 101, 2) := by decide +kernel
theorem dX10_faultOf_49 : decode cX10_faultOf 49 = .ok (.if_icmp .ne 8, 3) := by decide +kernel
theorem dX10_faultOf_52 : decode cX10_faultOf 52 = .ok (.iconst 3, 1) := by decide +kernel
theorem dX10_faultOf_53 : decode cX10_faultOf 53 = .ok (.istore_n 2, 1) := by decide +kernel
theorem dX10_faultOf_54 : decode cX10_faultOf 54 = .ok (.goto 101, 3) := by decide +kernel
theorem dX10_faultOf_57 : decode cX10_faultOf 57 = .ok (.iload_n 2, 1) := by decide +kernel
theorem dX10_faultOf_58 : decode cX10_faultOf 58 = .ok (.iconst 2, 1) := by decide +kernel
theorem dX10_faultOf_59 : decode cX10_faultOf 59 = .ok (.if_icmp .ge 18, 3) := by decide +kernel
theorem dX10_faultOf_62 : decode cX10_faultOf 62 = .ok (.iload 4, 2) := by decide +kernel
theorem dX10_faultOf_64 : decode cX10_faultOf 64 = .ok (.bipush 40, 2) := by decide +kernel
theorem dX10_faultOf_66 : decode cX10_faultOf 66 = .ok (.if_icmp .ne 11, 3) := by decide +kernel
theorem dX10_faultOf_69 : decode cX10_faultOf 69 = .ok (.iconst 0, 1) := by decide +kernel
theorem dX10_faultOf_70 : decode cX10_faultOf 70 = .ok (.istore_n 2, 1) := by decide +kernel
theorem dX10_faultOf_71 : decode cX10_faultOf 71 = .ok (.iinc 1 1, 3) := by decide +kernel
theorem dX10_faultOf_74 : decode cX10_faultOf 74 = .ok (.goto 81, 3) := by decide +kernel
theorem dX10_faultOf_77 : decode cX10_faultOf 77 = .ok (.iload_n 2, 1) := by decide +kernel
theorem dX10_faultOf_78 : decode cX10_faultOf 78 = .ok (.iconst 1, 1) := by decide +kernel
theorem dX10_faultOf_79 : decode cX10_faultOf 79 = .ok (.if_icmp .ne 20, 3) := by decide +kernel
theorem dX10_faultOf_82 : decode cX10_faultOf 82 = .ok (.iload 4, 2) := by decide +kernel
theorem dX10_faultOf_84 : decode cX10_faultOf 84 = .ok (.bipush 41, 2) := by decide +kernel
theorem dX10_faultOf_86 : decode cX10_faultOf 86 = .ok (.if_icmp .ne 13, 3) := by decide +kernel
theorem dX10_faultOf_89 : decode cX10_faultOf 89 = .ok (.iload_n 1, 1) := by decide +kernel
theorem dX10_faultOf_90 : decode cX10_faultOf 90 = .ok (.ifCond .le 9, 3) := by decide +kernel
theorem dX10_faultOf_93 : decode cX10_faultOf 93 = .ok (.iinc 1 (-1), 3) := by decide +kernel
theorem dX10_faultOf_96 : decode cX10_faultOf 96 = .ok (.goto 59, 3) := by decide +kernel
theorem dX10_faultOf_99 : decode cX10_faultOf 99 = .ok (.iload_n 2, 1) := by decide +kernel
theorem dX10_faultOf_100 : decode cX10_faultOf 100 = .ok (.iconst 2, 1) := by decide +kernel
theorem dX10_faultOf_101 : decode cX10_faultOf 101 = .ok (.if_icmp .eq 8, 3) := by decide +kernel
theorem dX10_faultOf_104 : decode cX10_faultOf 104 = .ok (.iload_n 2, 1) := by decide +kernel
theorem dX10_faultOf_105 : decode cX10_faultOf 105 = .ok (.iconst 4, 1) := by decide +kernel
theorem dX10_faultOf_106 : decode cX10_faultOf 106 = .ok (.if_icmp .ne 15, 3) := by decide +kernel
theorem dX10_faultOf_109 : decode cX10_faultOf 109 = .ok (.iload 4, 2) := by decide +kernel
theorem dX10_faultOf_111 : decode cX10_faultOf 111 = .ok (.bipush 59, 2) := by decide +kernel
theorem dX10_faultOf_113 : decode cX10_faultOf 113 = .ok (.if_icmp .ne 8, 3) := by decide +kernel
theorem dX10_faultOf_116 : decode cX10_faultOf 116 = .ok (.iconst 1, 1) := by decide +kernel
theorem dX10_faultOf_117 : decode cX10_faultOf 117 = .ok (.istore_n 2, 1) := by decide +kernel
theorem dX10_faultOf_118 : decode cX10_faultOf 118 = .ok (.goto 37, 3) := by decide +kernel
theorem dX10_faultOf_121 : decode cX10_faultOf 121 = .ok (.iload_n 2, 1) := by decide +kernel
theorem dX10_faultOf_122 : decode cX10_faultOf 122 = .ok (.iconst 3, 1) := by decide +kernel
theorem dX10_faultOf_123 : decode cX10_faultOf 123 = .ok (.if_icmp .eq 8, 3) := by decide +kernel
theorem dX10_faultOf_126 : decode cX10_faultOf 126 = .ok (.iload_n 2, 1) := by decide +kernel
theorem dX10_faultOf_127 : decode cX10_faultOf 127 = .ok (.iconst 4, 1) := by decide +kernel
theorem dX10_faultOf_128 : decode cX10_faultOf 128 = .ok (.if_icmp .ne 25, 3) := by decide +kernel
theorem dX10_faultOf_131 : decode cX10_faultOf 131 = .ok (.iload 4, 2) := by decide +kernel
theorem dX10_faultOf_133 : decode cX10_faultOf 133 = .ok (.invokestatic 134, 3) := by decide +kernel
theorem dX10_faultOf_136 : decode cX10_faultOf 136 = .ok (.ifCond .eq 17, 3) := by decide +kernel
theorem dX10_faultOf_139 : decode cX10_faultOf 139 = .ok (.iload_n 2, 1) := by decide +kernel
theorem dX10_faultOf_140 : decode cX10_faultOf 140 = .ok (.iconst 3, 1) := by decide +kernel
theorem dX10_faultOf_141 : decode cX10_faultOf 141 = .ok (.if_icmp .ne 7, 3) := by decide +kernel
theorem dX10_faultOf_144 : decode cX10_faultOf 144 = .ok (.iconst 4, 1) := by decide +kernel
theorem dX10_faultOf_145 : decode cX10_faultOf 145 = .ok (.goto 4, 3) := by decide +kernel
theorem dX10_faultOf_148 : decode cX10_faultOf 148 = .ok (.iconst 2, 1) := by decide +kernel
theorem dX10_faultOf_149 : decode cX10_faultOf 149 = .ok (.istore_n 2, 1) := by decide +kernel
theorem dX10_faultOf_150 : decode cX10_faultOf 150 = .ok (.goto 5, 3) := by decide +kernel
theorem dX10_faultOf_153 : decode cX10_faultOf 153 = .ok (.iload_n 3, 1) := by decide +kernel
theorem dX10_faultOf_154 : decode cX10_faultOf 154 = .ok (.ireturn, 1) := by decide +kernel
theorem dX10_faultOf_155 : decode cX10_faultOf 155 = .ok (.iinc 3 1, 3) := by decide +kernel
theorem dX10_faultOf_158 : decode cX10_faultOf 158 = .ok (.goto (-152), 3) := by decide +kernel
theorem dX10_faultOf_161 : decode cX10_faultOf 161 = .ok (.iload_n 2, 1) := by decide +kernel
theorem dX10_faultOf_162 : decode cX10_faultOf 162 = .ok (.iconst 1, 1) := by decide +kernel
theorem dX10_faultOf_163 : decode cX10_faultOf 163 = .ok (.if_icmp .ne 11, 3) := by decide +kernel
theorem dX10_faultOf_166 : decode cX10_faultOf 166 = .ok (.iload_n 1, 1) := by decide +kernel
theorem dX10_faultOf_167 : decode cX10_faultOf 167 = .ok (.ifCond .ne 7, 3) := by decide +kernel
theorem dX10_faultOf_170 : decode cX10_faultOf 170 = .ok (.iconst (-1), 1) := by decide +kernel
theorem dX10_faultOf_171 : decode cX10_faultOf 171 = .ok (.goto 7, 3) := by decide +kernel
theorem dX10_faultOf_174 : decode cX10_faultOf 174 = .ok (.aload_n 0, 1) := by decide +kernel
theorem dX10_faultOf_175 : decode cX10_faultOf 175 = .ok (.getfield 138, 3) := by decide +kernel
theorem dX10_faultOf_178 : decode cX10_faultOf 178 = .ok (.ireturn, 1) := by decide +kernel
theorem dX10_fault_0 : decode cX10_fault 0 = .ok (.aload_n 0, 1) := by decide +kernel
theorem dX10_fault_1 : decode cX10_fault 1 = .ok (.iconst 0, 1) := by decide +kernel
theorem dX10_fault_2 : decode cX10_fault 2 = .ok (.putfield 98, 3) := by decide +kernel
theorem dX10_fault_5 : decode cX10_fault 5 = .ok (.aload_n 0, 1) := by decide +kernel
theorem dX10_fault_6 : decode cX10_fault 6 = .ok (.invokevirtual 144, 3) := by decide +kernel
theorem dX10_fault_9 : decode cX10_fault 9 = .ok (.ireturn, 1) := by decide +kernel
theorem dX10_writes_0 : decode cX10_writes 0 = .ok (.aload_n 0, 1) := by decide +kernel
theorem dX10_writes_1 : decode cX10_writes 1 = .ok (.getfield 32, 3) := by decide +kernel
theorem dX10_writes_4 : decode cX10_writes 4 = .ok (.iload_n 1, 1) := by decide +kernel
theorem dX10_writes_5 : decode cX10_writes 5 = .ok (.aload_n 0, 1) := by decide +kernel
theorem dX10_writes_6 : decode cX10_writes 6 = .ok (.getfield 138, 3) := by decide +kernel
theorem dX10_writes_9 : decode cX10_writes 9 = .ok (.iastore, 1) := by decide +kernel
theorem dX10_writes_10 : decode cX10_writes 10 = .ok (.iconst 0, 1) := by decide +kernel
theorem dX10_writes_11 : decode cX10_writes 11 = .ok (.istore_n 2, 1) := by decide +kernel
theorem dX10_writes_12 : decode cX10_writes 12 = .ok (.iload_n 2, 1) := by decide +kernel
theorem dX10_writes_13 : decode cX10_writes 13 = .ok (.aload_n 0, 1) := by decide +kernel
theorem dX10_writes_14 : decode cX10_writes 14 = .ok (.getfield 138, 3) := by decide +kernel
theorem dX10_writes_17 : decode cX10_writes 17 = .ok (.if_icmp .ge 26, 3) := by decide +kernel
theorem dX10_writes_20 : decode cX10_writes 20 = .ok (.aload_n 0, 1) := by decide +kernel
theorem dX10_writes_21 : decode cX10_writes 21 = .ok (.getfield 29, 3) := by decide +kernel
theorem dX10_writes_24 : decode cX10_writes 24 = .ok (.bipush 24, 2) := by decide +kernel
theorem dX10_writes_26 : decode cX10_writes 26 = .ok (.iload_n 1, 1) := by decide +kernel
theorem dX10_writes_27 : decode cX10_writes 27 = .ok (.imul, 1) := by decide +kernel
theorem dX10_writes_28 : decode cX10_writes 28 = .ok (.iload_n 2, 1) := by decide +kernel
theorem dX10_writes_29 : decode cX10_writes 29 = .ok (.iadd, 1) := by decide +kernel
theorem dX10_writes_30 : decode cX10_writes 30 = .ok (.aload_n 0, 1) := by decide +kernel
theorem dX10_writes_31 : decode cX10_writes 31 = .ok (.getfield 26, 3) := by decide +kernel
theorem dX10_writes_34 : decode cX10_writes 34 = .ok (.iload_n 2, 1) := by decide +kernel
theorem dX10_writes_35 : decode cX10_writes 35 = .ok (.iaload, 1) := by decide +kernel
theorem dX10_writes_36 : decode cX10_writes 36 = .ok (.iastore, 1) := by decide +kernel
theorem dX10_writes_37 : decode cX10_writes 37 = .ok (.iinc 2 1, 3) := by decide +kernel
theorem dX10_writes_40 : decode cX10_writes 40 = .ok (.goto (-28), 3) := by decide +kernel
theorem dX10_writes_43 : decode cX10_writes 43 = .ok (.return_, 1) := by decide +kernel
theorem dX10_rule_0 : decode cX10_rule 0 = .ok (.aload_n 0, 1) := by decide +kernel
theorem dX10_rule_1 : decode cX10_rule 1 = .ok (.aload_n 0, 1) := by decide +kernel
theorem dX10_rule_2 : decode cX10_rule 2 = .ok (.invokevirtual 144, 3) := by decide +kernel
theorem dX10_rule_5 : decode cX10_rule 5 = .ok (.iconst (-1), 1) := by decide +kernel
theorem dX10_rule_6 : decode cX10_rule 6 = .ok (.if_icmp .ne 7, 3) := by decide +kernel
theorem dX10_rule_9 : decode cX10_rule 9 = .ok (.iconst 1, 1) := by decide +kernel
theorem dX10_rule_10 : decode cX10_rule 10 = .ok (.goto 4, 3) := by decide +kernel
theorem dX10_rule_13 : decode cX10_rule 13 = .ok (.iconst 0, 1) := by decide +kernel
theorem dX10_rule_14 : decode cX10_rule 14 = .ok (.aload_n 0, 1) := by decide +kernel
theorem dX10_rule_15 : decode cX10_rule 15 = .ok (.getfield 147, 3) := by decide +kernel
theorem dX10_rule_18 : decode cX10_rule 18 = .ok (.bipush 8, 2) := by decide +kernel
theorem dX10_rule_20 : decode cX10_rule 20 = .ok (.if_icmp .ge 7, 3) := by decide +kernel
theorem dX10_rule_23 : decode cX10_rule 23 = .ok (.iconst 1, 1) := by decide +kernel
theorem dX10_rule_24 : decode cX10_rule 24 = .ok (.goto 4, 3) := by decide +kernel
theorem dX10_rule_27 : decode cX10_rule 27 = .ok (.iconst 0, 1) := by decide +kernel
theorem dX10_rule_28 : decode cX10_rule 28 = .ok (.iconst 1, 1) := by decide +kernel
theorem dX10_rule_29 : decode cX10_rule 29 = .ok (.invokevirtual 113, 3) := by decide +kernel
theorem dX10_rule_32 : decode cX10_rule 32 = .ok (.ifCond .ne 5, 3) := by decide +kernel
theorem dX10_rule_35 : decode cX10_rule 35 = .ok (.iconst 0, 1) := by decide +kernel
theorem dX10_rule_36 : decode cX10_rule 36 = .ok (.ireturn, 1) := by decide +kernel
theorem dX10_rule_37 : decode cX10_rule 37 = .ok (.aload_n 0, 1) := by decide +kernel
theorem dX10_rule_38 : decode cX10_rule 38 = .ok (.aload_n 0, 1) := by decide +kernel
theorem dX10_rule_39 : decode cX10_rule 39 = .ok (.getfield 147, 3) := by decide +kernel
theorem dX10_rule_42 : decode cX10_rule 42 = .ok (.invokevirtual 150, 3) := by decide +kernel
theorem dX10_rule_45 : decode cX10_rule 45 = .ok (.aload_n 0, 1) := by decide +kernel
theorem dX10_rule_46 : decode cX10_rule 46 = .ok (.dup, 1) := by decide +kernel
theorem dX10_rule_47 : decode cX10_rule 47 = .ok (.getfield 147, 3) := by decide +kernel
theorem dX10_rule_50 : decode cX10_rule 50 = .ok (.iconst 1, 1) := by decide +kernel
theorem dX10_rule_51 : decode cX10_rule 51 = .ok (.iadd, 1) := by decide +kernel
theorem dX10_rule_52 : decode cX10_rule 52 = .ok (.putfield 147, 3) := by decide +kernel
theorem dX10_rule_55 : decode cX10_rule 55 = .ok (.aload_n 0, 1) := by decide +kernel
theorem dX10_rule_56 : decode cX10_rule 56 = .ok (.getfield 147, 3) := by decide +kernel
theorem dX10_rule_59 : decode cX10_rule 59 = .ok (.iconst 1, 1) := by decide +kernel
theorem dX10_rule_60 : decode cX10_rule 60 = .ok (.isub, 1) := by decide +kernel
theorem dX10_rule_61 : decode cX10_rule 61 = .ok (.ireturn, 1) := by decide +kernel
theorem dX10_has_0 : decode cX10_has 0 = .ok (.iload_n 0, 1) := by decide +kernel
theorem dX10_has_1 : decode cX10_has 1 = .ok (.iload_n 1, 1) := by decide +kernel
theorem dX10_has_2 : decode cX10_has 2 = .ok (.ishr, 1) := by decide +kernel
theorem dX10_has_3 : decode cX10_has 3 = .ok (.iconst 1, 1) := by decide +kernel
theorem dX10_has_4 : decode cX10_has 4 = .ok (.iand, 1) := by decide +kernel
theorem dX10_has_5 : decode cX10_has 5 = .ok (.iconst 1, 1) := by decide +kernel
theorem dX10_has_6 : decode cX10_has 6 = .ok (.if_icmp .ne 7, 3) := by decide +kernel
theorem dX10_has_9 : decode cX10_has 9 = .ok (.iconst 1, 1) := by decide +kernel
theorem dX10_has_10 : decode cX10_has 10 = .ok (.goto 4, 3) := by decide +kernel
theorem dX10_has_13 : decode cX10_has 13 = .ok (.iconst 0, 1) := by decide +kernel
theorem dX10_has_14 : decode cX10_has 14 = .ok (.ireturn, 1) := by decide +kernel
theorem dX10_size_0 : decode cX10_size 0 = .ok (.iconst 0, 1) := by decide +kernel
theorem dX10_size_1 : decode cX10_size 1 = .ok (.istore_n 1, 1) := by decide +kernel
theorem dX10_size_2 : decode cX10_size 2 = .ok (.iconst 0, 1) := by decide +kernel
theorem dX10_size_3 : decode cX10_size 3 = .ok (.istore_n 2, 1) := by decide +kernel
theorem dX10_size_4 : decode cX10_size 4 = .ok (.iload_n 2, 1) := by decide +kernel
theorem dX10_size_5 : decode cX10_size 5 = .ok (.bipush 6, 2) := by decide +kernel
theorem dX10_size_7 : decode cX10_size 7 = .ok (.if_icmp .ge 17, 3) := by decide +kernel
theorem dX10_size_10 : decode cX10_size 10 = .ok (.iload_n 1, 1) := by decide +kernel
theorem dX10_size_11 : decode cX10_size 11 = .ok (.iload_n 0, 1) := by decide +kernel
theorem dX10_size_12 : decode cX10_size 12 = .ok (.iload_n 2, 1) := by decide +kernel
theorem dX10_size_13 : decode cX10_size 13 = .ok (.ishr, 1) := by decide +kernel
theorem dX10_size_14 : decode cX10_size 14 = .ok (.iconst 1, 1) := by decide +kernel
theorem dX10_size_15 : decode cX10_size 15 = .ok (.iand, 1) := by decide +kernel
theorem dX10_size_16 : decode cX10_size 16 = .ok (.iadd, 1) := by decide +kernel
theorem dX10_size_17 : decode cX10_size 17 = .ok (.istore_n 1, 1) := by decide +kernel
theorem dX10_size_18 : decode cX10_size 18 = .ok (.iinc 2 1, 3) := by decide +kernel
theorem dX10_size_21 : decode cX10_size 21 = .ok (.goto (-17), 3) := by decide +kernel
theorem dX10_size_24 : decode cX10_size 24 = .ok (.iload_n 1, 1) := by decide +kernel
theorem dX10_size_25 : decode cX10_size 25 = .ok (.ireturn, 1) := by decide +kernel
theorem dX10_votesIn_0 : decode cX10_votesIn 0 = .ok (.iload_n 1, 1) := by decide +kernel
theorem dX10_votesIn_1 : decode cX10_votesIn 1 = .ok (.ifCond .ge 7, 3) := by decide +kernel
theorem dX10_votesIn_4 : decode cX10_votesIn 4 = .ok (.iconst 0, 1) := by decide +kernel
theorem dX10_votesIn_5 : decode cX10_votesIn 5 = .ok (.goto 14, 3) := by decide +kernel
theorem dX10_votesIn_8 : decode cX10_votesIn 8 = .ok (.aload_n 0, 1) := by decide +kernel
theorem dX10_votesIn_9 : decode cX10_votesIn 9 = .ok (.getfield 83, 3) := by decide +kernel
theorem dX10_votesIn_12 : decode cX10_votesIn 12 = .ok (.bipush 6, 2) := by decide +kernel
theorem dX10_votesIn_14 : decode cX10_votesIn 14 = .ok (.iload_n 1, 1) := by decide +kernel
theorem dX10_votesIn_15 : decode cX10_votesIn 15 = .ok (.imul, 1) := by decide +kernel
theorem dX10_votesIn_16 : decode cX10_votesIn 16 = .ok (.iload_n 2, 1) := by decide +kernel
theorem dX10_votesIn_17 : decode cX10_votesIn 17 = .ok (.iadd, 1) := by decide +kernel
theorem dX10_votesIn_18 : decode cX10_votesIn 18 = .ok (.iaload, 1) := by decide +kernel
theorem dX10_votesIn_19 : decode cX10_votesIn 19 = .ok (.ireturn, 1) := by decide +kernel
theorem dX10_extreme_0 : decode cX10_extreme 0 = .ok (.iconst 0, 1) := by decide +kernel
theorem dX10_extreme_1 : decode cX10_extreme 1 = .ok (.istore 4, 2) := by decide +kernel
theorem dX10_extreme_3 : decode cX10_extreme 3 = .ok (.iconst 0, 1) := by decide +kernel
theorem dX10_extreme_4 : decode cX10_extreme 4 = .ok (.istore 5, 2) := by decide +kernel
theorem dX10_extreme_6 : decode cX10_extreme 6 = .ok (.iconst 0, 1) := by decide +kernel
theorem dX10_extreme_7 : decode cX10_extreme 7 = .ok (.istore 6, 2) := by decide +kernel
theorem dX10_extreme_9 : decode cX10_extreme 9 = .ok (.iload 6, 2) := by decide +kernel
theorem dX10_extreme_11 : decode cX10_extreme 11 = .ok (.bipush 6, 2) := by decide +kernel
theorem dX10_extreme_13 : decode cX10_extreme 13 = .ok (.if_icmp .ge 107, 3) := by decide +kernel
theorem dX10_extreme_16 : decode cX10_extreme 16 = .ok (.iload_n 1, 1) := by decide +kernel
theorem dX10_extreme_17 : decode cX10_extreme 17 = .ok (.iload 6, 2) := by decide +kernel
theorem dX10_extreme_19 : decode cX10_extreme 19 = .ok (.invokestatic 183, 3) := by decide +kernel
theorem dX10_extreme_22 : decode cX10_extreme 22 = .ok (.ifCond .eq 92, 3) := by decide +kernel
theorem dX10_extreme_25 : decode cX10_extreme 25 = .ok (.aload_n 0, 1) := by decide +kernel
theorem dX10_extreme_26 : decode cX10_extreme 26 = .ok (.iload_n 2, 1) := by decide +kernel
theorem dX10_extreme_27 : decode cX10_extreme 27 = .ok (.iload 6, 2) := by decide +kernel
theorem dX10_extreme_29 : decode cX10_extreme 29 = .ok (.invokevirtual 189, 3) := by decide +kernel
theorem dX10_extreme_32 : decode cX10_extreme 32 = .ok (.istore 7, 2) := by decide +kernel
theorem dX10_extreme_34 : decode cX10_extreme 34 = .ok (.iload 4, 2) := by decide +kernel
theorem dX10_extreme_36 : decode cX10_extreme 36 = .ok (.ifCond .eq 24, 3) := by decide +kernel
theorem dX10_extreme_39 : decode cX10_extreme 39 = .ok (.iload_n 3, 1) := by decide +kernel
theorem dX10_extreme_40 : decode cX10_extreme 40 = .ok (.ifCond .eq 13, 3) := by decide +kernel
theorem dX10_extreme_43 : decode cX10_extreme 43 = .ok (.iload 7, 2) := by decide +kernel
theorem dX10_extreme_45 : decode cX10_extreme 45 = .ok (.iload 5, 2) := by decide +kernel
theorem dX10_extreme_47 : decode cX10_extreme 47 = .ok (.if_icmp .le 17, 3) := by decide +kernel
theorem dX10_extreme_50 : decode cX10_extreme 50 = .ok (.goto 10, 3) := by decide +kernel
theorem dX10_extreme_53 : decode cX10_extreme 53 = .ok (.iload 7, 2) := by decide +kernel
theorem dX10_extreme_55 : decode cX10_extreme 55 = .ok (.iload 5, 2) := by decide +kernel
theorem dX10_extreme_57 : decode cX10_extreme 57 = .ok (.if_icmp .ge 7, 3) := by decide +kernel
theorem dX10_extreme_60 : decode cX10_extreme 60 = .ok (.iconst 1, 1) := by decide +kernel
theorem dX10_extreme_61 : decode cX10_extreme 61 = .ok (.goto 4, 3) := by decide +kernel
theorem dX10_extreme_64 : decode cX10_extreme 64 = .ok (.iconst 0, 1) := by decide +kernel
theorem dX10_extreme_65 : decode cX10_extreme 65 = .ok (.istore 8, 2) := by decide +kernel
theorem dX10_extreme_67 : decode cX10_extreme 67 = .ok (.iload 8, 2) := by decide +kernel
theorem dX10_extreme_69 : decode cX10_extreme 69 = .ok (.ifCond .eq 10, 3) := by decide +kernel
theorem dX10_extreme_72 : decode cX10_extreme 72 = .ok (.iconst 1, 1) := by decide +kernel
theorem dX10_extreme_73 : decode cX10_extreme 73 = .ok (.iload 6, 2) := by decide +kernel
theorem dX10_extreme_75 : decode cX10_extreme 75 = .ok (.ishl, 1) := by decide +kernel
theorem dX10_extreme_76 : decode cX10_extreme 76 = .ok (.goto 22, 3) := by decide +kernel
theorem dX10_extreme_79 : decode cX10_extreme 79 = .ok (.iload 7, 2) := by decide +kernel
theorem dX10_extreme_81 : decode cX10_extreme 81 = .ok (.iload 5, 2) := by decide +kernel
theorem dX10_extreme_83 : decode cX10_extreme 83 = .ok (.if_icmp .ne 13, 3) := by decide +kernel
theorem dX10_extreme_86 : decode cX10_extreme 86 = .ok (.iload 4, 2) := by decide +kernel
theorem dX10_extreme_88 : decode cX10_extreme 88 = .ok (.iconst 1, 1) := by decide +kernel
theorem dX10_extreme_89 : decode cX10_extreme 89 = .ok (.iload 6, 2) := by decide +kernel
theorem dX10_extreme_91 : decode cX10_extreme 91 = .ok (.ishl, 1) := by decide +kernel
theorem dX10_extreme_92 : decode cX10_extreme 92 = .ok (.ior, 1) := by decide +kernel
theorem dX10_extreme_93 : decode cX10_extreme 93 = .ok (.goto 5, 3) := by decide +kernel
theorem dX10_extreme_96 : decode cX10_extreme 96 = .ok (.iload 4, 2) := by decide +kernel
theorem dX10_extreme_98 : decode cX10_extreme 98 = .ok (.istore 4, 2) := by decide +kernel
theorem dX10_extreme_100 : decode cX10_extreme 100 = .ok (.iload 8, 2) := by decide +kernel
theorem dX10_extreme_102 : decode cX10_extreme 102 = .ok (.ifCond .eq 8, 3) := by decide +kernel
theorem dX10_extreme_105 : decode cX10_extreme 105 = .ok (.iload 7, 2) := by decide +kernel
theorem dX10_extreme_107 : decode cX10_extreme 107 = .ok (.goto 5, 3) := by decide +kernel
theorem dX10_extreme_110 : decode cX10_extreme 110 = .ok (.iload 5, 2) := by decide +kernel
theorem dX10_extreme_112 : decode cX10_extreme 112 = .ok (.istore 5, 2) := by decide +kernel
theorem dX10_extreme_114 : decode cX10_extreme 114 = .ok (.iinc 6 1, 3) := by decide +kernel
theorem dX10_extreme_117 : decode cX10_extreme 117 = .ok (.goto (-108), 3) := by decide +kernel
theorem dX10_extreme_120 : decode cX10_extreme 120 = .ok (.iload 4, 2) := by decide +kernel
theorem dX10_extreme_122 : decode cX10_extreme 122 = .ok (.ireturn, 1) := by decide +kernel
theorem dX10_chosen_0 : decode cX10_chosen 0 = .ok (.aload_n 0, 1) := by decide +kernel
theorem dX10_chosen_1 : decode cX10_chosen 1 = .ok (.aload_n 0, 1) := by decide +kernel
theorem dX10_chosen_2 : decode cX10_chosen 2 = .ok (.getfield 177, 3) := by decide +kernel
theorem dX10_chosen_5 : decode cX10_chosen 5 = .ok (.aload_n 0, 1) := by decide +kernel
theorem dX10_chosen_6 : decode cX10_chosen 6 = .ok (.getfield 174, 3) := by decide +kernel
theorem dX10_chosen_9 : decode cX10_chosen 9 = .ok (.iconst 1, 1) := by decide +kernel
theorem dX10_chosen_10 : decode cX10_chosen 10 = .ok (.isub, 1) := by decide +kernel
theorem dX10_chosen_11 : decode cX10_chosen 11 = .ok (.iload_n 1, 1) := by decide +kernel
theorem dX10_chosen_12 : decode cX10_chosen 12 = .ok (.invokevirtual 192, 3) := by decide +kernel
theorem dX10_chosen_15 : decode cX10_chosen 15 = .ok (.istore_n 2, 1) := by decide +kernel
theorem dX10_chosen_16 : decode cX10_chosen 16 = .ok (.iload_n 2, 1) := by decide +kernel
theorem dX10_chosen_17 : decode cX10_chosen 17 = .ok (.invokestatic 180, 3) := by decide +kernel
theorem dX10_chosen_20 : decode cX10_chosen 20 = .ok (.iconst 1, 1) := by decide +kernel
theorem dX10_chosen_21 : decode cX10_chosen 21 = .ok (.if_icmp .le 23, 3) := by decide +kernel
theorem dX10_chosen_24 : decode cX10_chosen 24 = .ok (.aload_n 0, 1) := by decide +kernel
theorem dX10_chosen_25 : decode cX10_chosen 25 = .ok (.getfield 86, 3) := by decide +kernel
theorem dX10_chosen_28 : decode cX10_chosen 28 = .ok (.aload_n 0, 1) := by decide +kernel
theorem dX10_chosen_29 : decode cX10_chosen 29 = .ok (.getfield 196, 3) := by decide +kernel
theorem dX10_chosen_32 : decode cX10_chosen 32 = .ok (.iload_n 2, 1) := by decide +kernel
theorem dX10_chosen_33 : decode cX10_chosen 33 = .ok (.iastore, 1) := by decide +kernel
theorem dX10_chosen_34 : decode cX10_chosen 34 = .ok (.aload_n 0, 1) := by decide +kernel
theorem dX10_chosen_35 : decode cX10_chosen 35 = .ok (.dup, 1) := by decide +kernel
theorem dX10_chosen_36 : decode cX10_chosen 36 = .ok (.getfield 196, 3) := by decide +kernel
theorem dX10_chosen_39 : decode cX10_chosen 39 = .ok (.iconst 1, 1) := by decide +kernel
theorem dX10_chosen_40 : decode cX10_chosen 40 = .ok (.iadd, 1) := by decide +kernel
theorem dX10_chosen_41 : decode cX10_chosen 41 = .ok (.putfield 196, 3) := by decide +kernel
theorem dX10_chosen_44 : decode cX10_chosen 44 = .ok (.aload_n 0, 1) := by decide +kernel
theorem dX10_chosen_45 : decode cX10_chosen 45 = .ok (.getfield 174, 3) := by decide +kernel
theorem dX10_chosen_48 : decode cX10_chosen 48 = .ok (.iconst 2, 1) := by decide +kernel
theorem dX10_chosen_49 : decode cX10_chosen 49 = .ok (.isub, 1) := by decide +kernel
theorem dX10_chosen_50 : decode cX10_chosen 50 = .ok (.istore_n 3, 1) := by decide +kernel
theorem dX10_chosen_51 : decode cX10_chosen 51 = .ok (.iload_n 3, 1) := by decide +kernel
theorem dX10_chosen_52 : decode cX10_chosen 52 = .ok (.ifCond .lt 33, 3) := by decide +kernel
theorem dX10_chosen_55 : decode cX10_chosen 55 = .ok (.aload_n 0, 1) := by decide +kernel
theorem dX10_chosen_56 : decode cX10_chosen 56 = .ok (.getfield 199, 3) := by decide +kernel
theorem dX10_chosen_59 : decode cX10_chosen 59 = .ok (.iconst 2, 1) := by decide +kernel
theorem dX10_chosen_60 : decode cX10_chosen 60 = .ok (.if_icmp .ne 25, 3) := by decide +kernel
theorem dX10_chosen_63 : decode cX10_chosen 63 = .ok (.iload_n 2, 1) := by decide +kernel
theorem dX10_chosen_64 : decode cX10_chosen 64 = .ok (.invokestatic 180, 3) := by decide +kernel
theorem dX10_chosen_67 : decode cX10_chosen 67 = .ok (.iconst 1, 1) := by decide +kernel
theorem dX10_chosen_68 : decode cX10_chosen 68 = .ok (.if_icmp .le 17, 3) := by decide +kernel
theorem dX10_chosen_71 : decode cX10_chosen 71 = .ok (.aload_n 0, 1) := by decide +kernel
theorem dX10_chosen_72 : decode cX10_chosen 72 = .ok (.iload_n 2, 1) := by decide +kernel
theorem dX10_chosen_73 : decode cX10_chosen 73 = .ok (.iload_n 3, 1) := by decide +kernel
theorem dX10_chosen_74 : decode cX10_chosen 74 = .ok (.iload_n 1, 1) := by decide +kernel
theorem dX10_chosen_75 : decode cX10_chosen 75 = .ok (.invokevirtual 192, 3) := by decide +kernel
theorem dX10_chosen_78 : decode cX10_chosen 78 = .ok (.istore_n 2, 1) := by decide +kernel
theorem dX10_chosen_79 : decode cX10_chosen 79 = .ok (.iinc 3 (-1), 3) := by decide +kernel
theorem dX10_chosen_82 : decode cX10_chosen 82 = .ok (.goto (-31), 3) := by decide +kernel
theorem dX10_chosen_85 : decode cX10_chosen 85 = .ok (.iconst (-1), 1) := by decide +kernel
theorem dX10_chosen_86 : decode cX10_chosen 86 = .ok (.istore_n 3, 1) := by decide +kernel
theorem dX10_chosen_87 : decode cX10_chosen 87 = .ok (.iconst 0, 1) := by decide +kernel
theorem dX10_chosen_88 : decode cX10_chosen 88 = .ok (.istore 4, 2) := by decide +kernel
theorem dX10_chosen_90 : decode cX10_chosen 90 = .ok (.iload 4, 2) := by decide +kernel
theorem dX10_chosen_92 : decode cX10_chosen 92 = .ok (.bipush 6, 2) := by decide +kernel
theorem dX10_chosen_94 : decode cX10_chosen 94 = .ok (.if_icmp .ge 37, 3) := by decide +kernel
theorem dX10_chosen_97 : decode cX10_chosen 97 = .ok (.iload_n 2, 1) := by decide +kernel
theorem dX10_chosen_98 : decode cX10_chosen 98 = .ok (.iload 4, 2) := by decide +kernel
theorem dX10_chosen_100 : decode cX10_chosen 100 = .ok (.invokestatic 183, 3) := by decide +kernel
theorem dX10_chosen_103 : decode cX10_chosen 103 = .ok (.ifCond .eq 20, 3) := by decide +kernel
theorem dX10_chosen_106 : decode cX10_chosen 106 = .ok (.iload_n 3, 1) := by decide +kernel
theorem dX10_chosen_107 : decode cX10_chosen 107 = .ok (.ifCond .lt 11, 3) := by decide +kernel
theorem dX10_chosen_110 : decode cX10_chosen 110 = .ok (.aload_n 0, 1) := by decide +kernel
theorem dX10_chosen_111 : decode cX10_chosen 111 = .ok (.getfield 199, 3) := by decide +kernel
theorem dX10_chosen_114 : decode cX10_chosen 114 = .ok (.iconst 1, 1) := by decide +kernel
theorem dX10_chosen_115 : decode cX10_chosen 115 = .ok (.if_icmp .ne 8, 3) := by decide +kernel
theorem dX10_chosen_118 : decode cX10_chosen 118 = .ok (.iload 4, 2) := by decide +kernel
theorem dX10_chosen_120 : decode cX10_chosen 120 = .ok (.goto 4, 3) := by decide +kernel
theorem dX10_chosen_123 : decode cX10_chosen 123 = .ok (.iload_n 3, 1) := by decide +kernel
theorem dX10_chosen_124 : decode cX10_chosen 124 = .ok (.istore_n 3, 1) := by decide +kernel
theorem dX10_chosen_125 : decode cX10_chosen 125 = .ok (.iinc 4 1, 3) := by decide +kernel
theorem dX10_chosen_128 : decode cX10_chosen 128 = .ok (.goto (-38), 3) := by decide +kernel
theorem dX10_chosen_131 : decode cX10_chosen 131 = .ok (.iload_n 3, 1) := by decide +kernel
theorem dX10_chosen_132 : decode cX10_chosen 132 = .ok (.ireturn, 1) := by decide +kernel
theorem dX10_elects_0 : decode cX10_elects 0 = .ok (.aload_n 0, 1) := by decide +kernel
theorem dX10_elects_1 : decode cX10_elects 1 = .ok (.dup, 1) := by decide +kernel
theorem dX10_elects_2 : decode cX10_elects 2 = .ok (.getfield 177, 3) := by decide +kernel
theorem dX10_elects_5 : decode cX10_elects 5 = .ok (.iconst 1, 1) := by decide +kernel
theorem dX10_elects_6 : decode cX10_elects 6 = .ok (.iload_n 1, 1) := by decide +kernel
theorem dX10_elects_7 : decode cX10_elects 7 = .ok (.ishl, 1) := by decide +kernel
theorem dX10_elects_8 : decode cX10_elects 8 = .ok (.iconst (-1), 1) := by decide +kernel
theorem dX10_elects_9 : decode cX10_elects 9 = .ok (.ixor, 1) := by decide +kernel
theorem dX10_elects_10 : decode cX10_elects 10 = .ok (.iand, 1) := by decide +kernel
theorem dX10_elects_11 : decode cX10_elects 11 = .ok (.putfield 177, 3) := by decide +kernel
theorem dX10_elects_14 : decode cX10_elects 14 = .ok (.aload_n 0, 1) := by decide +kernel
theorem dX10_elects_15 : decode cX10_elects 15 = .ok (.dup, 1) := by decide +kernel
theorem dX10_elects_16 : decode cX10_elects 16 = .ok (.getfield 202, 3) := by decide +kernel
theorem dX10_elects_19 : decode cX10_elects 19 = .ok (.iconst 1, 1) := by decide +kernel
theorem dX10_elects_20 : decode cX10_elects 20 = .ok (.iload_n 1, 1) := by decide +kernel
theorem dX10_elects_21 : decode cX10_elects 21 = .ok (.ishl, 1) := by decide +kernel
theorem dX10_elects_22 : decode cX10_elects 22 = .ok (.ior, 1) := by decide +kernel
theorem dX10_elects_23 : decode cX10_elects 23 = .ok (.putfield 202, 3) := by decide +kernel
theorem dX10_elects_26 : decode cX10_elects 26 = .ok (.aload_n 0, 1) := by decide +kernel
theorem dX10_elects_27 : decode cX10_elects 27 = .ok (.dup, 1) := by decide +kernel
theorem dX10_elects_28 : decode cX10_elects 28 = .ok (.getfield 205, 3) := by decide +kernel
theorem dX10_elects_31 : decode cX10_elects 31 = .ok (.iconst 1, 1) := by decide +kernel
theorem dX10_elects_32 : decode cX10_elects 32 = .ok (.isub, 1) := by decide +kernel
theorem dX10_elects_33 : decode cX10_elects 33 = .ok (.putfield 205, 3) := by decide +kernel
theorem dX10_elects_36 : decode cX10_elects 36 = .ok (.aload_n 0, 1) := by decide +kernel
theorem dX10_elects_37 : decode cX10_elects 37 = .ok (.dup, 1) := by decide +kernel
theorem dX10_elects_38 : decode cX10_elects 38 = .ok (.getfield 208, 3) := by decide +kernel
theorem dX10_elects_41 : decode cX10_elects 41 = .ok (.iconst 1, 1) := by decide +kernel
theorem dX10_elects_42 : decode cX10_elects 42 = .ok (.iadd, 1) := by decide +kernel
theorem dX10_elects_43 : decode cX10_elects 43 = .ok (.putfield 208, 3) := by decide +kernel
theorem dX10_elects_46 : decode cX10_elects 46 = .ok (.return_, 1) := by decide +kernel
theorem dX10_readAt_0 : decode cX10_readAt 0 = .ok (.aload_n 0, 1) := by decide +kernel
theorem dX10_readAt_1 : decode cX10_readAt 1 = .ok (.getfield 74, 3) := by decide +kernel
theorem dX10_readAt_4 : decode cX10_readAt 4 = .ok (.iload_n 1, 1) := by decide +kernel
theorem dX10_readAt_5 : decode cX10_readAt 5 = .ok (.baload, 1) := by decide +kernel
theorem dX10_readAt_6 : decode cX10_readAt 6 = .ok (.ifCond .eq 14, 3) := by decide +kernel
theorem dX10_readAt_9 : decode cX10_readAt 9 = .ok (.iload_n 2, 1) := by decide +kernel
theorem dX10_readAt_10 : decode cX10_readAt 10 = .ok (.iconst 2, 1) := by decide +kernel
theorem dX10_readAt_11 : decode cX10_readAt 11 = .ok (.if_icmp .ge 9, 3) := by decide +kernel
theorem dX10_readAt_14 : decode cX10_readAt 14 = .ok (.iconst 1, 1) := by decide +kernel
theorem dX10_readAt_15 : decode cX10_readAt 15 = .ok (.iload_n 2, 1) := by decide +kernel
theorem dX10_readAt_16 : decode cX10_readAt 16 = .ok (.isub, 1) := by decide +kernel
theorem dX10_readAt_17 : decode cX10_readAt 17 = .ok (.goto 4, 3) := by decide +kernel
theorem dX10_readAt_20 : decode cX10_readAt 20 = .ok (.iload_n 2, 1) := by decide +kernel
theorem dX10_readAt_21 : decode cX10_readAt 21 = .ok (.istore_n 3, 1) := by decide +kernel
theorem dX10_readAt_22 : decode cX10_readAt 22 = .ok (.aload_n 0, 1) := by decide +kernel
theorem dX10_readAt_23 : decode cX10_readAt 23 = .ok (.getfield 59, 3) := by decide +kernel
theorem dX10_readAt_26 : decode cX10_readAt 26 = .ok (.bipush 6, 2) := by decide +kernel
theorem dX10_readAt_28 : decode cX10_readAt 28 = .ok (.iload_n 1, 1) := by decide +kernel
theorem dX10_readAt_29 : decode cX10_readAt 29 = .ok (.imul, 1) := by decide +kernel
theorem dX10_readAt_30 : decode cX10_readAt 30 = .ok (.iload_n 3, 1) := by decide +kernel
theorem dX10_readAt_31 : decode cX10_readAt 31 = .ok (.iadd, 1) := by decide +kernel
theorem dX10_readAt_32 : decode cX10_readAt 32 = .ok (.iaload, 1) := by decide +kernel
theorem dX10_readAt_33 : decode cX10_readAt 33 = .ok (.ireturn, 1) := by decide +kernel
theorem dX10_makesTally_0 : decode cX10_makesTally 0 = .ok (.bipush 6, 2) := by decide +kernel
theorem dX10_makesTally_2 : decode cX10_makesTally 2 = .ok (.aload_n 0, 1) := by decide +kernel
theorem dX10_makesTally_3 : decode cX10_makesTally 3 = .ok (.getfield 174, 3) := by decide +kernel
theorem dX10_makesTally_6 : decode cX10_makesTally 6 = .ok (.imul, 1) := by decide +kernel
theorem dX10_makesTally_7 : decode cX10_makesTally 7 = .ok (.istore_n 2, 1) := by decide +kernel
theorem dX10_makesTally_8 : decode cX10_makesTally 8 = .ok (.aload_n 0, 1) := by decide +kernel
theorem dX10_makesTally_9 : decode cX10_makesTally 9 = .ok (.getfield 177, 3) := by decide +kernel
theorem dX10_makesTally_12 : decode cX10_makesTally 12 = .ok (.invokestatic 180, 3) := by decide +kernel
theorem dX10_makesTally_15 : decode cX10_makesTally 15 = .ok (.istore_n 3, 1) := by decide +kernel
theorem dX10_makesTally_16 : decode cX10_makesTally 16 = .ok (.iconst 0, 1) := by decide +kernel
theorem dX10_makesTally_17 : decode cX10_makesTally 17 = .ok (.istore 4, 2) := by decide +kernel
theorem dX10_makesTally_19 : decode cX10_makesTally 19 = .ok (.iload 4, 2) := by decide +kernel
theorem dX10_makesTally_21 : decode cX10_makesTally 21 = .ok (.bipush 6, 2) := by decide +kernel
theorem dX10_makesTally_23 : decode cX10_makesTally 23 = .ok (.if_icmp .ge 35, 3) := by decide +kernel
theorem dX10_makesTally_26 : decode cX10_makesTally 26 = .ok (.aload_n 0, 1) := by decide +kernel
theorem dX10_makesTally_27 : decode cX10_makesTally 27 = .ok (.getfield 83, 3) := by decide +kernel
theorem dX10_makesTally_30 : decode cX10_makesTally 30 = .ok (.iload_n 2, 1) := by decide +kernel
theorem dX10_makesTally_31 : decode cX10_makesTally 31 = .ok (.iload 4, 2) := by decide +kernel
theorem dX10_makesTally_33 : decode cX10_makesTally 33 = .ok (.iadd, 1) := by decide +kernel
theorem dX10_makesTally_34 : decode cX10_makesTally 34 = .ok (.aload_n 0, 1) := by decide +kernel
theorem dX10_makesTally_35 : decode cX10_makesTally 35 = .ok (.getfield 177, 3) := by decide +kernel
theorem dX10_makesTally_38 : decode cX10_makesTally 38 = .ok (.iload 4, 2) := by decide +kernel
theorem dX10_makesTally_40 : decode cX10_makesTally 40 = .ok (.invokestatic 183, 3) := by decide +kernel
theorem dX10_makesTally_43 : decode cX10_makesTally 43 = .ok (.ifCond .eq 7, 3) := by decide +kernel
theorem dX10_makesTally_46 : decode cX10_makesTally 46 = .ok (.iconst 0, 1) := by decide +kernel
theorem dX10_makesTally_47 : decode cX10_makesTally 47 = .ok (.goto 4, 3) := by decide +kernel
theorem dX10_makesTally_50 : decode cX10_makesTally 50 = .ok (.iconst (-1), 1) := by decide +kernel
theorem dX10_makesTally_51 : decode cX10_makesTally 51 = .ok (.iastore, 1) := by decide +kernel
theorem dX10_makesTally_52 : decode cX10_makesTally 52 = .ok (.iinc 4 1, 3) := by decide +kernel
theorem dX10_makesTally_55 : decode cX10_makesTally 55 = .ok (.goto (-36), 3) := by decide +kernel
theorem dX10_makesTally_58 : decode cX10_makesTally 58 = .ok (.aload_n 0, 1) := by decide +kernel
theorem dX10_makesTally_59 : decode cX10_makesTally 59 = .ok (.iconst 0, 1) := by decide +kernel
theorem dX10_makesTally_60 : decode cX10_makesTally 60 = .ok (.putfield 186, 3) := by decide +kernel
theorem dX10_makesTally_63 : decode cX10_makesTally 63 = .ok (.iconst 0, 1) := by decide +kernel
theorem dX10_makesTally_64 : decode cX10_makesTally 64 = .ok (.istore 4, 2) := by decide +kernel
theorem dX10_makesTally_66 : decode cX10_makesTally 66 = .ok (.iload 4, 2) := by decide +kernel
theorem dX10_makesTally_68 : decode cX10_makesTally 68 = .ok (.aload_n 0, 1) := by decide +kernel
theorem dX10_makesTally_69 : decode cX10_makesTally 69 = .ok (.getfield 117, 3) := by decide +kernel
theorem dX10_makesTally_72 : decode cX10_makesTally 72 = .ok (.if_icmp .ge 128, 3) := by decide +kernel
theorem dX10_makesTally_75 : decode cX10_makesTally 75 = .ok (.iconst 0, 1) := by decide +kernel
theorem dX10_makesTally_76 : decode cX10_makesTally 76 = .ok (.istore 5, 2) := by decide +kernel
theorem dX10_makesTally_78 : decode cX10_makesTally 78 = .ok (.iconst 0, 1) := by decide +kernel
theorem dX10_makesTally_79 : decode cX10_makesTally 79 = .ok (.istore 6, 2) := by decide +kernel
theorem dX10_makesTally_81 : decode cX10_makesTally 81 = .ok (.iload 6, 2) := by decide +kernel
theorem dX10_makesTally_83 : decode cX10_makesTally 83 = .ok (.aload_n 0, 1) := by decide +kernel
theorem dX10_makesTally_84 : decode cX10_makesTally 84 = .ok (.getfield 62, 3) := by decide +kernel
theorem dX10_makesTally_87 : decode cX10_makesTally 87 = .ok (.iload 4, 2) := by decide +kernel
theorem dX10_makesTally_89 : decode cX10_makesTally 89 = .ok (.iaload, 1) := by decide +kernel
theorem dX10_makesTally_90 : decode cX10_makesTally 90 = .ok (.if_icmp .ge 85, 3) := by decide +kernel
theorem dX10_makesTally_93 : decode cX10_makesTally 93 = .ok (.aload_n 0, 1) := by decide +kernel
theorem dX10_makesTally_94 : decode cX10_makesTally 94 = .ok (.getfield 80, 3) := by decide +kernel
theorem dX10_makesTally_97 : decode cX10_makesTally 97 = .ok (.iload 4, 2) := by decide +kernel
theorem dX10_makesTally_99 : decode cX10_makesTally 99 = .ok (.baload, 1) := by decide +kernel
theorem dX10_makesTally_100 : decode cX10_makesTally 100 = .ok (.ifCond .eq 75, 3) := by decide +kernel
theorem dX10_makesTally_103 : decode cX10_makesTally 103 = .ok (.aload_n 0, 1) := by decide +kernel
theorem dX10_makesTally_104 : decode cX10_makesTally 104 = .ok (.iload 4, 2) := by decide +kernel
theorem dX10_makesTally_106 : decode cX10_makesTally 106 = .ok (.iload 6, 2) := by decide +kernel
theorem dX10_makesTally_108 : decode cX10_makesTally 108 = .ok (.invokevirtual 166, 3) := by decide +kernel
theorem dX10_makesTally_111 : decode cX10_makesTally 111 = .ok (.istore 7, 2) := by decide +kernel
theorem dX10_makesTally_113 : decode cX10_makesTally 113 = .ok (.aload_n 0, 1) := by decide +kernel
theorem dX10_makesTally_114 : decode cX10_makesTally 114 = .ok (.getfield 177, 3) := by decide +kernel
theorem dX10_makesTally_117 : decode cX10_makesTally 117 = .ok (.iload 7, 2) := by decide +kernel
theorem dX10_makesTally_119 : decode cX10_makesTally 119 = .ok (.invokestatic 183, 3) := by decide +kernel
theorem dX10_makesTally_122 : decode cX10_makesTally 122 = .ok (.ifCond .eq 47, 3) := by decide +kernel
theorem dX10_makesTally_125 : decode cX10_makesTally 125 = .ok (.aload_n 0, 1) := by decide +kernel
theorem dX10_makesTally_126 : decode cX10_makesTally 126 = .ok (.getfield 83, 3) := by decide +kernel
theorem dX10_makesTally_129 : decode cX10_makesTally 129 = .ok (.iload_n 2, 1) := by decide +kernel
theorem dX10_makesTally_130 : decode cX10_makesTally 130 = .ok (.iload 7, 2) := by decide +kernel
theorem dX10_makesTally_132 : decode cX10_makesTally 132 = .ok (.iadd, 1) := by decide +kernel
theorem dX10_makesTally_133 : decode cX10_makesTally 133 = .ok (.dup2, 1) := by decide +kernel
theorem dX10_makesTally_134 : decode cX10_makesTally 134 = .ok (.iaload, 1) := by decide +kernel
theorem dX10_makesTally_135 : decode cX10_makesTally 135 = .ok (.iload_n 1, 1) := by decide +kernel
theorem dX10_makesTally_136 : decode cX10_makesTally 136 = .ok (.bipush 98, 2) := by decide +kernel
theorem dX10_makesTally_138 : decode cX10_makesTally 138 = .ok (.if_icmp .ne 10, 3) := by decide +kernel
theorem dX10_makesTally_141 : decode cX10_makesTally 141 = .ok (.iload_n 3, 1) := by decide +kernel
theorem dX10_makesTally_142 : decode cX10_makesTally 142 = .ok (.iload 5, 2) := by decide +kernel
theorem dX10_makesTally_144 : decode cX10_makesTally 144 = .ok (.isub, 1) := by decide +kernel
theorem dX10_makesTally_145 : decode cX10_makesTally 145 = .ok (.goto 19, 3) := by decide +kernel
theorem dX10_makesTally_148 : decode cX10_makesTally 148 = .ok (.iload_n 1, 1) := by decide +kernel
theorem dX10_makesTally_149 : decode cX10_makesTally 149 = .ok (.bipush 97, 2) := by decide +kernel
theorem dX10_makesTally_151 : decode cX10_makesTally 151 = .ok (.if_icmp .eq 8, 3) := by decide +kernel
theorem dX10_makesTally_154 : decode cX10_makesTally 154 = .ok (.iload 5, 2) := by decide +kernel
theorem dX10_makesTally_156 : decode cX10_makesTally 156 = .ok (.ifCond .ne 7, 3) := by decide +kernel
theorem dX10_makesTally_159 : decode cX10_makesTally 159 = .ok (.iconst 1, 1) := by decide +kernel
theorem dX10_makesTally_160 : decode cX10_makesTally 160 = .ok (.goto 4, 3) := by decide +kernel
theorem dX10_makesTally_163 : decode cX10_makesTally 163 = .ok (.iconst 0, 1) := by decide +kernel
theorem dX10_makesTally_164 : decode cX10_makesTally 164 = .ok (.iadd, 1) := by decide +kernel
theorem dX10_makesTally_165 : decode cX10_makesTally 165 = .ok (.iastore, 1) := by decide +kernel
theorem dX10_makesTally_166 : decode cX10_makesTally 166 = .ok (.iinc 5 1, 3) := by decide +kernel
theorem dX10_makesTally_169 : decode cX10_makesTally 169 = .ok (.iinc 6 1, 3) := by decide +kernel
theorem dX10_makesTally_172 : decode cX10_makesTally 172 = .ok (.goto (-91), 3) := by decide +kernel
theorem dX10_makesTally_175 : decode cX10_makesTally 175 = .ok (.aload_n 0, 1) := by decide +kernel
theorem dX10_makesTally_176 : decode cX10_makesTally 176 = .ok (.dup, 1) := by decide +kernel
theorem dX10_makesTally_177 : decode cX10_makesTally 177 = .ok (.getfield 186, 3) := by decide +kernel
theorem dX10_makesTally_180 : decode cX10_makesTally 180 = .ok (.iload 5, 2) := by decide +kernel
theorem dX10_makesTally_182 : decode cX10_makesTally 182 = .ok (.ifCond .le 7, 3) := by decide +kernel
theorem dX10_makesTally_185 : decode cX10_makesTally 185 = .ok (.iconst 1, 1) := by decide +kernel
theorem dX10_makesTally_186 : decode cX10_makesTally 186 = .ok (.goto 4, 3) := by decide +kernel
theorem dX10_makesTally_189 : decode cX10_makesTally 189 = .ok (.iconst 0, 1) := by decide +kernel
theorem dX10_makesTally_190 : decode cX10_makesTally 190 = .ok (.iadd, 1) := by decide +kernel
theorem dX10_makesTally_191 : decode cX10_makesTally 191 = .ok (.putfield 186, 3) := by decide +kernel
theorem dX10_makesTally_194 : decode cX10_makesTally 194 = .ok (.iinc 4 1, 3) := by decide +kernel
theorem dX10_makesTally_197 : decode cX10_makesTally 197 = .ok (.goto (-131), 3) := by decide +kernel
theorem dX10_makesTally_200 : decode cX10_makesTally 200 = .ok (.aload_n 0, 1) := by decide +kernel
theorem dX10_makesTally_201 : decode cX10_makesTally 201 = .ok (.dup, 1) := by decide +kernel
theorem dX10_makesTally_202 : decode cX10_makesTally 202 = .ok (.getfield 174, 3) := by decide +kernel
theorem dX10_makesTally_205 : decode cX10_makesTally 205 = .ok (.iconst 1, 1) := by decide +kernel
theorem dX10_makesTally_206 : decode cX10_makesTally 206 = .ok (.iadd, 1) := by decide +kernel
theorem dX10_makesTally_207 : decode cX10_makesTally 207 = .ok (.putfield 174, 3) := by decide +kernel
theorem dX10_makesTally_210 : decode cX10_makesTally 210 = .ok (.return_, 1) := by decide +kernel
theorem dX10_does_0 : decode cX10_does 0 = .ok (.iload_n 1, 1) := by decide +kernel
theorem dX10_does_1 : decode cX10_does 1 = .ok (.bipush 116, 2) := by decide +kernel
theorem dX10_does_3 : decode cX10_does 3 = .ok (.if_icmp .eq 15, 3) := by decide +kernel
theorem dX10_does_6 : decode cX10_does 6 = .ok (.iload_n 1, 1) := by decide +kernel
theorem dX10_does_7 : decode cX10_does 7 = .ok (.bipush 98, 2) := by decide +kernel
theorem dX10_does_9 : decode cX10_does 9 = .ok (.if_icmp .eq 9, 3) := by decide +kernel
theorem dX10_does_12 : decode cX10_does 12 = .ok (.iload_n 1, 1) := by decide +kernel
theorem dX10_does_13 : decode cX10_does 13 = .ok (.bipush 97, 2) := by decide +kernel
theorem dX10_does_15 : decode cX10_does 15 = .ok (.if_icmp .ne 11, 3) := by decide +kernel
theorem dX10_does_18 : decode cX10_does 18 = .ok (.aload_n 0, 1) := by decide +kernel
theorem dX10_does_19 : decode cX10_does 19 = .ok (.iload_n 1, 1) := by decide +kernel
theorem dX10_does_20 : decode cX10_does 20 = .ok (.invokevirtual 218, 3) := by decide +kernel
theorem dX10_does_23 : decode cX10_does 23 = .ok (.goto 122, 3) := by decide +kernel
theorem dX10_does_26 : decode cX10_does 26 = .ok (.iload_n 1, 1) := by decide +kernel
theorem dX10_does_27 : decode cX10_does 27 = .ok (.bipush 109, 2) := by decide +kernel
theorem dX10_does_29 : decode cX10_does 29 = .ok (.if_icmp .ne 22, 3) := by decide +kernel
theorem dX10_does_32 : decode cX10_does 32 = .ok (.aload_n 0, 1) := by decide +kernel
theorem dX10_does_33 : decode cX10_does 33 = .ok (.getfield 177, 3) := by decide +kernel
theorem dX10_does_36 : decode cX10_does 36 = .ok (.ifCond .eq 15, 3) := by decide +kernel
theorem dX10_does_39 : decode cX10_does 39 = .ok (.aload_n 0, 1) := by decide +kernel
theorem dX10_does_40 : decode cX10_does 40 = .ok (.aload_n 0, 1) := by decide +kernel
theorem dX10_does_41 : decode cX10_does 41 = .ok (.iconst 1, 1) := by decide +kernel
theorem dX10_does_42 : decode cX10_does 42 = .ok (.invokevirtual 211, 3) := by decide +kernel
theorem dX10_does_45 : decode cX10_does 45 = .ok (.invokevirtual 215, 3) := by decide +kernel
theorem dX10_does_48 : decode cX10_does 48 = .ok (.goto 97, 3) := by decide +kernel
theorem dX10_does_51 : decode cX10_does 51 = .ok (.iload_n 1, 1) := by decide +kernel
theorem dX10_does_52 : decode cX10_does 52 = .ok (.bipush 120, 2) := by decide +kernel
theorem dX10_does_54 : decode cX10_does 54 = .ok (.if_icmp .ne 48, 3) := by decide +kernel
theorem dX10_does_57 : decode cX10_does 57 = .ok (.aload_n 0, 1) := by decide +kernel
theorem dX10_does_58 : decode cX10_does 58 = .ok (.getfield 177, 3) := by decide +kernel
theorem dX10_does_61 : decode cX10_does 61 = .ok (.invokestatic 180, 3) := by decide +kernel
theorem dX10_does_64 : decode cX10_does 64 = .ok (.aload_n 0, 1) := by decide +kernel
theorem dX10_does_65 : decode cX10_does 65 = .ok (.getfield 205, 3) := by decide +kernel
theorem dX10_does_68 : decode cX10_does 68 = .ok (.if_icmp .le 34, 3) := by decide +kernel
theorem dX10_does_71 : decode cX10_does 71 = .ok (.aload_n 0, 1) := by decide +kernel
theorem dX10_does_72 : decode cX10_does 72 = .ok (.dup, 1) := by decide +kernel
theorem dX10_does_73 : decode cX10_does 73 = .ok (.getfield 177, 3) := by decide +kernel
theorem dX10_does_76 : decode cX10_does 76 = .ok (.iconst 1, 1) := by decide +kernel
theorem dX10_does_77 : decode cX10_does 77 = .ok (.aload_n 0, 1) := by decide +kernel
theorem dX10_does_78 : decode cX10_does 78 = .ok (.iconst 0, 1) := by decide +kernel
theorem dX10_does_79 : decode cX10_does 79 = .ok (.invokevirtual 211, 3) := by decide +kernel
theorem dX10_does_82 : decode cX10_does 82 = .ok (.ishl, 1) := by decide +kernel
theorem dX10_does_83 : decode cX10_does 83 = .ok (.iconst (-1), 1) := by decide +kernel
theorem dX10_does_84 : decode cX10_does 84 = .ok (.ixor, 1) := by decide +kernel
theorem dX10_does_85 : decode cX10_does 85 = .ok (.iand, 1) := by decide +kernel
theorem dX10_does_86 : decode cX10_does 86 = .ok (.putfield 177, 3) := by decide +kernel
theorem dX10_does_89 : decode cX10_does 89 = .ok (.aload_n 0, 1) := by decide +kernel
theorem dX10_does_90 : decode cX10_does 90 = .ok (.dup, 1) := by decide +kernel
theorem dX10_does_91 : decode cX10_does 91 = .ok (.getfield 208, 3) := by decide +kernel
theorem dX10_does_94 : decode cX10_does 94 = .ok (.iconst 1, 1) := by decide +kernel
theorem dX10_does_95 : decode cX10_does 95 = .ok (.iadd, 1) := by decide +kernel
theorem dX10_does_96 : decode cX10_does 96 = .ok (.putfield 208, 3) := by decide +kernel
theorem dX10_does_99 : decode cX10_does 99 = .ok (.goto 46, 3) := by decide +kernel
theorem dX10_does_102 : decode cX10_does 102 = .ok (.iload_n 1, 1) := by decide +kernel
theorem dX10_does_103 : decode cX10_does 103 = .ok (.bipush 108, 2) := by decide +kernel
theorem dX10_does_105 : decode cX10_does 105 = .ok (.if_icmp .eq 15, 3) := by decide +kernel
theorem dX10_does_108 : decode cX10_does 108 = .ok (.iload_n 1, 1) := by decide +kernel
theorem dX10_does_109 : decode cX10_does 109 = .ok (.bipush 104, 2) := by decide +kernel
theorem dX10_does_111 : decode cX10_does 111 = .ok (.if_icmp .eq 9, 3) := by decide +kernel
theorem dX10_does_114 : decode cX10_does 114 = .ok (.iload_n 1, 1) := by decide +kernel
theorem dX10_does_115 : decode cX10_does 115 = .ok (.bipush 113, 2) := by decide +kernel
theorem dX10_does_117 : decode cX10_does 117 = .ok (.if_icmp .ne 28, 3) := by decide +kernel
theorem dX10_does_120 : decode cX10_does 120 = .ok (.aload_n 0, 1) := by decide +kernel
theorem dX10_does_121 : decode cX10_does 121 = .ok (.iload_n 1, 1) := by decide +kernel
theorem dX10_does_122 : decode cX10_does 122 = .ok (.bipush 108, 2) := by decide +kernel
theorem dX10_does_124 : decode cX10_does 124 = .ok (.if_icmp .ne 7, 3) := by decide +kernel
theorem dX10_does_127 : decode cX10_does 127 = .ok (.iconst 0, 1) := by decide +kernel
theorem dX10_does_128 : decode cX10_does 128 = .ok (.goto 14, 3) := by decide +kernel
theorem dX10_does_131 : decode cX10_does 131 = .ok (.iload_n 1, 1) := by decide +kernel
theorem dX10_does_132 : decode cX10_does 132 = .ok (.bipush 104, 2) := by decide +kernel
theorem dX10_does_134 : decode cX10_does 134 = .ok (.if_icmp .ne 7, 3) := by decide +kernel
theorem dX10_does_137 : decode cX10_does 137 = .ok (.iconst 1, 1) := by decide +kernel
theorem dX10_does_138 : decode cX10_does 138 = .ok (.goto 4, 3) := by decide +kernel
theorem dX10_does_141 : decode cX10_does 141 = .ok (.iconst 2, 1) := by decide +kernel
theorem dX10_does_142 : decode cX10_does 142 = .ok (.putfield 199, 3) := by decide +kernel
theorem dX10_does_145 : decode cX10_does 145 = .ok (.iload_n 1, 1) := by decide +kernel
theorem dX10_does_146 : decode cX10_does 146 = .ok (.bipush 114, 2) := by decide +kernel
theorem dX10_does_148 : decode cX10_does 148 = .ok (.if_icmp .ne 29, 3) := by decide +kernel
theorem dX10_does_151 : decode cX10_does 151 = .ok (.aload_n 0, 1) := by decide +kernel
theorem dX10_does_152 : decode cX10_does 152 = .ok (.getfield 205, 3) := by decide +kernel
theorem dX10_does_155 : decode cX10_does 155 = .ok (.ifCond .le 22, 3) := by decide +kernel
theorem dX10_does_158 : decode cX10_does 158 = .ok (.aload_n 0, 1) := by decide +kernel
theorem dX10_does_159 : decode cX10_does 159 = .ok (.getfield 177, 3) := by decide +kernel
theorem dX10_does_162 : decode cX10_does 162 = .ok (.ifCond .eq 15, 3) := by decide +kernel
theorem dX10_does_165 : decode cX10_does 165 = .ok (.aload_n 0, 1) := by decide +kernel
theorem dX10_does_166 : decode cX10_does 166 = .ok (.aload_n 0, 1) := by decide +kernel
theorem dX10_does_167 : decode cX10_does 167 = .ok (.iconst 1, 1) := by decide +kernel
theorem dX10_does_168 : decode cX10_does 168 = .ok (.invokevirtual 211, 3) := by decide +kernel
theorem dX10_does_171 : decode cX10_does 171 = .ok (.invokevirtual 215, 3) := by decide +kernel
theorem dX10_does_174 : decode cX10_does 174 = .ok (.goto (-29), 3) := by decide +kernel
theorem dX10_does_177 : decode cX10_does 177 = .ok (.return_, 1) := by decide +kernel
theorem dX10_electsAbove_0 : decode cX10_electsAbove 0 = .ok (.iconst 1, 1) := by decide +kernel
theorem dX10_electsAbove_1 : decode cX10_electsAbove 1 = .ok (.istore_n 2, 1) := by decide +kernel
theorem dX10_electsAbove_2 : decode cX10_electsAbove 2 = .ok (.iload_n 2, 1) := by decide +kernel
theorem dX10_electsAbove_3 : decode cX10_electsAbove 3 = .ok (.ifCond .eq 88, 3) := by decide +kernel
theorem dX10_electsAbove_6 : decode cX10_electsAbove 6 = .ok (.aload_n 0, 1) := by decide +kernel
theorem dX10_electsAbove_7 : decode cX10_electsAbove 7 = .ok (.getfield 205, 3) := by decide +kernel
theorem dX10_electsAbove_10 : decode cX10_electsAbove 10 = .ok (.ifCond .le 81, 3) := by decide +kernel
theorem dX10_electsAbove_13 : decode cX10_electsAbove 13 = .ok (.aload_n 0, 1) := by decide +kernel
theorem dX10_electsAbove_14 : decode cX10_electsAbove 14 = .ok (.getfield 177, 3) := by decide +kernel
theorem dX10_electsAbove_17 : decode cX10_electsAbove 17 = .ok (.ifCond .eq 74, 3) := by decide +kernel
theorem dX10_electsAbove_20 : decode cX10_electsAbove 20 = .ok (.aload_n 0, 1) := by decide +kernel
theorem dX10_electsAbove_21 : decode cX10_electsAbove 21 = .ok (.getfield 196, 3) := by decide +kernel
theorem dX10_electsAbove_24 : decode cX10_electsAbove 24 = .ok (.istore_n 3, 1) := by decide +kernel
theorem dX10_electsAbove_25 : decode cX10_electsAbove 25 = .ok (.aload_n 0, 1) := by decide +kernel
theorem dX10_electsAbove_26 : decode cX10_electsAbove 26 = .ok (.iconst 1, 1) := by decide +kernel
theorem dX10_electsAbove_27 : decode cX10_electsAbove 27 = .ok (.invokevirtual 211, 3) := by decide +kernel
theorem dX10_electsAbove_30 : decode cX10_electsAbove 30 = .ok (.istore 4, 2) := by decide +kernel
theorem dX10_electsAbove_32 : decode cX10_electsAbove 32 = .ok (.bipush 100, 2) := by decide +kernel
theorem dX10_electsAbove_34 : decode cX10_electsAbove 34 = .ok (.aload_n 0, 1) := by decide +kernel
theorem dX10_electsAbove_35 : decode cX10_electsAbove 35 = .ok (.aload_n 0, 1) := by decide +kernel
theorem dX10_electsAbove_36 : decode cX10_electsAbove 36 = .ok (.getfield 174, 3) := by decide +kernel
theorem dX10_electsAbove_39 : decode cX10_electsAbove 39 = .ok (.iconst 1, 1) := by decide +kernel
theorem dX10_electsAbove_40 : decode cX10_electsAbove 40 = .ok (.isub, 1) := by decide +kernel
theorem dX10_electsAbove_41 : decode cX10_electsAbove 41 = .ok (.iload 4, 2) := by decide +kernel
theorem dX10_electsAbove_43 : decode cX10_electsAbove 43 = .ok (.invokevirtual 189, 3) := by decide +kernel
theorem dX10_electsAbove_46 : decode cX10_electsAbove 46 = .ok (.imul, 1) := by decide +kernel
theorem dX10_electsAbove_47 : decode cX10_electsAbove 47 = .ok (.iload_n 1, 1) := by decide +kernel
theorem dX10_electsAbove_48 : decode cX10_electsAbove 48 = .ok (.aload_n 0, 1) := by decide +kernel
theorem dX10_electsAbove_49 : decode cX10_electsAbove 49 = .ok (.getfield 186, 3) := by decide +kernel
theorem dX10_electsAbove_52 : decode cX10_electsAbove 52 = .ok (.imul, 1) := by decide +kernel
theorem dX10_electsAbove_53 : decode cX10_electsAbove 53 = .ok (.if_icmp .le 7, 3) := by decide +kernel
theorem dX10_electsAbove_56 : decode cX10_electsAbove 56 = .ok (.iconst 1, 1) := by decide +kernel
theorem dX10_electsAbove_57 : decode cX10_electsAbove 57 = .ok (.goto 4, 3) := by decide +kernel
theorem dX10_electsAbove_60 : decode cX10_electsAbove 60 = .ok (.iconst 0, 1) := by decide +kernel
theorem dX10_electsAbove_61 : decode cX10_electsAbove 61 = .ok (.istore_n 2, 1) := by decide +kernel
theorem dX10_electsAbove_62 : decode cX10_electsAbove 62 = .ok (.aload_n 0, 1) := by decide +kernel
theorem dX10_electsAbove_63 : decode cX10_electsAbove 63 = .ok (.iload_n 2, 1) := by decide +kernel
theorem dX10_electsAbove_64 : decode cX10_electsAbove 64 = .ok (.ifCond .eq 10, 3) := by decide +kernel
theorem dX10_electsAbove_67 : decode cX10_electsAbove 67 = .ok (.aload_n 0, 1) := by decide +kernel
theorem dX10_electsAbove_68 : decode cX10_electsAbove 68 = .ok (.getfield 196, 3) := by decide +kernel
theorem dX10_electsAbove_71 : decode cX10_electsAbove 71 = .ok (.goto 4, 3) := by decide +kernel
theorem dX10_electsAbove_74 : decode cX10_electsAbove 74 = .ok (.iload_n 3, 1) := by decide +kernel
theorem dX10_electsAbove_75 : decode cX10_electsAbove 75 = .ok (.putfield 196, 3) := by decide +kernel
theorem dX10_electsAbove_78 : decode cX10_electsAbove 78 = .ok (.iload_n 2, 1) := by decide +kernel
theorem dX10_electsAbove_79 : decode cX10_electsAbove 79 = .ok (.ifCond .eq 9, 3) := by decide +kernel
theorem dX10_electsAbove_82 : decode cX10_electsAbove 82 = .ok (.aload_n 0, 1) := by decide +kernel
theorem dX10_electsAbove_83 : decode cX10_electsAbove 83 = .ok (.iload 4, 2) := by decide +kernel
theorem dX10_electsAbove_85 : decode cX10_electsAbove 85 = .ok (.invokevirtual 215, 3) := by decide +kernel
theorem dX10_electsAbove_88 : decode cX10_electsAbove 88 = .ok (.goto (-86), 3) := by decide +kernel
theorem dX10_electsAbove_91 : decode cX10_electsAbove 91 = .ok (.return_, 1) := by decide +kernel
theorem dX10_goesOn_0 : decode cX10_goesOn 0 = .ok (.aload_n 0, 1) := by decide +kernel
theorem dX10_goesOn_1 : decode cX10_goesOn 1 = .ok (.getfield 29, 3) := by decide +kernel
theorem dX10_goesOn_4 : decode cX10_goesOn 4 = .ok (.iload_n 1, 1) := by decide +kernel
theorem dX10_goesOn_5 : decode cX10_goesOn 5 = .ok (.iload_n 2, 1) := by decide +kernel
theorem dX10_goesOn_6 : decode cX10_goesOn 6 = .ok (.iadd, 1) := by decide +kernel
theorem dX10_goesOn_7 : decode cX10_goesOn 7 = .ok (.iaload, 1) := by decide +kernel
theorem dX10_goesOn_8 : decode cX10_goesOn 8 = .ok (.istore_n 3, 1) := by decide +kernel
theorem dX10_goesOn_9 : decode cX10_goesOn 9 = .ok (.iload_n 3, 1) := by decide +kernel
theorem dX10_goesOn_10 : decode cX10_goesOn 10 = .ok (.bipush 40, 2) := by decide +kernel
theorem dX10_goesOn_12 : decode cX10_goesOn 12 = .ok (.if_icmp .ne 42, 3) := by decide +kernel
theorem dX10_goesOn_15 : decode cX10_goesOn 15 = .ok (.aload_n 0, 1) := by decide +kernel
theorem dX10_goesOn_16 : decode cX10_goesOn 16 = .ok (.getfield 89, 3) := by decide +kernel
theorem dX10_goesOn_19 : decode cX10_goesOn 19 = .ok (.aload_n 0, 1) := by decide +kernel
theorem dX10_goesOn_20 : decode cX10_goesOn 20 = .ok (.getfield 221, 3) := by decide +kernel
theorem dX10_goesOn_23 : decode cX10_goesOn 23 = .ok (.iload_n 2, 1) := by decide +kernel
theorem dX10_goesOn_24 : decode cX10_goesOn 24 = .ok (.iconst 1, 1) := by decide +kernel
theorem dX10_goesOn_25 : decode cX10_goesOn 25 = .ok (.iadd, 1) := by decide +kernel
theorem dX10_goesOn_26 : decode cX10_goesOn 26 = .ok (.iastore, 1) := by decide +kernel
theorem dX10_goesOn_27 : decode cX10_goesOn 27 = .ok (.aload_n 0, 1) := by decide +kernel
theorem dX10_goesOn_28 : decode cX10_goesOn 28 = .ok (.getfield 92, 3) := by decide +kernel
theorem dX10_goesOn_31 : decode cX10_goesOn 31 = .ok (.aload_n 0, 1) := by decide +kernel
theorem dX10_goesOn_32 : decode cX10_goesOn 32 = .ok (.getfield 221, 3) := by decide +kernel
theorem dX10_goesOn_35 : decode cX10_goesOn 35 = .ok (.aload_n 0, 1) := by decide +kernel
theorem dX10_goesOn_36 : decode cX10_goesOn 36 = .ok (.getfield 208, 3) := by decide +kernel
theorem dX10_goesOn_39 : decode cX10_goesOn 39 = .ok (.iastore, 1) := by decide +kernel
theorem dX10_goesOn_40 : decode cX10_goesOn 40 = .ok (.aload_n 0, 1) := by decide +kernel
theorem dX10_goesOn_41 : decode cX10_goesOn 41 = .ok (.dup, 1) := by decide +kernel
theorem dX10_goesOn_42 : decode cX10_goesOn 42 = .ok (.getfield 221, 3) := by decide +kernel
theorem dX10_goesOn_45 : decode cX10_goesOn 45 = .ok (.iconst 1, 1) := by decide +kernel
theorem dX10_goesOn_46 : decode cX10_goesOn 46 = .ok (.iadd, 1) := by decide +kernel
theorem dX10_goesOn_47 : decode cX10_goesOn 47 = .ok (.putfield 221, 3) := by decide +kernel
theorem dX10_goesOn_50 : decode cX10_goesOn 50 = .ok (.iload_n 2, 1) := by decide +kernel
theorem dX10_goesOn_51 : decode cX10_goesOn 51 = .ok (.iconst 1, 1) := by decide +kernel
theorem dX10_goesOn_52 : decode cX10_goesOn 52 = .ok (.iadd, 1) := by decide +kernel
theorem dX10_goesOn_53 : decode cX10_goesOn 53 = .ok (.ireturn, 1) := by decide +kernel
theorem dX10_goesOn_54 : decode cX10_goesOn 54 = .ok (.iload_n 3, 1) := by decide +kernel
theorem dX10_goesOn_55 : decode cX10_goesOn 55 = .ok (.bipush 41, 2) := by decide +kernel
theorem dX10_goesOn_57 : decode cX10_goesOn 57 = .ok (.if_icmp .ne 85, 3) := by decide +kernel
theorem dX10_goesOn_60 : decode cX10_goesOn 60 = .ok (.aload_n 0, 1) := by decide +kernel
theorem dX10_goesOn_61 : decode cX10_goesOn 61 = .ok (.getfield 208, 3) := by decide +kernel
theorem dX10_goesOn_64 : decode cX10_goesOn 64 = .ok (.aload_n 0, 1) := by decide +kernel
theorem dX10_goesOn_65 : decode cX10_goesOn 65 = .ok (.getfield 92, 3) := by decide +kernel
theorem dX10_goesOn_68 : decode cX10_goesOn 68 = .ok (.aload_n 0, 1) := by decide +kernel
theorem dX10_goesOn_69 : decode cX10_goesOn 69 = .ok (.getfield 221, 3) := by decide +kernel
theorem dX10_goesOn_72 : decode cX10_goesOn 72 = .ok (.iconst 1, 1) := by decide +kernel
theorem dX10_goesOn_73 : decode cX10_goesOn 73 = .ok (.isub, 1) := by decide +kernel
theorem dX10_goesOn_74 : decode cX10_goesOn 74 = .ok (.iaload, 1) := by decide +kernel
theorem dX10_goesOn_75 : decode cX10_goesOn 75 = .ok (.if_icmp .le 7, 3) := by decide +kernel
theorem dX10_goesOn_78 : decode cX10_goesOn 78 = .ok (.iconst 1, 1) := by decide +kernel
theorem dX10_goesOn_79 : decode cX10_goesOn 79 = .ok (.goto 4, 3) := by decide +kernel
theorem dX10_goesOn_82 : decode cX10_goesOn 82 = .ok (.iconst 0, 1) := by decide +kernel
theorem dX10_goesOn_83 : decode cX10_goesOn 83 = .ok (.istore 4, 2) := by decide +kernel
theorem dX10_goesOn_85 : decode cX10_goesOn 85 = .ok (.aload_n 0, 1) := by decide +kernel
theorem dX10_goesOn_86 : decode cX10_goesOn 86 = .ok (.getfield 92, 3) := by decide +kernel
theorem dX10_goesOn_89 : decode cX10_goesOn 89 = .ok (.aload_n 0, 1) := by decide +kernel
theorem dX10_goesOn_90 : decode cX10_goesOn 90 = .ok (.getfield 221, 3) := by decide +kernel
theorem dX10_goesOn_93 : decode cX10_goesOn 93 = .ok (.iconst 1, 1) := by decide +kernel
theorem dX10_goesOn_94 : decode cX10_goesOn 94 = .ok (.isub, 1) := by decide +kernel
theorem dX10_goesOn_95 : decode cX10_goesOn 95 = .ok (.aload_n 0, 1) := by decide +kernel
theorem dX10_goesOn_96 : decode cX10_goesOn 96 = .ok (.getfield 208, 3) := by decide +kernel
theorem dX10_goesOn_99 : decode cX10_goesOn 99 = .ok (.iastore, 1) := by decide +kernel
theorem dX10_goesOn_100 : decode cX10_goesOn 100 = .ok (.aload_n 0, 1) := by decide +kernel
theorem dX10_goesOn_101 : decode cX10_goesOn 101 = .ok (.dup, 1) := by decide +kernel
theorem dX10_goesOn_102 : decode cX10_goesOn 102 = .ok (.getfield 221, 3) := by decide +kernel
theorem dX10_goesOn_105 : decode cX10_goesOn 105 = .ok (.iload 4, 2) := by decide +kernel
theorem dX10_goesOn_107 : decode cX10_goesOn 107 = .ok (.ifCond .eq 7, 3) := by decide +kernel
theorem dX10_goesOn_110 : decode cX10_goesOn 110 = .ok (.iconst 0, 1) := by decide +kernel
theorem dX10_goesOn_111 : decode cX10_goesOn 111 = .ok (.goto 4, 3) := by decide +kernel
theorem dX10_goesOn_114 : decode cX10_goesOn 114 = .ok (.iconst 1, 1) := by decide +kernel
theorem dX10_goesOn_115 : decode cX10_goesOn 115 = .ok (.isub, 1) := by decide +kernel
theorem dX10_goesOn_116 : decode cX10_goesOn 116 = .ok (.putfield 221, 3) := by decide +kernel
theorem dX10_goesOn_119 : decode cX10_goesOn 119 = .ok (.iload 4, 2) := by decide +kernel
theorem dX10_goesOn_121 : decode cX10_goesOn 121 = .ok (.ifCond .eq 17, 3) := by decide +kernel
theorem dX10_goesOn_124 : decode cX10_goesOn 124 = .ok (.aload_n 0, 1) := by decide +kernel
theorem dX10_goesOn_125 : decode cX10_goesOn 125 = .ok (.getfield 89, 3) := by decide +kernel
theorem dX10_goesOn_128 : decode cX10_goesOn 128 = .ok (.aload_n 0, 1) := by decide +kernel
theorem dX10_goesOn_129 : decode cX10_goesOn 129 = .ok (.getfield 221, 3) := by decide +kernel
theorem dX10_goesOn_132 : decode cX10_goesOn 132 = .ok (.iconst 1, 1) := by decide +kernel
theorem dX10_goesOn_133 : decode cX10_goesOn 133 = .ok (.isub, 1) := by decide +kernel
theorem dX10_goesOn_134 : decode cX10_goesOn 134 = .ok (.iaload, 1) := by decide +kernel
theorem dX10_goesOn_135 : decode cX10_goesOn 135 = .ok (.goto 6, 3) := by decide +kernel
theorem dX10_goesOn_138 : decode cX10_goesOn 138 = .ok (.iload_n 2, 1) := by decide +kernel
theorem dX10_goesOn_139 : decode cX10_goesOn 139 = .ok (.iconst 1, 1) := by decide +kernel
theorem dX10_goesOn_140 : decode cX10_goesOn 140 = .ok (.iadd, 1) := by decide +kernel
theorem dX10_goesOn_141 : decode cX10_goesOn 141 = .ok (.ireturn, 1) := by decide +kernel
theorem dX10_goesOn_142 : decode cX10_goesOn 142 = .ok (.iload_n 2, 1) := by decide +kernel
theorem dX10_goesOn_143 : decode cX10_goesOn 143 = .ok (.iconst 1, 1) := by decide +kernel
theorem dX10_goesOn_144 : decode cX10_goesOn 144 = .ok (.iadd, 1) := by decide +kernel
theorem dX10_goesOn_145 : decode cX10_goesOn 145 = .ok (.istore 4, 2) := by decide +kernel
theorem dX10_goesOn_147 : decode cX10_goesOn 147 = .ok (.iconst 0, 1) := by decide +kernel
theorem dX10_goesOn_148 : decode cX10_goesOn 148 = .ok (.istore 5, 2) := by decide +kernel
theorem dX10_goesOn_150 : decode cX10_goesOn 150 = .ok (.aload_n 0, 1) := by decide +kernel
theorem dX10_goesOn_151 : decode cX10_goesOn 151 = .ok (.getfield 29, 3) := by decide +kernel
theorem dX10_goesOn_154 : decode cX10_goesOn 154 = .ok (.iload_n 1, 1) := by decide +kernel
theorem dX10_goesOn_155 : decode cX10_goesOn 155 = .ok (.iload 4, 2) := by decide +kernel
theorem dX10_goesOn_157 : decode cX10_goesOn 157 = .ok (.iadd, 1) := by decide +kernel
theorem dX10_goesOn_158 : decode cX10_goesOn 158 = .ok (.iaload, 1) := by decide +kernel
theorem dX10_goesOn_159 : decode cX10_goesOn 159 = .ok (.bipush 59, 2) := by decide +kernel
theorem dX10_goesOn_161 : decode cX10_goesOn 161 = .ok (.if_icmp .eq 29, 3) := by decide +kernel
theorem dX10_goesOn_164 : decode cX10_goesOn 164 = .ok (.bipush 10, 2) := by decide +kernel
theorem dX10_goesOn_166 : decode cX10_goesOn 166 = .ok (.iload 5, 2) := by decide +kernel
theorem dX10_goesOn_168 : decode cX10_goesOn 168 = .ok (.imul, 1) := by decide +kernel
theorem dX10_goesOn_169 : decode cX10_goesOn 169 = .ok (.aload_n 0, 1) := by decide +kernel
theorem dX10_goesOn_170 : decode cX10_goesOn 170 = .ok (.getfield 29, 3) := by decide +kernel
theorem dX10_goesOn_173 : decode cX10_goesOn 173 = .ok (.iload_n 1, 1) := by decide +kernel
theorem dX10_goesOn_174 : decode cX10_goesOn 174 = .ok (.iload 4, 2) := by decide +kernel
theorem dX10_goesOn_176 : decode cX10_goesOn 176 = .ok (.iadd, 1) := by decide +kernel
theorem dX10_goesOn_177 : decode cX10_goesOn 177 = .ok (.iaload, 1) := by decide +kernel
theorem dX10_goesOn_178 : decode cX10_goesOn 178 = .ok (.iadd, 1) := by decide +kernel
theorem dX10_goesOn_179 : decode cX10_goesOn 179 = .ok (.bipush 48, 2) := by decide +kernel
theorem dX10_goesOn_181 : decode cX10_goesOn 181 = .ok (.isub, 1) := by decide +kernel
theorem dX10_goesOn_182 : decode cX10_goesOn 182 = .ok (.istore 5, 2) := by decide +kernel
theorem dX10_goesOn_184 : decode cX10_goesOn 184 = .ok (.iinc 4 1, 3) := by decide +kernel
theorem dX10_goesOn_187 : decode cX10_goesOn 187 = .ok (.goto (-37), 3) := by decide +kernel
theorem dX10_goesOn_190 : decode cX10_goesOn 190 = .ok (.iload_n 3, 1) := by decide +kernel
theorem dX10_goesOn_191 : decode cX10_goesOn 191 = .ok (.bipush 101, 2) := by decide +kernel
theorem dX10_goesOn_193 : decode cX10_goesOn 193 = .ok (.if_icmp .ne 12, 3) := by decide +kernel
theorem dX10_goesOn_196 : decode cX10_goesOn 196 = .ok (.aload_n 0, 1) := by decide +kernel
theorem dX10_goesOn_197 : decode cX10_goesOn 197 = .ok (.iload 5, 2) := by decide +kernel
theorem dX10_goesOn_199 : decode cX10_goesOn 199 = .ok (.invokevirtual 224, 3) := by decide +kernel
theorem dX10_goesOn_202 : decode cX10_goesOn 202 = .ok (.goto 8, 3) := by decide +kernel
theorem dX10_goesOn_205 : decode cX10_goesOn 205 = .ok (.aload_n 0, 1) := by decide +kernel
theorem dX10_goesOn_206 : decode cX10_goesOn 206 = .ok (.iload_n 3, 1) := by decide +kernel
theorem dX10_goesOn_207 : decode cX10_goesOn 207 = .ok (.invokevirtual 227, 3) := by decide +kernel
theorem dX10_goesOn_210 : decode cX10_goesOn 210 = .ok (.iload 4, 2) := by decide +kernel
theorem dX10_goesOn_212 : decode cX10_goesOn 212 = .ok (.iconst 1, 1) := by decide +kernel
theorem dX10_goesOn_213 : decode cX10_goesOn 213 = .ok (.iadd, 1) := by decide +kernel
theorem dX10_goesOn_214 : decode cX10_goesOn 214 = .ok (.ireturn, 1) := by decide +kernel
theorem dX10_winnersOf_0 : decode cX10_winnersOf 0 = .ok (.aload_n 0, 1) := by decide +kernel
theorem dX10_winnersOf_1 : decode cX10_winnersOf 1 = .ok (.iconst 0, 1) := by decide +kernel
theorem dX10_winnersOf_2 : decode cX10_winnersOf 2 = .ok (.putfield 174, 3) := by decide +kernel
theorem dX10_winnersOf_5 : decode cX10_winnersOf 5 = .ok (.aload_n 0, 1) := by decide +kernel
theorem dX10_winnersOf_6 : decode cX10_winnersOf 6 = .ok (.iconst 0, 1) := by decide +kernel
theorem dX10_winnersOf_7 : decode cX10_winnersOf 7 = .ok (.putfield 196, 3) := by decide +kernel
theorem dX10_winnersOf_10 : decode cX10_winnersOf 10 = .ok (.aload_n 0, 1) := by decide +kernel
theorem dX10_winnersOf_11 : decode cX10_winnersOf 11 = .ok (.iconst 0, 1) := by decide +kernel
theorem dX10_winnersOf_12 : decode cX10_winnersOf 12 = .ok (.putfield 186, 3) := by decide +kernel
theorem dX10_winnersOf_15 : decode cX10_winnersOf 15 = .ok (.aload_n 0, 1) := by decide +kernel
theorem dX10_winnersOf_16 : decode cX10_winnersOf 16 = .ok (.iconst 1, 1) := by decide +kernel
theorem dX10_winnersOf_17 : decode cX10_winnersOf 17 = .ok (.aload_n 0, 1) := by decide +kernel
theorem dX10_winnersOf_18 : decode cX10_winnersOf 18 = .ok (.getfield 38, 3) := by decide +kernel
theorem dX10_winnersOf_21 : decode cX10_winnersOf 21 = .ok (.iload_n 1, 1) := by decide +kernel
theorem dX10_winnersOf_22 : decode cX10_winnersOf 22 = .ok (.iaload, 1) := by decide +kernel
theorem dX10_winnersOf_23 : decode cX10_winnersOf 23 = .ok (.ishl, 1) := by decide +kernel
theorem dX10_winnersOf_24 : decode cX10_winnersOf 24 = .ok (.iconst 1, 1) := by decide +kernel
theorem dX10_winnersOf_25 : decode cX10_winnersOf 25 = .ok (.isub, 1) := by decide +kernel
theorem dX10_winnersOf_26 : decode cX10_winnersOf 26 = .ok (.putfield 177, 3) := by decide +kernel
theorem dX10_winnersOf_29 : decode cX10_winnersOf 29 = .ok (.aload_n 0, 1) := by decide +kernel
theorem dX10_winnersOf_30 : decode cX10_winnersOf 30 = .ok (.iconst 0, 1) := by decide +kernel
theorem dX10_winnersOf_31 : decode cX10_winnersOf 31 = .ok (.putfield 202, 3) := by decide +kernel
theorem dX10_winnersOf_34 : decode cX10_winnersOf 34 = .ok (.aload_n 0, 1) := by decide +kernel
theorem dX10_winnersOf_35 : decode cX10_winnersOf 35 = .ok (.aload_n 0, 1) := by decide +kernel
theorem dX10_winnersOf_36 : decode cX10_winnersOf 36 = .ok (.getfield 41, 3) := by decide +kernel
theorem dX10_winnersOf_39 : decode cX10_winnersOf 39 = .ok (.iload_n 1, 1) := by decide +kernel
theorem dX10_winnersOf_40 : decode cX10_winnersOf 40 = .ok (.iaload, 1) := by decide +kernel
theorem dX10_winnersOf_41 : decode cX10_winnersOf 41 = .ok (.putfield 205, 3) := by decide +kernel
theorem dX10_winnersOf_44 : decode cX10_winnersOf 44 = .ok (.aload_n 0, 1) := by decide +kernel
theorem dX10_winnersOf_45 : decode cX10_winnersOf 45 = .ok (.iconst 0, 1) := by decide +kernel
theorem dX10_winnersOf_46 : decode cX10_winnersOf 46 = .ok (.putfield 199, 3) := by decide +kernel
theorem dX10_winnersOf_49 : decode cX10_winnersOf 49 = .ok (.aload_n 0, 1) := by decide +kernel
theorem dX10_winnersOf_50 : decode cX10_winnersOf 50 = .ok (.iconst 0, 1) := by decide +kernel
theorem dX10_winnersOf_51 : decode cX10_winnersOf 51 = .ok (.putfield 208, 3) := by decide +kernel
theorem dX10_winnersOf_54 : decode cX10_winnersOf 54 = .ok (.aload_n 0, 1) := by decide +kernel
theorem dX10_winnersOf_55 : decode cX10_winnersOf 55 = .ok (.iconst 0, 1) := by decide +kernel
theorem dX10_winnersOf_56 : decode cX10_winnersOf 56 = .ok (.putfield 221, 3) := by decide +kernel
theorem dX10_winnersOf_59 : decode cX10_winnersOf 59 = .ok (.iconst 0, 1) := by decide +kernel
theorem dX10_winnersOf_60 : decode cX10_winnersOf 60 = .ok (.istore_n 2, 1) := by decide +kernel
theorem dX10_winnersOf_61 : decode cX10_winnersOf 61 = .ok (.iload_n 2, 1) := by decide +kernel
theorem dX10_winnersOf_62 : decode cX10_winnersOf 62 = .ok (.aload_n 0, 1) := by decide +kernel
theorem dX10_winnersOf_63 : decode cX10_winnersOf 63 = .ok (.getfield 117, 3) := by decide +kernel
theorem dX10_winnersOf_66 : decode cX10_winnersOf 66 = .ok (.if_icmp .ge 38, 3) := by decide +kernel
theorem dX10_winnersOf_69 : decode cX10_winnersOf 69 = .ok (.aload_n 0, 1) := by decide +kernel
theorem dX10_winnersOf_70 : decode cX10_winnersOf 70 = .ok (.getfield 80, 3) := by decide +kernel
theorem dX10_winnersOf_73 : decode cX10_winnersOf 73 = .ok (.iload_n 2, 1) := by decide +kernel
theorem dX10_winnersOf_74 : decode cX10_winnersOf 74 = .ok (.aload_n 0, 1) := by decide +kernel
theorem dX10_winnersOf_75 : decode cX10_winnersOf 75 = .ok (.getfield 65, 3) := by decide +kernel
theorem dX10_winnersOf_78 : decode cX10_winnersOf 78 = .ok (.iload_n 2, 1) := by decide +kernel
theorem dX10_winnersOf_79 : decode cX10_winnersOf 79 = .ok (.iaload, 1) := by decide +kernel
theorem dX10_winnersOf_80 : decode cX10_winnersOf 80 = .ok (.iload_n 1, 1) := by decide +kernel
theorem dX10_winnersOf_81 : decode cX10_winnersOf 81 = .ok (.if_icmp .ne 15, 3) := by decide +kernel
theorem dX10_winnersOf_84 : decode cX10_winnersOf 84 = .ok (.aload_n 0, 1) := by decide +kernel
theorem dX10_winnersOf_85 : decode cX10_winnersOf 85 = .ok (.iload_n 2, 1) := by decide +kernel
theorem dX10_winnersOf_86 : decode cX10_winnersOf 86 = .ok (.invokevirtual 120, 3) := by decide +kernel
theorem dX10_winnersOf_89 : decode cX10_winnersOf 89 = .ok (.ifCond .ne 7, 3) := by decide +kernel
theorem dX10_winnersOf_92 : decode cX10_winnersOf 92 = .ok (.iconst 1, 1) := by decide +kernel
theorem dX10_winnersOf_93 : decode cX10_winnersOf 93 = .ok (.goto 4, 3) := by decide +kernel
theorem dX10_winnersOf_96 : decode cX10_winnersOf 96 = .ok (.iconst 0, 1) := by decide +kernel
theorem dX10_winnersOf_97 : decode cX10_winnersOf 97 = .ok (.bastore, 1) := by decide +kernel
theorem dX10_winnersOf_98 : decode cX10_winnersOf 98 = .ok (.iinc 2 1, 3) := by decide +kernel
theorem dX10_winnersOf_101 : decode cX10_winnersOf 101 = .ok (.goto (-40), 3) := by decide +kernel
theorem dX10_winnersOf_104 : decode cX10_winnersOf 104 = .ok (.iconst 0, 1) := by decide +kernel
theorem dX10_winnersOf_105 : decode cX10_winnersOf 105 = .ok (.istore_n 2, 1) := by decide +kernel
theorem dX10_winnersOf_106 : decode cX10_winnersOf 106 = .ok (.iload_n 2, 1) := by decide +kernel
theorem dX10_winnersOf_107 : decode cX10_winnersOf 107 = .ok (.aload_n 0, 1) := by decide +kernel
theorem dX10_winnersOf_108 : decode cX10_winnersOf 108 = .ok (.getfield 32, 3) := by decide +kernel
theorem dX10_winnersOf_111 : decode cX10_winnersOf 111 = .ok (.aload_n 0, 1) := by decide +kernel
theorem dX10_winnersOf_112 : decode cX10_winnersOf 112 = .ok (.getfield 44, 3) := by decide +kernel
theorem dX10_winnersOf_115 : decode cX10_winnersOf 115 = .ok (.iload_n 1, 1) := by decide +kernel
theorem dX10_winnersOf_116 : decode cX10_winnersOf 116 = .ok (.iaload, 1) := by decide +kernel
theorem dX10_winnersOf_117 : decode cX10_winnersOf 117 = .ok (.iaload, 1) := by decide +kernel
theorem dX10_winnersOf_118 : decode cX10_winnersOf 118 = .ok (.if_icmp .ge 28, 3) := by decide +kernel
theorem dX10_winnersOf_121 : decode cX10_winnersOf 121 = .ok (.aload_n 0, 1) := by decide +kernel
theorem dX10_winnersOf_122 : decode cX10_winnersOf 122 = .ok (.getfield 205, 3) := by decide +kernel
theorem dX10_winnersOf_125 : decode cX10_winnersOf 125 = .ok (.ifCond .le 21, 3) := by decide +kernel
theorem dX10_winnersOf_128 : decode cX10_winnersOf 128 = .ok (.aload_n 0, 1) := by decide +kernel
theorem dX10_winnersOf_129 : decode cX10_winnersOf 129 = .ok (.bipush 24, 2) := by decide +kernel
theorem dX10_winnersOf_131 : decode cX10_winnersOf 131 = .ok (.aload_n 0, 1) := by decide +kernel
theorem dX10_winnersOf_132 : decode cX10_winnersOf 132 = .ok (.getfield 44, 3) := by decide +kernel
theorem dX10_winnersOf_135 : decode cX10_winnersOf 135 = .ok (.iload_n 1, 1) := by decide +kernel
theorem dX10_winnersOf_136 : decode cX10_winnersOf 136 = .ok (.iaload, 1) := by decide +kernel
theorem dX10_winnersOf_137 : decode cX10_winnersOf 137 = .ok (.imul, 1) := by decide +kernel
theorem dX10_winnersOf_138 : decode cX10_winnersOf 138 = .ok (.iload_n 2, 1) := by decide +kernel
theorem dX10_winnersOf_139 : decode cX10_winnersOf 139 = .ok (.invokevirtual 230, 3) := by decide +kernel
theorem dX10_winnersOf_142 : decode cX10_winnersOf 142 = .ok (.istore_n 2, 1) := by decide +kernel
theorem dX10_winnersOf_143 : decode cX10_winnersOf 143 = .ok (.goto (-37), 3) := by decide +kernel
theorem dX10_winnersOf_146 : decode cX10_winnersOf 146 = .ok (.aload_n 0, 1) := by decide +kernel
theorem dX10_winnersOf_147 : decode cX10_winnersOf 147 = .ok (.getfield 202, 3) := by decide +kernel
theorem dX10_winnersOf_150 : decode cX10_winnersOf 150 = .ok (.ireturn, 1) := by decide +kernel
theorem dX10_mend_0 : decode cX10_mend 0 = .ok (.aload_n 0, 1) := by decide +kernel
theorem dX10_mend_1 : decode cX10_mend 1 = .ok (.iload_n 1, 1) := by decide +kernel
theorem dX10_mend_2 : decode cX10_mend 2 = .ok (.aload_n 0, 1) := by decide +kernel
theorem dX10_mend_3 : decode cX10_mend 3 = .ok (.getfield 147, 3) := by decide +kernel
theorem dX10_mend_6 : decode cX10_mend 6 = .ok (.invokestatic 106, 3) := by decide +kernel
theorem dX10_mend_9 : decode cX10_mend 9 = .ok (.aload_n 0, 1) := by decide +kernel
theorem dX10_mend_10 : decode cX10_mend 10 = .ok (.invokevirtual 144, 3) := by decide +kernel
theorem dX10_mend_13 : decode cX10_mend 13 = .ok (.iconst (-1), 1) := by decide +kernel
theorem dX10_mend_14 : decode cX10_mend 14 = .ok (.if_icmp .ne 7, 3) := by decide +kernel
theorem dX10_mend_17 : decode cX10_mend 17 = .ok (.iconst 1, 1) := by decide +kernel
theorem dX10_mend_18 : decode cX10_mend 18 = .ok (.goto 4, 3) := by decide +kernel
theorem dX10_mend_21 : decode cX10_mend 21 = .ok (.iconst 0, 1) := by decide +kernel
theorem dX10_mend_22 : decode cX10_mend 22 = .ok (.iconst 1, 1) := by decide +kernel
theorem dX10_mend_23 : decode cX10_mend 23 = .ok (.invokevirtual 113, 3) := by decide +kernel
theorem dX10_mend_26 : decode cX10_mend 26 = .ok (.ifCond .ne 5, 3) := by decide +kernel
theorem dX10_mend_29 : decode cX10_mend 29 = .ok (.iconst 0, 1) := by decide +kernel
theorem dX10_mend_30 : decode cX10_mend 30 = .ok (.ireturn, 1) := by decide +kernel
theorem dX10_mend_31 : decode cX10_mend 31 = .ok (.iconst 0, 1) := by decide +kernel
theorem dX10_mend_32 : decode cX10_mend 32 = .ok (.istore_n 2, 1) := by decide +kernel
theorem dX10_mend_33 : decode cX10_mend 33 = .ok (.iload_n 2, 1) := by decide +kernel
theorem dX10_mend_34 : decode cX10_mend 34 = .ok (.aload_n 0, 1) := by decide +kernel
theorem dX10_mend_35 : decode cX10_mend 35 = .ok (.getfield 154, 3) := by decide +kernel
theorem dX10_mend_38 : decode cX10_mend 38 = .ok (.if_icmp .ge 20, 3) := by decide +kernel
theorem dX10_mend_41 : decode cX10_mend 41 = .ok (.aload_n 0, 1) := by decide +kernel
theorem dX10_mend_42 : decode cX10_mend 42 = .ok (.getfield 95, 3) := by decide +kernel
theorem dX10_mend_45 : decode cX10_mend 45 = .ok (.iload_n 2, 1) := by decide +kernel
theorem dX10_mend_46 : decode cX10_mend 46 = .ok (.aload_n 0, 1) := by decide +kernel
theorem dX10_mend_47 : decode cX10_mend 47 = .ok (.iload_n 2, 1) := by decide +kernel
theorem dX10_mend_48 : decode cX10_mend 48 = .ok (.invokevirtual 157, 3) := by decide +kernel
theorem dX10_mend_51 : decode cX10_mend 51 = .ok (.iastore, 1) := by decide +kernel
theorem dX10_mend_52 : decode cX10_mend 52 = .ok (.iinc 2 1, 3) := by decide +kernel
theorem dX10_mend_55 : decode cX10_mend 55 = .ok (.goto (-22), 3) := by decide +kernel
theorem dX10_mend_58 : decode cX10_mend 58 = .ok (.aload_n 0, 1) := by decide +kernel
theorem dX10_mend_59 : decode cX10_mend 59 = .ok (.iload_n 1, 1) := by decide +kernel
theorem dX10_mend_60 : decode cX10_mend 60 = .ok (.invokevirtual 150, 3) := by decide +kernel
theorem dX10_mend_63 : decode cX10_mend 63 = .ok (.iconst 0, 1) := by decide +kernel
theorem dX10_mend_64 : decode cX10_mend 64 = .ok (.istore_n 2, 1) := by decide +kernel
theorem dX10_mend_65 : decode cX10_mend 65 = .ok (.iconst 0, 1) := by decide +kernel
theorem dX10_mend_66 : decode cX10_mend 66 = .ok (.istore_n 3, 1) := by decide +kernel
theorem dX10_mend_67 : decode cX10_mend 67 = .ok (.iload_n 3, 1) := by decide +kernel
theorem dX10_mend_68 : decode cX10_mend 68 = .ok (.aload_n 0, 1) := by decide +kernel
theorem dX10_mend_69 : decode cX10_mend 69 = .ok (.getfield 154, 3) := by decide +kernel
theorem dX10_mend_72 : decode cX10_mend 72 = .ok (.if_icmp .ge 31, 3) := by decide +kernel
theorem dX10_mend_75 : decode cX10_mend 75 = .ok (.iload_n 2, 1) := by decide +kernel
theorem dX10_mend_76 : decode cX10_mend 76 = .ok (.aload_n 0, 1) := by decide +kernel
theorem dX10_mend_77 : decode cX10_mend 77 = .ok (.getfield 95, 3) := by decide +kernel
theorem dX10_mend_80 : decode cX10_mend 80 = .ok (.iload_n 3, 1) := by decide +kernel
theorem dX10_mend_81 : decode cX10_mend 81 = .ok (.iaload, 1) := by decide +kernel
theorem dX10_mend_82 : decode cX10_mend 82 = .ok (.aload_n 0, 1) := by decide +kernel
theorem dX10_mend_83 : decode cX10_mend 83 = .ok (.iload_n 3, 1) := by decide +kernel
theorem dX10_mend_84 : decode cX10_mend 84 = .ok (.invokevirtual 157, 3) := by decide +kernel
theorem dX10_mend_87 : decode cX10_mend 87 = .ok (.if_icmp .eq 7, 3) := by decide +kernel
theorem dX10_mend_90 : decode cX10_mend 90 = .ok (.iconst 1, 1) := by decide +kernel
theorem dX10_mend_91 : decode cX10_mend 91 = .ok (.goto 4, 3) := by decide +kernel
theorem dX10_mend_94 : decode cX10_mend 94 = .ok (.iconst 0, 1) := by decide +kernel
theorem dX10_mend_95 : decode cX10_mend 95 = .ok (.iadd, 1) := by decide +kernel
theorem dX10_mend_96 : decode cX10_mend 96 = .ok (.istore_n 2, 1) := by decide +kernel
theorem dX10_mend_97 : decode cX10_mend 97 = .ok (.iinc 3 1, 3) := by decide +kernel
theorem dX10_mend_100 : decode cX10_mend 100 = .ok (.goto (-33), 3) := by decide +kernel
theorem dX10_mend_103 : decode cX10_mend 103 = .ok (.iload_n 2, 1) := by decide +kernel
theorem dX10_mend_104 : decode cX10_mend 104 = .ok (.ireturn, 1) := by decide +kernel
theorem dX10_commands_0 : decode cX10_commands 0 = .ok (.aload_n 0, 1) := by decide +kernel
theorem dX10_commands_1 : decode cX10_commands 1 = .ok (.iload_n 1, 1) := by decide +kernel
theorem dX10_commands_2 : decode cX10_commands 2 = .ok (.aload_n 0, 1) := by decide +kernel
theorem dX10_commands_3 : decode cX10_commands 3 = .ok (.getfield 147, 3) := by decide +kernel
theorem dX10_commands_6 : decode cX10_commands 6 = .ok (.invokestatic 106, 3) := by decide +kernel
theorem dX10_commands_9 : decode cX10_commands 9 = .ok (.iconst 1, 1) := by decide +kernel
theorem dX10_commands_10 : decode cX10_commands 10 = .ok (.iconst 1, 1) := by decide +kernel
theorem dX10_commands_11 : decode cX10_commands 11 = .ok (.invokevirtual 113, 3) := by decide +kernel
theorem dX10_commands_14 : decode cX10_commands 14 = .ok (.ifCond .ne 5, 3) := by decide +kernel
theorem dX10_commands_17 : decode cX10_commands 17 = .ok (.iconst 0, 1) := by decide +kernel
theorem dX10_commands_18 : decode cX10_commands 18 = .ok (.ireturn, 1) := by decide +kernel
theorem dX10_commands_19 : decode cX10_commands 19 = .ok (.iconst 0, 1) := by decide +kernel
theorem dX10_commands_20 : decode cX10_commands 20 = .ok (.istore_n 2, 1) := by decide +kernel
theorem dX10_commands_21 : decode cX10_commands 21 = .ok (.iconst 0, 1) := by decide +kernel
theorem dX10_commands_22 : decode cX10_commands 22 = .ok (.istore_n 3, 1) := by decide +kernel
theorem dX10_commands_23 : decode cX10_commands 23 = .ok (.iload_n 3, 1) := by decide +kernel
theorem dX10_commands_24 : decode cX10_commands 24 = .ok (.aload_n 0, 1) := by decide +kernel
theorem dX10_commands_25 : decode cX10_commands 25 = .ok (.getfield 32, 3) := by decide +kernel
theorem dX10_commands_28 : decode cX10_commands 28 = .ok (.iload_n 1, 1) := by decide +kernel
theorem dX10_commands_29 : decode cX10_commands 29 = .ok (.iaload, 1) := by decide +kernel
theorem dX10_commands_30 : decode cX10_commands 30 = .ok (.if_icmp .ge 33, 3) := by decide +kernel
theorem dX10_commands_33 : decode cX10_commands 33 = .ok (.iload_n 2, 1) := by decide +kernel
theorem dX10_commands_34 : decode cX10_commands 34 = .ok (.aload_n 0, 1) := by decide +kernel
theorem dX10_commands_35 : decode cX10_commands 35 = .ok (.getfield 29, 3) := by decide +kernel
theorem dX10_commands_38 : decode cX10_commands 38 = .ok (.bipush 24, 2) := by decide +kernel
theorem dX10_commands_40 : decode cX10_commands 40 = .ok (.iload_n 1, 1) := by decide +kernel
theorem dX10_commands_41 : decode cX10_commands 41 = .ok (.imul, 1) := by decide +kernel
theorem dX10_commands_42 : decode cX10_commands 42 = .ok (.iload_n 3, 1) := by decide +kernel
theorem dX10_commands_43 : decode cX10_commands 43 = .ok (.iadd, 1) := by decide +kernel
theorem dX10_commands_44 : decode cX10_commands 44 = .ok (.iaload, 1) := by decide +kernel
theorem dX10_commands_45 : decode cX10_commands 45 = .ok (.bipush 59, 2) := by decide +kernel
theorem dX10_commands_47 : decode cX10_commands 47 = .ok (.if_icmp .ne 7, 3) := by decide +kernel
theorem dX10_commands_50 : decode cX10_commands 50 = .ok (.iconst 1, 1) := by decide +kernel
theorem dX10_commands_51 : decode cX10_commands 51 = .ok (.goto 4, 3) := by decide +kernel
theorem dX10_commands_54 : decode cX10_commands 54 = .ok (.iconst 0, 1) := by decide +kernel
theorem dX10_commands_55 : decode cX10_commands 55 = .ok (.iadd, 1) := by decide +kernel
theorem dX10_commands_56 : decode cX10_commands 56 = .ok (.istore_n 2, 1) := by decide +kernel
theorem dX10_commands_57 : decode cX10_commands 57 = .ok (.iinc 3 1, 3) := by decide +kernel
theorem dX10_commands_60 : decode cX10_commands 60 = .ok (.goto (-37), 3) := by decide +kernel
theorem dX10_commands_63 : decode cX10_commands 63 = .ok (.iload_n 2, 1) := by decide +kernel
theorem dX10_commands_64 : decode cX10_commands 64 = .ok (.ireturn, 1) := by decide +kernel
theorem dX10_open_0 : decode cX10_open 0 = .ok (.iload_n 2, 1) := by decide +kernel
theorem dX10_open_1 : decode cX10_open 1 = .ok (.iconst 2, 1) := by decide +kernel
theorem dX10_open_2 : decode cX10_open 2 = .ok (.bipush 6, 2) := by decide +kernel
theorem dX10_open_4 : decode cX10_open 4 = .ok (.invokestatic 102, 3) := by decide +kernel
theorem dX10_open_7 : decode cX10_open 7 = .ok (.ifCond .eq 17, 3) := by decide +kernel
theorem dX10_open_10 : decode cX10_open 10 = .ok (.iload_n 3, 1) := by decide +kernel
theorem dX10_open_11 : decode cX10_open 11 = .ok (.iconst 1, 1) := by decide +kernel
theorem dX10_open_12 : decode cX10_open 12 = .ok (.if_icmp .lt 12, 3) := by decide +kernel
theorem dX10_open_15 : decode cX10_open 15 = .ok (.iload_n 3, 1) := by decide +kernel
theorem dX10_open_16 : decode cX10_open 16 = .ok (.iload_n 2, 1) := by decide +kernel
theorem dX10_open_17 : decode cX10_open 17 = .ok (.if_icmp .ge 7, 3) := by decide +kernel
theorem dX10_open_20 : decode cX10_open 20 = .ok (.iconst 1, 1) := by decide +kernel
theorem dX10_open_21 : decode cX10_open 21 = .ok (.goto 4, 3) := by decide +kernel
theorem dX10_open_24 : decode cX10_open 24 = .ok (.iconst 0, 1) := by decide +kernel
theorem dX10_open_25 : decode cX10_open 25 = .ok (.istore 5, 2) := by decide +kernel
theorem dX10_open_27 : decode cX10_open 27 = .ok (.aload_n 0, 1) := by decide +kernel
theorem dX10_open_28 : decode cX10_open 28 = .ok (.iload_n 1, 1) := by decide +kernel
theorem dX10_open_29 : decode cX10_open 29 = .ok (.iconst 3, 1) := by decide +kernel
theorem dX10_open_30 : decode cX10_open 30 = .ok (.invokestatic 106, 3) := by decide +kernel
theorem dX10_open_33 : decode cX10_open 33 = .ok (.ifCond .eq 19, 3) := by decide +kernel
theorem dX10_open_36 : decode cX10_open 36 = .ok (.iload 4, 2) := by decide +kernel
theorem dX10_open_38 : decode cX10_open 38 = .ok (.aload_n 0, 1) := by decide +kernel
theorem dX10_open_39 : decode cX10_open 39 = .ok (.getfield 147, 3) := by decide +kernel
theorem dX10_open_42 : decode cX10_open 42 = .ok (.invokestatic 106, 3) := by decide +kernel
theorem dX10_open_45 : decode cX10_open 45 = .ok (.ifCond .eq 7, 3) := by decide +kernel
theorem dX10_open_48 : decode cX10_open 48 = .ok (.iconst 1, 1) := by decide +kernel
theorem dX10_open_49 : decode cX10_open 49 = .ok (.goto 4, 3) := by decide +kernel
theorem dX10_open_52 : decode cX10_open 52 = .ok (.iconst 0, 1) := by decide +kernel
theorem dX10_open_53 : decode cX10_open 53 = .ok (.iload 5, 2) := by decide +kernel
theorem dX10_open_55 : decode cX10_open 55 = .ok (.aload_n 0, 1) := by decide +kernel
theorem dX10_open_56 : decode cX10_open 56 = .ok (.getfield 154, 3) := by decide +kernel
theorem dX10_open_59 : decode cX10_open 59 = .ok (.bipush 8, 2) := by decide +kernel
theorem dX10_open_61 : decode cX10_open 61 = .ok (.if_icmp .ge 7, 3) := by decide +kernel
theorem dX10_open_64 : decode cX10_open 64 = .ok (.iconst 1, 1) := by decide +kernel
theorem dX10_open_65 : decode cX10_open 65 = .ok (.goto 4, 3) := by decide +kernel
theorem dX10_open_68 : decode cX10_open 68 = .ok (.iconst 0, 1) := by decide +kernel
theorem dX10_open_69 : decode cX10_open 69 = .ok (.invokevirtual 113, 3) := by decide +kernel
theorem dX10_open_72 : decode cX10_open 72 = .ok (.ifCond .ne 5, 3) := by decide +kernel
theorem dX10_open_75 : decode cX10_open 75 = .ok (.iconst 0, 1) := by decide +kernel
theorem dX10_open_76 : decode cX10_open 76 = .ok (.ireturn, 1) := by decide +kernel
theorem dX10_open_77 : decode cX10_open 77 = .ok (.aload_n 0, 1) := by decide +kernel
theorem dX10_open_78 : decode cX10_open 78 = .ok (.getfield 35, 3) := by decide +kernel
theorem dX10_open_81 : decode cX10_open 81 = .ok (.aload_n 0, 1) := by decide +kernel
theorem dX10_open_82 : decode cX10_open 82 = .ok (.getfield 154, 3) := by decide +kernel
theorem dX10_open_85 : decode cX10_open 85 = .ok (.iload_n 1, 1) := by decide +kernel
theorem dX10_open_86 : decode cX10_open 86 = .ok (.iastore, 1) := by decide +kernel
theorem dX10_open_87 : decode cX10_open 87 = .ok (.aload_n 0, 1) := by decide +kernel
theorem dX10_open_88 : decode cX10_open 88 = .ok (.getfield 38, 3) := by decide +kernel
theorem dX10_open_91 : decode cX10_open 91 = .ok (.aload_n 0, 1) := by decide +kernel
theorem dX10_open_92 : decode cX10_open 92 = .ok (.getfield 154, 3) := by decide +kernel
theorem dX10_open_95 : decode cX10_open 95 = .ok (.iload_n 2, 1) := by decide +kernel
theorem dX10_open_96 : decode cX10_open 96 = .ok (.iastore, 1) := by decide +kernel
theorem dX10_open_97 : decode cX10_open 97 = .ok (.aload_n 0, 1) := by decide +kernel
theorem dX10_open_98 : decode cX10_open 98 = .ok (.getfield 41, 3) := by decide +kernel
theorem dX10_open_101 : decode cX10_open 101 = .ok (.aload_n 0, 1) := by decide +kernel
theorem dX10_open_102 : decode cX10_open 102 = .ok (.getfield 154, 3) := by decide +kernel
theorem dX10_open_105 : decode cX10_open 105 = .ok (.iload_n 3, 1) := by decide +kernel
theorem dX10_open_106 : decode cX10_open 106 = .ok (.iastore, 1) := by decide +kernel
theorem dX10_open_107 : decode cX10_open 107 = .ok (.aload_n 0, 1) := by decide +kernel
theorem dX10_open_108 : decode cX10_open 108 = .ok (.getfield 44, 3) := by decide +kernel
theorem dX10_open_111 : decode cX10_open 111 = .ok (.aload_n 0, 1) := by decide +kernel
theorem dX10_open_112 : decode cX10_open 112 = .ok (.getfield 154, 3) := by decide +kernel
theorem dX10_open_115 : decode cX10_open 115 = .ok (.iload 4, 2) := by decide +kernel
theorem dX10_open_117 : decode cX10_open 117 = .ok (.iastore, 1) := by decide +kernel
theorem dX10_open_118 : decode cX10_open 118 = .ok (.aload_n 0, 1) := by decide +kernel
theorem dX10_open_119 : decode cX10_open 119 = .ok (.getfield 50, 3) := by decide +kernel
theorem dX10_open_122 : decode cX10_open 122 = .ok (.aload_n 0, 1) := by decide +kernel
theorem dX10_open_123 : decode cX10_open 123 = .ok (.getfield 154, 3) := by decide +kernel
theorem dX10_open_126 : decode cX10_open 126 = .ok (.iconst (-1), 1) := by decide +kernel
theorem dX10_open_127 : decode cX10_open 127 = .ok (.iastore, 1) := by decide +kernel
theorem dX10_open_128 : decode cX10_open 128 = .ok (.aload_n 0, 1) := by decide +kernel
theorem dX10_open_129 : decode cX10_open 129 = .ok (.dup, 1) := by decide +kernel
theorem dX10_open_130 : decode cX10_open 130 = .ok (.getfield 154, 3) := by decide +kernel
theorem dX10_open_133 : decode cX10_open 133 = .ok (.iconst 1, 1) := by decide +kernel
theorem dX10_open_134 : decode cX10_open 134 = .ok (.iadd, 1) := by decide +kernel
theorem dX10_open_135 : decode cX10_open 135 = .ok (.putfield 154, 3) := by decide +kernel
theorem dX10_open_138 : decode cX10_open 138 = .ok (.aload_n 0, 1) := by decide +kernel
theorem dX10_open_139 : decode cX10_open 139 = .ok (.getfield 154, 3) := by decide +kernel
theorem dX10_open_142 : decode cX10_open 142 = .ok (.iconst 1, 1) := by decide +kernel
theorem dX10_open_143 : decode cX10_open 143 = .ok (.isub, 1) := by decide +kernel
theorem dX10_open_144 : decode cX10_open 144 = .ok (.ireturn, 1) := by decide +kernel
theorem dX10_countingIn_0 : decode cX10_countingIn 0 = .ok (.iconst 0, 1) := by decide +kernel
theorem dX10_countingIn_1 : decode cX10_countingIn 1 = .ok (.istore_n 2, 1) := by decide +kernel
theorem dX10_countingIn_2 : decode cX10_countingIn 2 = .ok (.iconst 0, 1) := by decide +kernel
theorem dX10_countingIn_3 : decode cX10_countingIn 3 = .ok (.istore_n 3, 1) := by decide +kernel
theorem dX10_countingIn_4 : decode cX10_countingIn 4 = .ok (.iload_n 3, 1) := by decide +kernel
theorem dX10_countingIn_5 : decode cX10_countingIn 5 = .ok (.aload_n 0, 1) := by decide +kernel
theorem dX10_countingIn_6 : decode cX10_countingIn 6 = .ok (.getfield 117, 3) := by decide +kernel
theorem dX10_countingIn_9 : decode cX10_countingIn 9 = .ok (.if_icmp .ge 35, 3) := by decide +kernel
theorem dX10_countingIn_12 : decode cX10_countingIn 12 = .ok (.iload_n 2, 1) := by decide +kernel
theorem dX10_countingIn_13 : decode cX10_countingIn 13 = .ok (.aload_n 0, 1) := by decide +kernel
theorem dX10_countingIn_14 : decode cX10_countingIn 14 = .ok (.getfield 65, 3) := by decide +kernel
theorem dX10_countingIn_17 : decode cX10_countingIn 17 = .ok (.iload_n 3, 1) := by decide +kernel
theorem dX10_countingIn_18 : decode cX10_countingIn 18 = .ok (.iaload, 1) := by decide +kernel
theorem dX10_countingIn_19 : decode cX10_countingIn 19 = .ok (.iload_n 1, 1) := by decide +kernel
theorem dX10_countingIn_20 : decode cX10_countingIn 20 = .ok (.if_icmp .ne 15, 3) := by decide +kernel
theorem dX10_countingIn_23 : decode cX10_countingIn 23 = .ok (.aload_n 0, 1) := by decide +kernel
theorem dX10_countingIn_24 : decode cX10_countingIn 24 = .ok (.iload_n 3, 1) := by decide +kernel
theorem dX10_countingIn_25 : decode cX10_countingIn 25 = .ok (.invokevirtual 120, 3) := by decide +kernel
theorem dX10_countingIn_28 : decode cX10_countingIn 28 = .ok (.ifCond .ne 7, 3) := by decide +kernel
theorem dX10_countingIn_31 : decode cX10_countingIn 31 = .ok (.iconst 1, 1) := by decide +kernel
theorem dX10_countingIn_32 : decode cX10_countingIn 32 = .ok (.goto 4, 3) := by decide +kernel
theorem dX10_countingIn_35 : decode cX10_countingIn 35 = .ok (.iconst 0, 1) := by decide +kernel
theorem dX10_countingIn_36 : decode cX10_countingIn 36 = .ok (.iadd, 1) := by decide +kernel
theorem dX10_countingIn_37 : decode cX10_countingIn 37 = .ok (.istore_n 2, 1) := by decide +kernel
theorem dX10_countingIn_38 : decode cX10_countingIn 38 = .ok (.iinc 3 1, 3) := by decide +kernel
theorem dX10_countingIn_41 : decode cX10_countingIn 41 = .ok (.goto (-37), 3) := by decide +kernel
theorem dX10_countingIn_44 : decode cX10_countingIn 44 = .ok (.iload_n 2, 1) := by decide +kernel
theorem dX10_countingIn_45 : decode cX10_countingIn 45 = .ok (.ireturn, 1) := by decide +kernel
theorem dX10_close_0 : decode cX10_close 0 = .ok (.iload_n 1, 1) := by decide +kernel
theorem dX10_close_1 : decode cX10_close 1 = .ok (.aload_n 0, 1) := by decide +kernel
theorem dX10_close_2 : decode cX10_close 2 = .ok (.getfield 154, 3) := by decide +kernel
theorem dX10_close_5 : decode cX10_close 5 = .ok (.invokestatic 106, 3) := by decide +kernel
theorem dX10_close_8 : decode cX10_close 8 = .ok (.istore_n 2, 1) := by decide +kernel
theorem dX10_close_9 : decode cX10_close 9 = .ok (.aload_n 0, 1) := by decide +kernel
theorem dX10_close_10 : decode cX10_close 10 = .ok (.iload_n 2, 1) := by decide +kernel
theorem dX10_close_11 : decode cX10_close 11 = .ok (.iload_n 2, 1) := by decide +kernel
theorem dX10_close_12 : decode cX10_close 12 = .ok (.ifCond .eq 16, 3) := by decide +kernel
theorem dX10_close_15 : decode cX10_close 15 = .ok (.aload_n 0, 1) := by decide +kernel
theorem dX10_close_16 : decode cX10_close 16 = .ok (.getfield 47, 3) := by decide +kernel
theorem dX10_close_19 : decode cX10_close 19 = .ok (.iload_n 1, 1) := by decide +kernel
theorem dX10_close_20 : decode cX10_close 20 = .ok (.baload, 1) := by decide +kernel
theorem dX10_close_21 : decode cX10_close 21 = .ok (.ifCond .ne 7, 3) := by decide +kernel
theorem dX10_close_24 : decode cX10_close 24 = .ok (.iconst 1, 1) := by decide +kernel
theorem dX10_close_25 : decode cX10_close 25 = .ok (.goto 4, 3) := by decide +kernel
theorem dX10_close_28 : decode cX10_close 28 = .ok (.iconst 0, 1) := by decide +kernel
theorem dX10_close_29 : decode cX10_close 29 = .ok (.iconst 1, 1) := by decide +kernel
theorem dX10_close_30 : decode cX10_close 30 = .ok (.invokevirtual 113, 3) := by decide +kernel
theorem dX10_close_33 : decode cX10_close 33 = .ok (.ifCond .ne 5, 3) := by decide +kernel
theorem dX10_close_36 : decode cX10_close 36 = .ok (.iconst 0, 1) := by decide +kernel
theorem dX10_close_37 : decode cX10_close 37 = .ok (.ireturn, 1) := by decide +kernel
theorem dX10_close_38 : decode cX10_close 38 = .ok (.aload_n 0, 1) := by decide +kernel
theorem dX10_close_39 : decode cX10_close 39 = .ok (.getfield 47, 3) := by decide +kernel
theorem dX10_close_42 : decode cX10_close 42 = .ok (.iload_n 1, 1) := by decide +kernel
theorem dX10_close_43 : decode cX10_close 43 = .ok (.iconst 1, 1) := by decide +kernel
theorem dX10_close_44 : decode cX10_close 44 = .ok (.bastore, 1) := by decide +kernel
theorem dX10_close_45 : decode cX10_close 45 = .ok (.aload_n 0, 1) := by decide +kernel
theorem dX10_close_46 : decode cX10_close 46 = .ok (.iload_n 1, 1) := by decide +kernel
theorem dX10_close_47 : decode cX10_close 47 = .ok (.invokevirtual 160, 3) := by decide +kernel
theorem dX10_close_50 : decode cX10_close 50 = .ok (.ireturn, 1) := by decide +kernel
theorem dX10_mark_0 : decode cX10_mark 0 = .ok (.iconst 0, 1) := by decide +kernel
theorem dX10_mark_1 : decode cX10_mark 1 = .ok (.istore_n 2, 1) := by decide +kernel
theorem dX10_mark_2 : decode cX10_mark 2 = .ok (.iconst 0, 1) := by decide +kernel
theorem dX10_mark_3 : decode cX10_mark 3 = .ok (.istore_n 3, 1) := by decide +kernel
theorem dX10_mark_4 : decode cX10_mark 4 = .ok (.iload_n 3, 1) := by decide +kernel
theorem dX10_mark_5 : decode cX10_mark 5 = .ok (.aload_n 0, 1) := by decide +kernel
theorem dX10_mark_6 : decode cX10_mark 6 = .ok (.getfield 163, 3) := by decide +kernel
theorem dX10_mark_9 : decode cX10_mark 9 = .ok (.if_icmp .ge 29, 3) := by decide +kernel
theorem dX10_mark_12 : decode cX10_mark 12 = .ok (.iload_n 2, 1) := by decide +kernel
theorem dX10_mark_13 : decode cX10_mark 13 = .ok (.ifCond .ne 13, 3) := by decide +kernel
theorem dX10_mark_16 : decode cX10_mark 16 = .ok (.aload_n 0, 1) := by decide +kernel
theorem dX10_mark_17 : decode cX10_mark 17 = .ok (.getfield 77, 3) := by decide +kernel
theorem dX10_mark_20 : decode cX10_mark 20 = .ok (.iload_n 3, 1) := by decide +kernel
theorem dX10_mark_21 : decode cX10_mark 21 = .ok (.iaload, 1) := by decide +kernel
theorem dX10_mark_22 : decode cX10_mark 22 = .ok (.iload_n 1, 1) := by decide +kernel
theorem dX10_mark_23 : decode cX10_mark 23 = .ok (.if_icmp .ne 7, 3) := by decide +kernel
theorem dX10_mark_26 : decode cX10_mark 26 = .ok (.iconst 1, 1) := by decide +kernel
theorem dX10_mark_27 : decode cX10_mark 27 = .ok (.goto 4, 3) := by decide +kernel
theorem dX10_mark_30 : decode cX10_mark 30 = .ok (.iconst 0, 1) := by decide +kernel
theorem dX10_mark_31 : decode cX10_mark 31 = .ok (.istore_n 2, 1) := by decide +kernel
theorem dX10_mark_32 : decode cX10_mark 32 = .ok (.iinc 3 1, 3) := by decide +kernel
theorem dX10_mark_35 : decode cX10_mark 35 = .ok (.goto (-31), 3) := by decide +kernel
theorem dX10_mark_38 : decode cX10_mark 38 = .ok (.aload_n 0, 1) := by decide +kernel
theorem dX10_mark_39 : decode cX10_mark 39 = .ok (.iload_n 1, 1) := by decide +kernel
theorem dX10_mark_40 : decode cX10_mark 40 = .ok (.bipush 6, 2) := by decide +kernel
theorem dX10_mark_42 : decode cX10_mark 42 = .ok (.invokestatic 106, 3) := by decide +kernel
theorem dX10_mark_45 : decode cX10_mark 45 = .ok (.iload_n 2, 1) := by decide +kernel
theorem dX10_mark_46 : decode cX10_mark 46 = .ok (.ifCond .ne 7, 3) := by decide +kernel
theorem dX10_mark_49 : decode cX10_mark 49 = .ok (.iconst 1, 1) := by decide +kernel
theorem dX10_mark_50 : decode cX10_mark 50 = .ok (.goto 4, 3) := by decide +kernel
theorem dX10_mark_53 : decode cX10_mark 53 = .ok (.iconst 0, 1) := by decide +kernel
theorem dX10_mark_54 : decode cX10_mark 54 = .ok (.iconst 1, 1) := by decide +kernel
theorem dX10_mark_55 : decode cX10_mark 55 = .ok (.invokevirtual 113, 3) := by decide +kernel
theorem dX10_mark_58 : decode cX10_mark 58 = .ok (.ifCond .ne 5, 3) := by decide +kernel
theorem dX10_mark_61 : decode cX10_mark 61 = .ok (.iconst 0, 1) := by decide +kernel
theorem dX10_mark_62 : decode cX10_mark 62 = .ok (.ireturn, 1) := by decide +kernel
theorem dX10_mark_63 : decode cX10_mark 63 = .ok (.aload_n 0, 1) := by decide +kernel
theorem dX10_mark_64 : decode cX10_mark 64 = .ok (.getfield 77, 3) := by decide +kernel
theorem dX10_mark_67 : decode cX10_mark 67 = .ok (.aload_n 0, 1) := by decide +kernel
theorem dX10_mark_68 : decode cX10_mark 68 = .ok (.getfield 163, 3) := by decide +kernel
theorem dX10_mark_71 : decode cX10_mark 71 = .ok (.iload_n 1, 1) := by decide +kernel
theorem dX10_mark_72 : decode cX10_mark 72 = .ok (.iastore, 1) := by decide +kernel
theorem dX10_mark_73 : decode cX10_mark 73 = .ok (.aload_n 0, 1) := by decide +kernel
theorem dX10_mark_74 : decode cX10_mark 74 = .ok (.dup, 1) := by decide +kernel
theorem dX10_mark_75 : decode cX10_mark 75 = .ok (.getfield 163, 3) := by decide +kernel
theorem dX10_mark_78 : decode cX10_mark 78 = .ok (.iconst 1, 1) := by decide +kernel
theorem dX10_mark_79 : decode cX10_mark 79 = .ok (.iadd, 1) := by decide +kernel
theorem dX10_mark_80 : decode cX10_mark 80 = .ok (.putfield 163, 3) := by decide +kernel
theorem dX10_mark_83 : decode cX10_mark 83 = .ok (.aload_n 0, 1) := by decide +kernel
theorem dX10_mark_84 : decode cX10_mark 84 = .ok (.getfield 163, 3) := by decide +kernel
theorem dX10_mark_87 : decode cX10_mark 87 = .ok (.ireturn, 1) := by decide +kernel
theorem dX10_cast_0 : decode cX10_cast 0 = .ok (.iload_n 1, 1) := by decide +kernel
theorem dX10_cast_1 : decode cX10_cast 1 = .ok (.aload_n 0, 1) := by decide +kernel
theorem dX10_cast_2 : decode cX10_cast 2 = .ok (.getfield 154, 3) := by decide +kernel
theorem dX10_cast_5 : decode cX10_cast 5 = .ok (.invokestatic 106, 3) := by decide +kernel
theorem dX10_cast_8 : decode cX10_cast 8 = .ok (.ifCond .eq 16, 3) := by decide +kernel
theorem dX10_cast_11 : decode cX10_cast 11 = .ok (.iload_n 2, 1) := by decide +kernel
theorem dX10_cast_12 : decode cX10_cast 12 = .ok (.bipush 20, 2) := by decide +kernel
theorem dX10_cast_14 : decode cX10_cast 14 = .ok (.invokestatic 106, 3) := by decide +kernel
theorem dX10_cast_17 : decode cX10_cast 17 = .ok (.ifCond .eq 7, 3) := by decide +kernel
theorem dX10_cast_20 : decode cX10_cast 20 = .ok (.iconst 1, 1) := by decide +kernel
theorem dX10_cast_21 : decode cX10_cast 21 = .ok (.goto 4, 3) := by decide +kernel
theorem dX10_cast_24 : decode cX10_cast 24 = .ok (.iconst 0, 1) := by decide +kernel
theorem dX10_cast_25 : decode cX10_cast 25 = .ok (.istore_n 3, 1) := by decide +kernel
theorem dX10_cast_26 : decode cX10_cast 26 = .ok (.iload_n 3, 1) := by decide +kernel
theorem dX10_cast_27 : decode cX10_cast 27 = .ok (.ifCond .eq 32, 3) := by decide +kernel
theorem dX10_cast_30 : decode cX10_cast 30 = .ok (.aload_n 0, 1) := by decide +kernel
theorem dX10_cast_31 : decode cX10_cast 31 = .ok (.getfield 47, 3) := by decide +kernel
theorem dX10_cast_34 : decode cX10_cast 34 = .ok (.iload_n 1, 1) := by decide +kernel
theorem dX10_cast_35 : decode cX10_cast 35 = .ok (.baload, 1) := by decide +kernel
theorem dX10_cast_36 : decode cX10_cast 36 = .ok (.ifCond .ne 23, 3) := by decide +kernel
theorem dX10_cast_39 : decode cX10_cast 39 = .ok (.aload_n 0, 1) := by decide +kernel
theorem dX10_cast_40 : decode cX10_cast 40 = .ok (.getfield 163, 3) := by decide +kernel
theorem dX10_cast_43 : decode cX10_cast 43 = .ok (.ifCond .le 16, 3) := by decide +kernel
theorem dX10_cast_46 : decode cX10_cast 46 = .ok (.aload_n 0, 1) := by decide +kernel
theorem dX10_cast_47 : decode cX10_cast 47 = .ok (.getfield 117, 3) := by decide +kernel
theorem dX10_cast_50 : decode cX10_cast 50 = .ok (.bipush 100, 2) := by decide +kernel
theorem dX10_cast_52 : decode cX10_cast 52 = .ok (.if_icmp .ge 7, 3) := by decide +kernel
theorem dX10_cast_55 : decode cX10_cast 55 = .ok (.iconst 1, 1) := by decide +kernel
theorem dX10_cast_56 : decode cX10_cast 56 = .ok (.goto 4, 3) := by decide +kernel
theorem dX10_cast_59 : decode cX10_cast 59 = .ok (.iconst 0, 1) := by decide +kernel
theorem dX10_cast_60 : decode cX10_cast 60 = .ok (.istore 4, 2) := by decide +kernel
theorem dX10_cast_62 : decode cX10_cast 62 = .ok (.iconst 0, 1) := by decide +kernel
theorem dX10_cast_63 : decode cX10_cast 63 = .ok (.istore 5, 2) := by decide +kernel
theorem dX10_cast_65 : decode cX10_cast 65 = .ok (.iload 5, 2) := by decide +kernel
theorem dX10_cast_67 : decode cX10_cast 67 = .ok (.aload_n 0, 1) := by decide +kernel
theorem dX10_cast_68 : decode cX10_cast 68 = .ok (.getfield 163, 3) := by decide +kernel
theorem dX10_cast_71 : decode cX10_cast 71 = .ok (.if_icmp .ge 37, 3) := by decide +kernel
theorem dX10_cast_74 : decode cX10_cast 74 = .ok (.iload 4, 2) := by decide +kernel
theorem dX10_cast_76 : decode cX10_cast 76 = .ok (.ifCond .eq 32, 3) := by decide +kernel
theorem dX10_cast_79 : decode cX10_cast 79 = .ok (.aload_n 0, 1) := by decide +kernel
theorem dX10_cast_80 : decode cX10_cast 80 = .ok (.getfield 77, 3) := by decide +kernel
theorem dX10_cast_83 : decode cX10_cast 83 = .ok (.iload 5, 2) := by decide +kernel
theorem dX10_cast_85 : decode cX10_cast 85 = .ok (.iaload, 1) := by decide +kernel
theorem dX10_cast_86 : decode cX10_cast 86 = .ok (.aload_n 0, 1) := by decide +kernel
theorem dX10_cast_87 : decode cX10_cast 87 = .ok (.getfield 38, 3) := by decide +kernel
theorem dX10_cast_90 : decode cX10_cast 90 = .ok (.iload_n 1, 1) := by decide +kernel
theorem dX10_cast_91 : decode cX10_cast 91 = .ok (.iaload, 1) := by decide +kernel
theorem dX10_cast_92 : decode cX10_cast 92 = .ok (.if_icmp .ge 7, 3) := by decide +kernel
theorem dX10_cast_95 : decode cX10_cast 95 = .ok (.iconst 1, 1) := by decide +kernel
theorem dX10_cast_96 : decode cX10_cast 96 = .ok (.goto 4, 3) := by decide +kernel
theorem dX10_cast_99 : decode cX10_cast 99 = .ok (.iconst 0, 1) := by decide +kernel
theorem dX10_cast_100 : decode cX10_cast 100 = .ok (.istore 4, 2) := by decide +kernel
theorem dX10_cast_102 : decode cX10_cast 102 = .ok (.iinc 5 1, 3) := by decide +kernel
theorem dX10_cast_105 : decode cX10_cast 105 = .ok (.goto (-40), 3) := by decide +kernel
theorem dX10_cast_108 : decode cX10_cast 108 = .ok (.aload_n 0, 1) := by decide +kernel
theorem dX10_cast_109 : decode cX10_cast 109 = .ok (.iload_n 3, 1) := by decide +kernel
theorem dX10_cast_110 : decode cX10_cast 110 = .ok (.iload 4, 2) := by decide +kernel
theorem dX10_cast_112 : decode cX10_cast 112 = .ok (.iconst 1, 1) := by decide +kernel
theorem dX10_cast_113 : decode cX10_cast 113 = .ok (.invokevirtual 113, 3) := by decide +kernel
theorem dX10_cast_116 : decode cX10_cast 116 = .ok (.ifCond .ne 5, 3) := by decide +kernel
theorem dX10_cast_119 : decode cX10_cast 119 = .ok (.iconst 0, 1) := by decide +kernel
theorem dX10_cast_120 : decode cX10_cast 120 = .ok (.ireturn, 1) := by decide +kernel
theorem dX10_cast_121 : decode cX10_cast 121 = .ok (.iconst 0, 1) := by decide +kernel
theorem dX10_cast_122 : decode cX10_cast 122 = .ok (.istore 5, 2) := by decide +kernel
theorem dX10_cast_124 : decode cX10_cast 124 = .ok (.iload 5, 2) := by decide +kernel
theorem dX10_cast_126 : decode cX10_cast 126 = .ok (.aload_n 0, 1) := by decide +kernel
theorem dX10_cast_127 : decode cX10_cast 127 = .ok (.getfield 163, 3) := by decide +kernel
theorem dX10_cast_130 : decode cX10_cast 130 = .ok (.if_icmp .ge 31, 3) := by decide +kernel
theorem dX10_cast_133 : decode cX10_cast 133 = .ok (.aload_n 0, 1) := by decide +kernel
theorem dX10_cast_134 : decode cX10_cast 134 = .ok (.getfield 59, 3) := by decide +kernel
theorem dX10_cast_137 : decode cX10_cast 137 = .ok (.bipush 6, 2) := by decide +kernel
theorem dX10_cast_139 : decode cX10_cast 139 = .ok (.aload_n 0, 1) := by decide +kernel
theorem dX10_cast_140 : decode cX10_cast 140 = .ok (.getfield 117, 3) := by decide +kernel
theorem dX10_cast_143 : decode cX10_cast 143 = .ok (.imul, 1) := by decide +kernel
theorem dX10_cast_144 : decode cX10_cast 144 = .ok (.iload 5, 2) := by decide +kernel
theorem dX10_cast_146 : decode cX10_cast 146 = .ok (.iadd, 1) := by decide +kernel
theorem dX10_cast_147 : decode cX10_cast 147 = .ok (.aload_n 0, 1) := by decide +kernel
theorem dX10_cast_148 : decode cX10_cast 148 = .ok (.getfield 77, 3) := by decide +kernel
theorem dX10_cast_151 : decode cX10_cast 151 = .ok (.iload 5, 2) := by decide +kernel
theorem dX10_cast_153 : decode cX10_cast 153 = .ok (.iaload, 1) := by decide +kernel
theorem dX10_cast_154 : decode cX10_cast 154 = .ok (.iastore, 1) := by decide +kernel
theorem dX10_cast_155 : decode cX10_cast 155 = .ok (.iinc 5 1, 3) := by decide +kernel
theorem dX10_cast_158 : decode cX10_cast 158 = .ok (.goto (-34), 3) := by decide +kernel
theorem dX10_cast_161 : decode cX10_cast 161 = .ok (.aload_n 0, 1) := by decide +kernel
theorem dX10_cast_162 : decode cX10_cast 162 = .ok (.getfield 62, 3) := by decide +kernel
theorem dX10_cast_165 : decode cX10_cast 165 = .ok (.aload_n 0, 1) := by decide +kernel
theorem dX10_cast_166 : decode cX10_cast 166 = .ok (.getfield 117, 3) := by decide +kernel
theorem dX10_cast_169 : decode cX10_cast 169 = .ok (.aload_n 0, 1) := by decide +kernel
theorem dX10_cast_170 : decode cX10_cast 170 = .ok (.getfield 163, 3) := by decide +kernel
theorem dX10_cast_173 : decode cX10_cast 173 = .ok (.iastore, 1) := by decide +kernel
theorem dX10_cast_174 : decode cX10_cast 174 = .ok (.aload_n 0, 1) := by decide +kernel
theorem dX10_cast_175 : decode cX10_cast 175 = .ok (.getfield 65, 3) := by decide +kernel
theorem dX10_cast_178 : decode cX10_cast 178 = .ok (.aload_n 0, 1) := by decide +kernel
theorem dX10_cast_179 : decode cX10_cast 179 = .ok (.getfield 117, 3) := by decide +kernel
theorem dX10_cast_182 : decode cX10_cast 182 = .ok (.iload_n 1, 1) := by decide +kernel
theorem dX10_cast_183 : decode cX10_cast 183 = .ok (.iastore, 1) := by decide +kernel
theorem dX10_cast_184 : decode cX10_cast 184 = .ok (.aload_n 0, 1) := by decide +kernel
theorem dX10_cast_185 : decode cX10_cast 185 = .ok (.getfield 68, 3) := by decide +kernel
theorem dX10_cast_188 : decode cX10_cast 188 = .ok (.aload_n 0, 1) := by decide +kernel
theorem dX10_cast_189 : decode cX10_cast 189 = .ok (.getfield 117, 3) := by decide +kernel
theorem dX10_cast_192 : decode cX10_cast 192 = .ok (.iload_n 2, 1) := by decide +kernel
theorem dX10_cast_193 : decode cX10_cast 193 = .ok (.iastore, 1) := by decide +kernel
theorem dX10_cast_194 : decode cX10_cast 194 = .ok (.aload_n 0, 1) := by decide +kernel
theorem dX10_cast_195 : decode cX10_cast 195 = .ok (.getfield 71, 3) := by decide +kernel
theorem dX10_cast_198 : decode cX10_cast 198 = .ok (.aload_n 0, 1) := by decide +kernel
theorem dX10_cast_199 : decode cX10_cast 199 = .ok (.getfield 117, 3) := by decide +kernel
theorem dX10_cast_202 : decode cX10_cast 202 = .ok (.aload_n 0, 1) := by decide +kernel
theorem dX10_cast_203 : decode cX10_cast 203 = .ok (.getfield 131, 3) := by decide +kernel
theorem dX10_cast_206 : decode cX10_cast 206 = .ok (.iastore, 1) := by decide +kernel
theorem dX10_cast_207 : decode cX10_cast 207 = .ok (.aload_n 0, 1) := by decide +kernel
theorem dX10_cast_208 : decode cX10_cast 208 = .ok (.iconst 0, 1) := by decide +kernel
theorem dX10_cast_209 : decode cX10_cast 209 = .ok (.putfield 163, 3) := by decide +kernel
theorem dX10_cast_212 : decode cX10_cast 212 = .ok (.aload_n 0, 1) := by decide +kernel
theorem dX10_cast_213 : decode cX10_cast 213 = .ok (.dup, 1) := by decide +kernel
theorem dX10_cast_214 : decode cX10_cast 214 = .ok (.getfield 117, 3) := by decide +kernel
theorem dX10_cast_217 : decode cX10_cast 217 = .ok (.iconst 1, 1) := by decide +kernel
theorem dX10_cast_218 : decode cX10_cast 218 = .ok (.iadd, 1) := by decide +kernel
theorem dX10_cast_219 : decode cX10_cast 219 = .ok (.putfield 117, 3) := by decide +kernel
theorem dX10_cast_222 : decode cX10_cast 222 = .ok (.aload_n 0, 1) := by decide +kernel
theorem dX10_cast_223 : decode cX10_cast 223 = .ok (.getfield 117, 3) := by decide +kernel
theorem dX10_cast_226 : decode cX10_cast 226 = .ok (.iconst 1, 1) := by decide +kernel
theorem dX10_cast_227 : decode cX10_cast 227 = .ok (.isub, 1) := by decide +kernel
theorem dX10_cast_228 : decode cX10_cast 228 = .ok (.ireturn, 1) := by decide +kernel
theorem dX10_why_0 : decode cX10_why 0 = .ok (.aload_n 0, 1) := by decide +kernel
theorem dX10_why_1 : decode cX10_why 1 = .ok (.iload_n 1, 1) := by decide +kernel
theorem dX10_why_2 : decode cX10_why 2 = .ok (.aload_n 0, 1) := by decide +kernel
theorem dX10_why_3 : decode cX10_why 3 = .ok (.getfield 117, 3) := by decide +kernel
theorem dX10_why_6 : decode cX10_why 6 = .ok (.invokestatic 106, 3) := by decide +kernel
theorem dX10_why_9 : decode cX10_why 9 = .ok (.iconst 1, 1) := by decide +kernel
theorem dX10_why_10 : decode cX10_why 10 = .ok (.iconst 1, 1) := by decide +kernel
theorem dX10_why_11 : decode cX10_why 11 = .ok (.invokevirtual 113, 3) := by decide +kernel
theorem dX10_why_14 : decode cX10_why 14 = .ok (.ifCond .eq 11, 3) := by decide +kernel
theorem dX10_why_17 : decode cX10_why 17 = .ok (.aload_n 0, 1) := by decide +kernel
theorem dX10_why_18 : decode cX10_why 18 = .ok (.iload_n 1, 1) := by decide +kernel
theorem dX10_why_19 : decode cX10_why 19 = .ok (.invokevirtual 120, 3) := by decide +kernel
theorem dX10_why_22 : decode cX10_why 22 = .ok (.goto 4, 3) := by decide +kernel
theorem dX10_why_25 : decode cX10_why 25 = .ok (.iconst 0, 1) := by decide +kernel
theorem dX10_why_26 : decode cX10_why 26 = .ok (.ireturn, 1) := by decide +kernel
theorem dX10_read_0 : decode cX10_read 0 = .ok (.aload_n 0, 1) := by decide +kernel
theorem dX10_read_1 : decode cX10_read 1 = .ok (.iload_n 1, 1) := by decide +kernel
theorem dX10_read_2 : decode cX10_read 2 = .ok (.aload_n 0, 1) := by decide +kernel
theorem dX10_read_3 : decode cX10_read 3 = .ok (.getfield 117, 3) := by decide +kernel
theorem dX10_read_6 : decode cX10_read 6 = .ok (.invokestatic 106, 3) := by decide +kernel
theorem dX10_read_9 : decode cX10_read 9 = .ok (.ifCond .eq 16, 3) := by decide +kernel
theorem dX10_read_12 : decode cX10_read 12 = .ok (.iload_n 2, 1) := by decide +kernel
theorem dX10_read_13 : decode cX10_read 13 = .ok (.bipush 6, 2) := by decide +kernel
theorem dX10_read_15 : decode cX10_read 15 = .ok (.invokestatic 106, 3) := by decide +kernel
theorem dX10_read_18 : decode cX10_read 18 = .ok (.ifCond .eq 7, 3) := by decide +kernel
theorem dX10_read_21 : decode cX10_read 21 = .ok (.iconst 1, 1) := by decide +kernel
theorem dX10_read_22 : decode cX10_read 22 = .ok (.goto 4, 3) := by decide +kernel
theorem dX10_read_25 : decode cX10_read 25 = .ok (.iconst 0, 1) := by decide +kernel
theorem dX10_read_26 : decode cX10_read 26 = .ok (.iconst 1, 1) := by decide +kernel
theorem dX10_read_27 : decode cX10_read 27 = .ok (.iconst 1, 1) := by decide +kernel
theorem dX10_read_28 : decode cX10_read 28 = .ok (.invokevirtual 113, 3) := by decide +kernel
theorem dX10_read_31 : decode cX10_read 31 = .ok (.ifCond .ne 5, 3) := by decide +kernel
theorem dX10_read_34 : decode cX10_read 34 = .ok (.iconst 0, 1) := by decide +kernel
theorem dX10_read_35 : decode cX10_read 35 = .ok (.ireturn, 1) := by decide +kernel
theorem dX10_read_36 : decode cX10_read 36 = .ok (.iload_n 2, 1) := by decide +kernel
theorem dX10_read_37 : decode cX10_read 37 = .ok (.aload_n 0, 1) := by decide +kernel
theorem dX10_read_38 : decode cX10_read 38 = .ok (.getfield 62, 3) := by decide +kernel
theorem dX10_read_41 : decode cX10_read 41 = .ok (.iload_n 1, 1) := by decide +kernel
theorem dX10_read_42 : decode cX10_read 42 = .ok (.iaload, 1) := by decide +kernel
theorem dX10_read_43 : decode cX10_read 43 = .ok (.if_icmp .ge 12, 3) := by decide +kernel
theorem dX10_read_46 : decode cX10_read 46 = .ok (.aload_n 0, 1) := by decide +kernel
theorem dX10_read_47 : decode cX10_read 47 = .ok (.iload_n 1, 1) := by decide +kernel
theorem dX10_read_48 : decode cX10_read 48 = .ok (.iload_n 2, 1) := by decide +kernel
theorem dX10_read_49 : decode cX10_read 49 = .ok (.invokevirtual 166, 3) := by decide +kernel
theorem dX10_read_52 : decode cX10_read 52 = .ok (.goto 4, 3) := by decide +kernel
theorem dX10_read_55 : decode cX10_read 55 = .ok (.iconst (-1), 1) := by decide +kernel
theorem dX10_read_56 : decode cX10_read 56 = .ok (.ireturn, 1) := by decide +kernel
theorem dX10_misread_0 : decode cX10_misread 0 = .ok (.iload_n 1, 1) := by decide +kernel
theorem dX10_misread_1 : decode cX10_misread 1 = .ok (.aload_n 0, 1) := by decide +kernel
theorem dX10_misread_2 : decode cX10_misread 2 = .ok (.getfield 117, 3) := by decide +kernel
theorem dX10_misread_5 : decode cX10_misread 5 = .ok (.invokestatic 106, 3) := by decide +kernel
theorem dX10_misread_8 : decode cX10_misread 8 = .ok (.istore_n 2, 1) := by decide +kernel
theorem dX10_misread_9 : decode cX10_misread 9 = .ok (.aload_n 0, 1) := by decide +kernel
theorem dX10_misread_10 : decode cX10_misread 10 = .ok (.iload_n 2, 1) := by decide +kernel
theorem dX10_misread_11 : decode cX10_misread 11 = .ok (.iload_n 2, 1) := by decide +kernel
theorem dX10_misread_12 : decode cX10_misread 12 = .ok (.ifCond .eq 26, 3) := by decide +kernel
theorem dX10_misread_15 : decode cX10_misread 15 = .ok (.aload_n 0, 1) := by decide +kernel
theorem dX10_misread_16 : decode cX10_misread 16 = .ok (.getfield 74, 3) := by decide +kernel
theorem dX10_misread_19 : decode cX10_misread 19 = .ok (.iload_n 1, 1) := by decide +kernel
theorem dX10_misread_20 : decode cX10_misread 20 = .ok (.baload, 1) := by decide +kernel
theorem dX10_misread_21 : decode cX10_misread 21 = .ok (.ifCond .ne 17, 3) := by decide +kernel
theorem dX10_misread_24 : decode cX10_misread 24 = .ok (.aload_n 0, 1) := by decide +kernel
theorem dX10_misread_25 : decode cX10_misread 25 = .ok (.getfield 62, 3) := by decide +kernel
theorem dX10_misread_28 : decode cX10_misread 28 = .ok (.iload_n 1, 1) := by decide +kernel
theorem dX10_misread_29 : decode cX10_misread 29 = .ok (.iaload, 1) := by decide +kernel
theorem dX10_misread_30 : decode cX10_misread 30 = .ok (.iconst 1, 1) := by decide +kernel
theorem dX10_misread_31 : decode cX10_misread 31 = .ok (.if_icmp .le 7, 3) := by decide +kernel
theorem dX10_misread_34 : decode cX10_misread 34 = .ok (.iconst 1, 1) := by decide +kernel
theorem dX10_misread_35 : decode cX10_misread 35 = .ok (.goto 4, 3) := by decide +kernel
theorem dX10_misread_38 : decode cX10_misread 38 = .ok (.iconst 0, 1) := by decide +kernel
theorem dX10_misread_39 : decode cX10_misread 39 = .ok (.iconst 1, 1) := by decide +kernel
theorem dX10_misread_40 : decode cX10_misread 40 = .ok (.invokevirtual 113, 3) := by decide +kernel
theorem dX10_misread_43 : decode cX10_misread 43 = .ok (.ifCond .eq 10, 3) := by decide +kernel
theorem dX10_misread_46 : decode cX10_misread 46 = .ok (.aload_n 0, 1) := by decide +kernel
theorem dX10_misread_47 : decode cX10_misread 47 = .ok (.getfield 74, 3) := by decide +kernel
theorem dX10_misread_50 : decode cX10_misread 50 = .ok (.iload_n 1, 1) := by decide +kernel
theorem dX10_misread_51 : decode cX10_misread 51 = .ok (.iconst 1, 1) := by decide +kernel
theorem dX10_misread_52 : decode cX10_misread 52 = .ok (.bastore, 1) := by decide +kernel
theorem dX10_misread_53 : decode cX10_misread 53 = .ok (.return_, 1) := by decide +kernel
theorem dX10_countedAt_0 : decode cX10_countedAt 0 = .ok (.iconst (-1), 1) := by decide +kernel
theorem dX10_countedAt_1 : decode cX10_countedAt 1 = .ok (.istore_n 3, 1) := by decide +kernel
theorem dX10_countedAt_2 : decode cX10_countedAt 2 = .ok (.iload_n 2, 1) := by decide +kernel
theorem dX10_countedAt_3 : decode cX10_countedAt 3 = .ok (.istore 4, 2) := by decide +kernel
theorem dX10_countedAt_5 : decode cX10_countedAt 5 = .ok (.iconst 0, 1) := by decide +kernel
theorem dX10_countedAt_6 : decode cX10_countedAt 6 = .ok (.istore 5, 2) := by decide +kernel
theorem dX10_countedAt_8 : decode cX10_countedAt 8 = .ok (.iload 5, 2) := by decide +kernel
theorem dX10_countedAt_10 : decode cX10_countedAt 10 = .ok (.aload_n 0, 1) := by decide +kernel
theorem dX10_countedAt_11 : decode cX10_countedAt 11 = .ok (.getfield 117, 3) := by decide +kernel
theorem dX10_countedAt_14 : decode cX10_countedAt 14 = .ok (.if_icmp .ge 68, 3) := by decide +kernel
theorem dX10_countedAt_17 : decode cX10_countedAt 17 = .ok (.aload_n 0, 1) := by decide +kernel
theorem dX10_countedAt_18 : decode cX10_countedAt 18 = .ok (.getfield 65, 3) := by decide +kernel
theorem dX10_countedAt_21 : decode cX10_countedAt 21 = .ok (.iload 5, 2) := by decide +kernel
theorem dX10_countedAt_23 : decode cX10_countedAt 23 = .ok (.iaload, 1) := by decide +kernel
theorem dX10_countedAt_24 : decode cX10_countedAt 24 = .ok (.iload_n 1, 1) := by decide +kernel
theorem dX10_countedAt_25 : decode cX10_countedAt 25 = .ok (.if_icmp .ne 16, 3) := by decide +kernel
theorem dX10_countedAt_28 : decode cX10_countedAt 28 = .ok (.aload_n 0, 1) := by decide +kernel
theorem dX10_countedAt_29 : decode cX10_countedAt 29 = .ok (.iload 5, 2) := by decide +kernel
theorem dX10_countedAt_31 : decode cX10_countedAt 31 = .ok (.invokevirtual 120, 3) := by decide +kernel
theorem dX10_countedAt_34 : decode cX10_countedAt 34 = .ok (.ifCond .ne 7, 3) := by decide +kernel
theorem dX10_countedAt_37 : decode cX10_countedAt 37 = .ok (.iconst 1, 1) := by decide +kernel
theorem dX10_countedAt_38 : decode cX10_countedAt 38 = .ok (.goto 4, 3) := by decide +kernel
theorem dX10_countedAt_41 : decode cX10_countedAt 41 = .ok (.iconst 0, 1) := by decide +kernel
theorem dX10_countedAt_42 : decode cX10_countedAt 42 = .ok (.istore 6, 2) := by decide +kernel
theorem dX10_countedAt_44 : decode cX10_countedAt 44 = .ok (.iload 6, 2) := by decide +kernel
theorem dX10_countedAt_46 : decode cX10_countedAt 46 = .ok (.ifCond .eq 13, 3) := by decide +kernel
theorem dX10_countedAt_49 : decode cX10_countedAt 49 = .ok (.iload 4, 2) := by decide +kernel
theorem dX10_countedAt_51 : decode cX10_countedAt 51 = .ok (.ifCond .ne 8, 3) := by decide +kernel
theorem dX10_countedAt_54 : decode cX10_countedAt 54 = .ok (.iload 5, 2) := by decide +kernel
theorem dX10_countedAt_56 : decode cX10_countedAt 56 = .ok (.goto 4, 3) := by decide +kernel
theorem dX10_countedAt_59 : decode cX10_countedAt 59 = .ok (.iload_n 3, 1) := by decide +kernel
theorem dX10_countedAt_60 : decode cX10_countedAt 60 = .ok (.istore_n 3, 1) := by decide +kernel
theorem dX10_countedAt_61 : decode cX10_countedAt 61 = .ok (.iload 4, 2) := by decide +kernel
theorem dX10_countedAt_63 : decode cX10_countedAt 63 = .ok (.iload 6, 2) := by decide +kernel
theorem dX10_countedAt_65 : decode cX10_countedAt 65 = .ok (.ifCond .eq 7, 3) := by decide +kernel
theorem dX10_countedAt_68 : decode cX10_countedAt 68 = .ok (.iconst 1, 1) := by decide +kernel
theorem dX10_countedAt_69 : decode cX10_countedAt 69 = .ok (.goto 4, 3) := by decide +kernel
theorem dX10_countedAt_72 : decode cX10_countedAt 72 = .ok (.iconst 0, 1) := by decide +kernel
theorem dX10_countedAt_73 : decode cX10_countedAt 73 = .ok (.isub, 1) := by decide +kernel
theorem dX10_countedAt_74 : decode cX10_countedAt 74 = .ok (.istore 4, 2) := by decide +kernel
theorem dX10_countedAt_76 : decode cX10_countedAt 76 = .ok (.iinc 5 1, 3) := by decide +kernel
theorem dX10_countedAt_79 : decode cX10_countedAt 79 = .ok (.goto (-71), 3) := by decide +kernel
theorem dX10_countedAt_82 : decode cX10_countedAt 82 = .ok (.iload_n 3, 1) := by decide +kernel
theorem dX10_countedAt_83 : decode cX10_countedAt 83 = .ok (.ireturn, 1) := by decide +kernel
theorem dX10_sample_0 : decode cX10_sample 0 = .ok (.iload_n 1, 1) := by decide +kernel
theorem dX10_sample_1 : decode cX10_sample 1 = .ok (.aload_n 0, 1) := by decide +kernel
theorem dX10_sample_2 : decode cX10_sample 2 = .ok (.getfield 154, 3) := by decide +kernel
theorem dX10_sample_5 : decode cX10_sample 5 = .ok (.invokestatic 106, 3) := by decide +kernel
theorem dX10_sample_8 : decode cX10_sample 8 = .ok (.istore 4, 2) := by decide +kernel
theorem dX10_sample_10 : decode cX10_sample 10 = .ok (.iload_n 2, 1) := by decide +kernel
theorem dX10_sample_11 : decode cX10_sample 11 = .ok (.iconst 0, 1) := by decide +kernel
theorem dX10_sample_12 : decode cX10_sample 12 = .ok (.sipush 9999, 3) := by decide +kernel
theorem dX10_sample_15 : decode cX10_sample 15 = .ok (.invokestatic 102, 3) := by decide +kernel
theorem dX10_sample_18 : decode cX10_sample 18 = .ok (.ifCond .eq 17, 3) := by decide +kernel
theorem dX10_sample_21 : decode cX10_sample 21 = .ok (.iload_n 3, 1) := by decide +kernel
theorem dX10_sample_22 : decode cX10_sample 22 = .ok (.iconst 1, 1) := by decide +kernel
theorem dX10_sample_23 : decode cX10_sample 23 = .ok (.bipush 20, 2) := by decide +kernel
theorem dX10_sample_25 : decode cX10_sample 25 = .ok (.invokestatic 102, 3) := by decide +kernel
theorem dX10_sample_28 : decode cX10_sample 28 = .ok (.ifCond .eq 7, 3) := by decide +kernel
theorem dX10_sample_31 : decode cX10_sample 31 = .ok (.iconst 1, 1) := by decide +kernel
theorem dX10_sample_32 : decode cX10_sample 32 = .ok (.goto 4, 3) := by decide +kernel
theorem dX10_sample_35 : decode cX10_sample 35 = .ok (.iconst 0, 1) := by decide +kernel
theorem dX10_sample_36 : decode cX10_sample 36 = .ok (.istore 5, 2) := by decide +kernel
theorem dX10_sample_38 : decode cX10_sample 38 = .ok (.iload 4, 2) := by decide +kernel
theorem dX10_sample_40 : decode cX10_sample 40 = .ok (.ifCond .eq 11, 3) := by decide +kernel
theorem dX10_sample_43 : decode cX10_sample 43 = .ok (.aload_n 0, 1) := by decide +kernel
theorem dX10_sample_44 : decode cX10_sample 44 = .ok (.iload_n 1, 1) := by decide +kernel
theorem dX10_sample_45 : decode cX10_sample 45 = .ok (.invokevirtual 160, 3) := by decide +kernel
theorem dX10_sample_48 : decode cX10_sample 48 = .ok (.goto 4, 3) := by decide +kernel
theorem dX10_sample_51 : decode cX10_sample 51 = .ok (.iconst 0, 1) := by decide +kernel
theorem dX10_sample_52 : decode cX10_sample 52 = .ok (.istore 6, 2) := by decide +kernel
theorem dX10_sample_54 : decode cX10_sample 54 = .ok (.aload_n 0, 1) := by decide +kernel
theorem dX10_sample_55 : decode cX10_sample 55 = .ok (.iload 4, 2) := by decide +kernel
theorem dX10_sample_57 : decode cX10_sample 57 = .ok (.iload 5, 2) := by decide +kernel
theorem dX10_sample_59 : decode cX10_sample 59 = .ok (.iload 6, 2) := by decide +kernel
theorem dX10_sample_61 : decode cX10_sample 61 = .ok (.ifCond .le 7, 3) := by decide +kernel
theorem dX10_sample_64 : decode cX10_sample 64 = .ok (.iconst 1, 1) := by decide +kernel
theorem dX10_sample_65 : decode cX10_sample 65 = .ok (.goto 4, 3) := by decide +kernel
theorem dX10_sample_68 : decode cX10_sample 68 = .ok (.iconst 0, 1) := by decide +kernel
theorem dX10_sample_69 : decode cX10_sample 69 = .ok (.invokevirtual 113, 3) := by decide +kernel
theorem dX10_sample_72 : decode cX10_sample 72 = .ok (.ifCond .ne 5, 3) := by decide +kernel
theorem dX10_sample_75 : decode cX10_sample 75 = .ok (.iconst 0, 1) := by decide +kernel
theorem dX10_sample_76 : decode cX10_sample 76 = .ok (.ireturn, 1) := by decide +kernel
theorem dX10_sample_77 : decode cX10_sample 77 = .ok (.iload_n 2, 1) := by decide +kernel
theorem dX10_sample_78 : decode cX10_sample 78 = .ok (.istore 7, 2) := by decide +kernel
theorem dX10_sample_80 : decode cX10_sample 80 = .ok (.iconst 0, 1) := by decide +kernel
theorem dX10_sample_81 : decode cX10_sample 81 = .ok (.istore 8, 2) := by decide +kernel
theorem dX10_sample_83 : decode cX10_sample 83 = .ok (.iconst 0, 1) := by decide +kernel
theorem dX10_sample_84 : decode cX10_sample 84 = .ok (.istore 9, 2) := by decide +kernel
theorem dX10_sample_86 : decode cX10_sample 86 = .ok (.iload 9, 2) := by decide +kernel
theorem dX10_sample_88 : decode cX10_sample 88 = .ok (.iload_n 3, 1) := by decide +kernel
theorem dX10_sample_89 : decode cX10_sample 89 = .ok (.if_icmp .ge 64, 3) := by decide +kernel
theorem dX10_sample_92 : decode cX10_sample 92 = .ok (.sipush 1103, 3) := by decide +kernel
theorem dX10_sample_95 : decode cX10_sample 95 = .ok (.iload 7, 2) := by decide +kernel
theorem dX10_sample_97 : decode cX10_sample 97 = .ok (.imul, 1) := by decide +kernel
theorem dX10_sample_98 : decode cX10_sample 98 = .ok (.sipush 12345, 3) := by decide +kernel
theorem dX10_sample_101 : decode cX10_sample 101 = .ok (.iadd, 1) := by decide +kernel
theorem dX10_sample_102 : decode cX10_sample 102 = .ok (.ldc 170, 2) := by decide +kernel
theorem dX10_sample_104 : decode cX10_sample 104 = .ok (.irem, 1) := by decide +kernel
theorem dX10_sample_105 : decode cX10_sample 105 = .ok (.istore 7, 2) := by decide +kernel
theorem dX10_sample_107 : decode cX10_sample 107 = .ok (.aload_n 0, 1) := by decide +kernel
theorem dX10_sample_108 : decode cX10_sample 108 = .ok (.iload_n 1, 1) := by decide +kernel
theorem dX10_sample_109 : decode cX10_sample 109 = .ok (.iload 7, 2) := by decide +kernel
theorem dX10_sample_111 : decode cX10_sample 111 = .ok (.iload 6, 2) := by decide +kernel
theorem dX10_sample_113 : decode cX10_sample 113 = .ok (.irem, 1) := by decide +kernel
theorem dX10_sample_114 : decode cX10_sample 114 = .ok (.invokevirtual 171, 3) := by decide +kernel
theorem dX10_sample_117 : decode cX10_sample 117 = .ok (.istore 10, 2) := by decide +kernel
theorem dX10_sample_119 : decode cX10_sample 119 = .ok (.iload 8, 2) := by decide +kernel
theorem dX10_sample_121 : decode cX10_sample 121 = .ok (.aload_n 0, 1) := by decide +kernel
theorem dX10_sample_122 : decode cX10_sample 122 = .ok (.getfield 74, 3) := by decide +kernel
theorem dX10_sample_125 : decode cX10_sample 125 = .ok (.iload 10, 2) := by decide +kernel
theorem dX10_sample_127 : decode cX10_sample 127 = .ok (.baload, 1) := by decide +kernel
theorem dX10_sample_128 : decode cX10_sample 128 = .ok (.ifCond .eq 7, 3) := by decide +kernel
theorem dX10_sample_131 : decode cX10_sample 131 = .ok (.iconst 1, 1) := by decide +kernel
theorem dX10_sample_132 : decode cX10_sample 132 = .ok (.goto 4, 3) := by decide +kernel
theorem dX10_sample_135 : decode cX10_sample 135 = .ok (.iconst 0, 1) := by decide +kernel
theorem dX10_sample_136 : decode cX10_sample 136 = .ok (.iadd, 1) := by decide +kernel
theorem dX10_sample_137 : decode cX10_sample 137 = .ok (.istore 8, 2) := by decide +kernel
theorem dX10_sample_139 : decode cX10_sample 139 = .ok (.aload_n 0, 1) := by decide +kernel
theorem dX10_sample_140 : decode cX10_sample 140 = .ok (.getfield 74, 3) := by decide +kernel
theorem dX10_sample_143 : decode cX10_sample 143 = .ok (.iload 10, 2) := by decide +kernel
theorem dX10_sample_145 : decode cX10_sample 145 = .ok (.iconst 0, 1) := by decide +kernel
theorem dX10_sample_146 : decode cX10_sample 146 = .ok (.bastore, 1) := by decide +kernel
theorem dX10_sample_147 : decode cX10_sample 147 = .ok (.iinc 9 1, 3) := by decide +kernel
theorem dX10_sample_150 : decode cX10_sample 150 = .ok (.goto (-64), 3) := by decide +kernel
theorem dX10_sample_153 : decode cX10_sample 153 = .ok (.aload_n 0, 1) := by decide +kernel
theorem dX10_sample_154 : decode cX10_sample 154 = .ok (.getfield 53, 3) := by decide +kernel
theorem dX10_sample_157 : decode cX10_sample 157 = .ok (.iload_n 1, 1) := by decide +kernel
theorem dX10_sample_158 : decode cX10_sample 158 = .ok (.dup2, 1) := by decide +kernel
theorem dX10_sample_159 : decode cX10_sample 159 = .ok (.iaload, 1) := by decide +kernel
theorem dX10_sample_160 : decode cX10_sample 160 = .ok (.iload_n 3, 1) := by decide +kernel
theorem dX10_sample_161 : decode cX10_sample 161 = .ok (.iadd, 1) := by decide +kernel
theorem dX10_sample_162 : decode cX10_sample 162 = .ok (.iastore, 1) := by decide +kernel
theorem dX10_sample_163 : decode cX10_sample 163 = .ok (.aload_n 0, 1) := by decide +kernel
theorem dX10_sample_164 : decode cX10_sample 164 = .ok (.getfield 56, 3) := by decide +kernel
theorem dX10_sample_167 : decode cX10_sample 167 = .ok (.iload_n 1, 1) := by decide +kernel
theorem dX10_sample_168 : decode cX10_sample 168 = .ok (.dup2, 1) := by decide +kernel
theorem dX10_sample_169 : decode cX10_sample 169 = .ok (.iaload, 1) := by decide +kernel
theorem dX10_sample_170 : decode cX10_sample 170 = .ok (.iload 8, 2) := by decide +kernel
theorem dX10_sample_172 : decode cX10_sample 172 = .ok (.iadd, 1) := by decide +kernel
theorem dX10_sample_173 : decode cX10_sample 173 = .ok (.iastore, 1) := by decide +kernel
theorem dX10_sample_174 : decode cX10_sample 174 = .ok (.iload 8, 2) := by decide +kernel
theorem dX10_sample_176 : decode cX10_sample 176 = .ok (.ireturn, 1) := by decide +kernel
theorem dX10_recount_0 : decode cX10_recount 0 = .ok (.aload_n 0, 1) := by decide +kernel
theorem dX10_recount_1 : decode cX10_recount 1 = .ok (.iload_n 1, 1) := by decide +kernel
theorem dX10_recount_2 : decode cX10_recount 2 = .ok (.aload_n 0, 1) := by decide +kernel
theorem dX10_recount_3 : decode cX10_recount 3 = .ok (.getfield 154, 3) := by decide +kernel
theorem dX10_recount_6 : decode cX10_recount 6 = .ok (.invokestatic 106, 3) := by decide +kernel
theorem dX10_recount_9 : decode cX10_recount 9 = .ok (.iconst 1, 1) := by decide +kernel
theorem dX10_recount_10 : decode cX10_recount 10 = .ok (.iconst 1, 1) := by decide +kernel
theorem dX10_recount_11 : decode cX10_recount 11 = .ok (.invokevirtual 113, 3) := by decide +kernel
theorem dX10_recount_14 : decode cX10_recount 14 = .ok (.ifCond .ne 5, 3) := by decide +kernel
theorem dX10_recount_17 : decode cX10_recount 17 = .ok (.iconst 0, 1) := by decide +kernel
theorem dX10_recount_18 : decode cX10_recount 18 = .ok (.ireturn, 1) := by decide +kernel
theorem dX10_recount_19 : decode cX10_recount 19 = .ok (.iconst 0, 1) := by decide +kernel
theorem dX10_recount_20 : decode cX10_recount 20 = .ok (.istore_n 2, 1) := by decide +kernel
theorem dX10_recount_21 : decode cX10_recount 21 = .ok (.iconst 0, 1) := by decide +kernel
theorem dX10_recount_22 : decode cX10_recount 22 = .ok (.istore_n 3, 1) := by decide +kernel
theorem dX10_recount_23 : decode cX10_recount 23 = .ok (.iload_n 3, 1) := by decide +kernel
theorem dX10_recount_24 : decode cX10_recount 24 = .ok (.aload_n 0, 1) := by decide +kernel
theorem dX10_recount_25 : decode cX10_recount 25 = .ok (.getfield 117, 3) := by decide +kernel
theorem dX10_recount_28 : decode cX10_recount 28 = .ok (.if_icmp .ge 66, 3) := by decide +kernel
theorem dX10_recount_31 : decode cX10_recount 31 = .ok (.iload_n 2, 1) := by decide +kernel
theorem dX10_recount_32 : decode cX10_recount 32 = .ok (.aload_n 0, 1) := by decide +kernel
theorem dX10_recount_33 : decode cX10_recount 33 = .ok (.getfield 65, 3) := by decide +kernel
theorem dX10_recount_36 : decode cX10_recount 36 = .ok (.iload_n 3, 1) := by decide +kernel
theorem dX10_recount_37 : decode cX10_recount 37 = .ok (.iaload, 1) := by decide +kernel
theorem dX10_recount_38 : decode cX10_recount 38 = .ok (.iload_n 1, 1) := by decide +kernel
theorem dX10_recount_39 : decode cX10_recount 39 = .ok (.if_icmp .ne 16, 3) := by decide +kernel
theorem dX10_recount_42 : decode cX10_recount 42 = .ok (.aload_n 0, 1) := by decide +kernel
theorem dX10_recount_43 : decode cX10_recount 43 = .ok (.getfield 74, 3) := by decide +kernel
theorem dX10_recount_46 : decode cX10_recount 46 = .ok (.iload_n 3, 1) := by decide +kernel
theorem dX10_recount_47 : decode cX10_recount 47 = .ok (.baload, 1) := by decide +kernel
theorem dX10_recount_48 : decode cX10_recount 48 = .ok (.ifCond .eq 7, 3) := by decide +kernel
theorem dX10_recount_51 : decode cX10_recount 51 = .ok (.iconst 1, 1) := by decide +kernel
theorem dX10_recount_52 : decode cX10_recount 52 = .ok (.goto 4, 3) := by decide +kernel
theorem dX10_recount_55 : decode cX10_recount 55 = .ok (.iconst 0, 1) := by decide +kernel
theorem dX10_recount_56 : decode cX10_recount 56 = .ok (.iadd, 1) := by decide +kernel
theorem dX10_recount_57 : decode cX10_recount 57 = .ok (.istore_n 2, 1) := by decide +kernel
theorem dX10_recount_58 : decode cX10_recount 58 = .ok (.aload_n 0, 1) := by decide +kernel
theorem dX10_recount_59 : decode cX10_recount 59 = .ok (.getfield 74, 3) := by decide +kernel
theorem dX10_recount_62 : decode cX10_recount 62 = .ok (.iload_n 3, 1) := by decide +kernel
theorem dX10_recount_63 : decode cX10_recount 63 = .ok (.aload_n 0, 1) := by decide +kernel
theorem dX10_recount_64 : decode cX10_recount 64 = .ok (.getfield 74, 3) := by decide +kernel
theorem dX10_recount_67 : decode cX10_recount 67 = .ok (.iload_n 3, 1) := by decide +kernel
theorem dX10_recount_68 : decode cX10_recount 68 = .ok (.baload, 1) := by decide +kernel
theorem dX10_recount_69 : decode cX10_recount 69 = .ok (.ifCond .eq 17, 3) := by decide +kernel
theorem dX10_recount_72 : decode cX10_recount 72 = .ok (.aload_n 0, 1) := by decide +kernel
theorem dX10_recount_73 : decode cX10_recount 73 = .ok (.getfield 65, 3) := by decide +kernel
theorem dX10_recount_76 : decode cX10_recount 76 = .ok (.iload_n 3, 1) := by decide +kernel
theorem dX10_recount_77 : decode cX10_recount 77 = .ok (.iaload, 1) := by decide +kernel
theorem dX10_recount_78 : decode cX10_recount 78 = .ok (.iload_n 1, 1) := by decide +kernel
theorem dX10_recount_79 : decode cX10_recount 79 = .ok (.if_icmp .eq 7, 3) := by decide +kernel
theorem dX10_recount_82 : decode cX10_recount 82 = .ok (.iconst 1, 1) := by decide +kernel
theorem dX10_recount_83 : decode cX10_recount 83 = .ok (.goto 4, 3) := by decide +kernel
theorem dX10_recount_86 : decode cX10_recount 86 = .ok (.iconst 0, 1) := by decide +kernel
theorem dX10_recount_87 : decode cX10_recount 87 = .ok (.bastore, 1) := by decide +kernel
theorem dX10_recount_88 : decode cX10_recount 88 = .ok (.iinc 3 1, 3) := by decide +kernel
theorem dX10_recount_91 : decode cX10_recount 91 = .ok (.goto (-68), 3) := by decide +kernel
theorem dX10_recount_94 : decode cX10_recount 94 = .ok (.iload_n 2, 1) := by decide +kernel
theorem dX10_recount_95 : decode cX10_recount 95 = .ok (.ireturn, 1) := by decide +kernel
theorem dX10_doubt_0 : decode cX10_doubt 0 = .ok (.aload_n 0, 1) := by decide +kernel
theorem dX10_doubt_1 : decode cX10_doubt 1 = .ok (.iload_n 1, 1) := by decide +kernel
theorem dX10_doubt_2 : decode cX10_doubt 2 = .ok (.aload_n 0, 1) := by decide +kernel
theorem dX10_doubt_3 : decode cX10_doubt 3 = .ok (.getfield 154, 3) := by decide +kernel
theorem dX10_doubt_6 : decode cX10_doubt 6 = .ok (.invokestatic 106, 3) := by decide +kernel
theorem dX10_doubt_9 : decode cX10_doubt 9 = .ok (.iconst 1, 1) := by decide +kernel
theorem dX10_doubt_10 : decode cX10_doubt 10 = .ok (.iconst 1, 1) := by decide +kernel
theorem dX10_doubt_11 : decode cX10_doubt 11 = .ok (.invokevirtual 113, 3) := by decide +kernel
theorem dX10_doubt_14 : decode cX10_doubt 14 = .ok (.ifCond .ne 5, 3) := by decide +kernel
theorem dX10_doubt_17 : decode cX10_doubt 17 = .ok (.iconst 0, 1) := by decide +kernel
theorem dX10_doubt_18 : decode cX10_doubt 18 = .ok (.ireturn, 1) := by decide +kernel
theorem dX10_doubt_19 : decode cX10_doubt 19 = .ok (.aload_n 0, 1) := by decide +kernel
theorem dX10_doubt_20 : decode cX10_doubt 20 = .ok (.getfield 53, 3) := by decide +kernel
theorem dX10_doubt_23 : decode cX10_doubt 23 = .ok (.iload_n 1, 1) := by decide +kernel
theorem dX10_doubt_24 : decode cX10_doubt 24 = .ok (.iaload, 1) := by decide +kernel
theorem dX10_doubt_25 : decode cX10_doubt 25 = .ok (.ifCond .ne 7, 3) := by decide +kernel
theorem dX10_doubt_28 : decode cX10_doubt 28 = .ok (.iconst 0, 1) := by decide +kernel
theorem dX10_doubt_29 : decode cX10_doubt 29 = .ok (.goto 19, 3) := by decide +kernel
theorem dX10_doubt_32 : decode cX10_doubt 32 = .ok (.bipush 100, 2) := by decide +kernel
theorem dX10_doubt_34 : decode cX10_doubt 34 = .ok (.aload_n 0, 1) := by decide +kernel
theorem dX10_doubt_35 : decode cX10_doubt 35 = .ok (.getfield 56, 3) := by decide +kernel
theorem dX10_doubt_38 : decode cX10_doubt 38 = .ok (.iload_n 1, 1) := by decide +kernel
theorem dX10_doubt_39 : decode cX10_doubt 39 = .ok (.iaload, 1) := by decide +kernel
theorem dX10_doubt_40 : decode cX10_doubt 40 = .ok (.imul, 1) := by decide +kernel
theorem dX10_doubt_41 : decode cX10_doubt 41 = .ok (.aload_n 0, 1) := by decide +kernel
theorem dX10_doubt_42 : decode cX10_doubt 42 = .ok (.getfield 53, 3) := by decide +kernel
theorem dX10_doubt_45 : decode cX10_doubt 45 = .ok (.iload_n 1, 1) := by decide +kernel
theorem dX10_doubt_46 : decode cX10_doubt 46 = .ok (.iaload, 1) := by decide +kernel
theorem dX10_doubt_47 : decode cX10_doubt 47 = .ok (.idiv, 1) := by decide +kernel
theorem dX10_doubt_48 : decode cX10_doubt 48 = .ok (.ireturn, 1) := by decide +kernel
theorem dX10_winners_0 : decode cX10_winners 0 = .ok (.aload_n 0, 1) := by decide +kernel
theorem dX10_winners_1 : decode cX10_winners 1 = .ok (.iload_n 1, 1) := by decide +kernel
theorem dX10_winners_2 : decode cX10_winners 2 = .ok (.aload_n 0, 1) := by decide +kernel
theorem dX10_winners_3 : decode cX10_winners 3 = .ok (.getfield 154, 3) := by decide +kernel
theorem dX10_winners_6 : decode cX10_winners 6 = .ok (.invokestatic 106, 3) := by decide +kernel
theorem dX10_winners_9 : decode cX10_winners 9 = .ok (.iconst 1, 1) := by decide +kernel
theorem dX10_winners_10 : decode cX10_winners 10 = .ok (.iconst 1, 1) := by decide +kernel
theorem dX10_winners_11 : decode cX10_winners 11 = .ok (.invokevirtual 113, 3) := by decide +kernel
theorem dX10_winners_14 : decode cX10_winners 14 = .ok (.ifCond .eq 11, 3) := by decide +kernel
theorem dX10_winners_17 : decode cX10_winners 17 = .ok (.aload_n 0, 1) := by decide +kernel
theorem dX10_winners_18 : decode cX10_winners 18 = .ok (.iload_n 1, 1) := by decide +kernel
theorem dX10_winners_19 : decode cX10_winners 19 = .ok (.invokevirtual 157, 3) := by decide +kernel
theorem dX10_winners_22 : decode cX10_winners 22 = .ok (.goto 4, 3) := by decide +kernel
theorem dX10_winners_25 : decode cX10_winners 25 = .ok (.iconst 0, 1) := by decide +kernel
theorem dX10_winners_26 : decode cX10_winners 26 = .ok (.ireturn, 1) := by decide +kernel
theorem dX10_winnersByHand_0 : decode cX10_winnersByHand 0 = .ok (.aload_n 0, 1) := by decide +kernel
theorem dX10_winnersByHand_1 : decode cX10_winnersByHand 1 = .ok (.iload_n 1, 1) := by decide +kernel
theorem dX10_winnersByHand_2 : decode cX10_winnersByHand 2 = .ok (.invokevirtual 233, 3) := by decide +kernel
theorem dX10_winnersByHand_5 : decode cX10_winnersByHand 5 = .ok (.ireturn, 1) := by decide +kernel
theorem dX10_tallies_0 : decode cX10_tallies 0 = .ok (.aload_n 0, 1) := by decide +kernel
theorem dX10_tallies_1 : decode cX10_tallies 1 = .ok (.iload_n 1, 1) := by decide +kernel
theorem dX10_tallies_2 : decode cX10_tallies 2 = .ok (.aload_n 0, 1) := by decide +kernel
theorem dX10_tallies_3 : decode cX10_tallies 3 = .ok (.getfield 154, 3) := by decide +kernel
theorem dX10_tallies_6 : decode cX10_tallies 6 = .ok (.invokestatic 106, 3) := by decide +kernel
theorem dX10_tallies_9 : decode cX10_tallies 9 = .ok (.iconst 1, 1) := by decide +kernel
theorem dX10_tallies_10 : decode cX10_tallies 10 = .ok (.iconst 1, 1) := by decide +kernel
theorem dX10_tallies_11 : decode cX10_tallies 11 = .ok (.invokevirtual 113, 3) := by decide +kernel
theorem dX10_tallies_14 : decode cX10_tallies 14 = .ok (.ifCond .ne 5, 3) := by decide +kernel
theorem dX10_tallies_17 : decode cX10_tallies 17 = .ok (.iconst 0, 1) := by decide +kernel
theorem dX10_tallies_18 : decode cX10_tallies 18 = .ok (.ireturn, 1) := by decide +kernel
theorem dX10_tallies_19 : decode cX10_tallies 19 = .ok (.aload_n 0, 1) := by decide +kernel
theorem dX10_tallies_20 : decode cX10_tallies 20 = .ok (.iload_n 1, 1) := by decide +kernel
theorem dX10_tallies_21 : decode cX10_tallies 21 = .ok (.invokevirtual 157, 3) := by decide +kernel
theorem dX10_tallies_24 : decode cX10_tallies 24 = .ok (.pop, 1) := by decide +kernel
theorem dX10_tallies_25 : decode cX10_tallies 25 = .ok (.aload_n 0, 1) := by decide +kernel
theorem dX10_tallies_26 : decode cX10_tallies 26 = .ok (.getfield 174, 3) := by decide +kernel
theorem dX10_tallies_29 : decode cX10_tallies 29 = .ok (.ireturn, 1) := by decide +kernel
theorem dX10_ties_0 : decode cX10_ties 0 = .ok (.aload_n 0, 1) := by decide +kernel
theorem dX10_ties_1 : decode cX10_ties 1 = .ok (.iload_n 1, 1) := by decide +kernel
theorem dX10_ties_2 : decode cX10_ties 2 = .ok (.aload_n 0, 1) := by decide +kernel
theorem dX10_ties_3 : decode cX10_ties 3 = .ok (.getfield 154, 3) := by decide +kernel
theorem dX10_ties_6 : decode cX10_ties 6 = .ok (.invokestatic 106, 3) := by decide +kernel
theorem dX10_ties_9 : decode cX10_ties 9 = .ok (.iconst 1, 1) := by decide +kernel
theorem dX10_ties_10 : decode cX10_ties 10 = .ok (.iconst 1, 1) := by decide +kernel
theorem dX10_ties_11 : decode cX10_ties 11 = .ok (.invokevirtual 113, 3) := by decide +kernel
theorem dX10_ties_14 : decode cX10_ties 14 = .ok (.ifCond .ne 5, 3) := by decide +kernel
theorem dX10_ties_17 : decode cX10_ties 17 = .ok (.iconst 0, 1) := by decide +kernel
theorem dX10_ties_18 : decode cX10_ties 18 = .ok (.ireturn, 1) := by decide +kernel
theorem dX10_ties_19 : decode cX10_ties 19 = .ok (.aload_n 0, 1) := by decide +kernel
theorem dX10_ties_20 : decode cX10_ties 20 = .ok (.iload_n 1, 1) := by decide +kernel
theorem dX10_ties_21 : decode cX10_ties 21 = .ok (.invokevirtual 157, 3) := by decide +kernel
theorem dX10_ties_24 : decode cX10_ties 24 = .ok (.pop, 1) := by decide +kernel
theorem dX10_ties_25 : decode cX10_ties 25 = .ok (.aload_n 0, 1) := by decide +kernel
theorem dX10_ties_26 : decode cX10_ties 26 = .ok (.getfield 196, 3) := by decide +kernel
theorem dX10_ties_29 : decode cX10_ties 29 = .ok (.ireturn, 1) := by decide +kernel
theorem dX10_votes_0 : decode cX10_votes 0 = .ok (.iload_n 1, 1) := by decide +kernel
theorem dX10_votes_1 : decode cX10_votes 1 = .ok (.aload_n 0, 1) := by decide +kernel
theorem dX10_votes_2 : decode cX10_votes 2 = .ok (.getfield 154, 3) := by decide +kernel
theorem dX10_votes_5 : decode cX10_votes 5 = .ok (.invokestatic 106, 3) := by decide +kernel
theorem dX10_votes_8 : decode cX10_votes 8 = .ok (.istore 4, 2) := by decide +kernel
theorem dX10_votes_10 : decode cX10_votes 10 = .ok (.iload 4, 2) := by decide +kernel
theorem dX10_votes_12 : decode cX10_votes 12 = .ok (.ifCond .eq 11, 3) := by decide +kernel
theorem dX10_votes_15 : decode cX10_votes 15 = .ok (.aload_n 0, 1) := by decide +kernel
theorem dX10_votes_16 : decode cX10_votes 16 = .ok (.iload_n 1, 1) := by decide +kernel
theorem dX10_votes_17 : decode cX10_votes 17 = .ok (.invokevirtual 157, 3) := by decide +kernel
theorem dX10_votes_20 : decode cX10_votes 20 = .ok (.goto 4, 3) := by decide +kernel
theorem dX10_votes_23 : decode cX10_votes 23 = .ok (.iconst 0, 1) := by decide +kernel
theorem dX10_votes_24 : decode cX10_votes 24 = .ok (.istore 5, 2) := by decide +kernel
theorem dX10_votes_26 : decode cX10_votes 26 = .ok (.iload 4, 2) := by decide +kernel
theorem dX10_votes_28 : decode cX10_votes 28 = .ok (.ifCond .eq 36, 3) := by decide +kernel
theorem dX10_votes_31 : decode cX10_votes 31 = .ok (.iload 5, 2) := by decide +kernel
theorem dX10_votes_33 : decode cX10_votes 33 = .ok (.ifCond .lt 31, 3) := by decide +kernel
theorem dX10_votes_36 : decode cX10_votes 36 = .ok (.iload_n 2, 1) := by decide +kernel
theorem dX10_votes_37 : decode cX10_votes 37 = .ok (.aload_n 0, 1) := by decide +kernel
theorem dX10_votes_38 : decode cX10_votes 38 = .ok (.getfield 174, 3) := by decide +kernel
theorem dX10_votes_41 : decode cX10_votes 41 = .ok (.invokestatic 106, 3) := by decide +kernel
theorem dX10_votes_44 : decode cX10_votes 44 = .ok (.ifCond .eq 20, 3) := by decide +kernel
theorem dX10_votes_47 : decode cX10_votes 47 = .ok (.iload_n 3, 1) := by decide +kernel
theorem dX10_votes_48 : decode cX10_votes 48 = .ok (.aload_n 0, 1) := by decide +kernel
theorem dX10_votes_49 : decode cX10_votes 49 = .ok (.getfield 38, 3) := by decide +kernel
theorem dX10_votes_52 : decode cX10_votes 52 = .ok (.iload_n 1, 1) := by decide +kernel
theorem dX10_votes_53 : decode cX10_votes 53 = .ok (.iaload, 1) := by decide +kernel
theorem dX10_votes_54 : decode cX10_votes 54 = .ok (.invokestatic 106, 3) := by decide +kernel
theorem dX10_votes_57 : decode cX10_votes 57 = .ok (.ifCond .eq 7, 3) := by decide +kernel
theorem dX10_votes_60 : decode cX10_votes 60 = .ok (.iconst 1, 1) := by decide +kernel
theorem dX10_votes_61 : decode cX10_votes 61 = .ok (.goto 4, 3) := by decide +kernel
theorem dX10_votes_64 : decode cX10_votes 64 = .ok (.iconst 0, 1) := by decide +kernel
theorem dX10_votes_65 : decode cX10_votes 65 = .ok (.istore 6, 2) := by decide +kernel
theorem dX10_votes_67 : decode cX10_votes 67 = .ok (.aload_n 0, 1) := by decide +kernel
theorem dX10_votes_68 : decode cX10_votes 68 = .ok (.iload 6, 2) := by decide +kernel
theorem dX10_votes_70 : decode cX10_votes 70 = .ok (.iconst 1, 1) := by decide +kernel
theorem dX10_votes_71 : decode cX10_votes 71 = .ok (.iconst 1, 1) := by decide +kernel
theorem dX10_votes_72 : decode cX10_votes 72 = .ok (.invokevirtual 113, 3) := by decide +kernel
theorem dX10_votes_75 : decode cX10_votes 75 = .ok (.ifCond .eq 12, 3) := by decide +kernel
theorem dX10_votes_78 : decode cX10_votes 78 = .ok (.aload_n 0, 1) := by decide +kernel
theorem dX10_votes_79 : decode cX10_votes 79 = .ok (.iload_n 2, 1) := by decide +kernel
theorem dX10_votes_80 : decode cX10_votes 80 = .ok (.iload_n 3, 1) := by decide +kernel
theorem dX10_votes_81 : decode cX10_votes 81 = .ok (.invokevirtual 189, 3) := by decide +kernel
theorem dX10_votes_84 : decode cX10_votes 84 = .ok (.goto 4, 3) := by decide +kernel
theorem dX10_votes_87 : decode cX10_votes 87 = .ok (.iconst 0, 1) := by decide +kernel
theorem dX10_votes_88 : decode cX10_votes 88 = .ok (.ireturn, 1) := by decide +kernel
theorem dX10_tied_0 : decode cX10_tied 0 = .ok (.iload_n 1, 1) := by decide +kernel
theorem dX10_tied_1 : decode cX10_tied 1 = .ok (.aload_n 0, 1) := by decide +kernel
theorem dX10_tied_2 : decode cX10_tied 2 = .ok (.getfield 154, 3) := by decide +kernel
theorem dX10_tied_5 : decode cX10_tied 5 = .ok (.invokestatic 106, 3) := by decide +kernel
theorem dX10_tied_8 : decode cX10_tied 8 = .ok (.istore_n 3, 1) := by decide +kernel
theorem dX10_tied_9 : decode cX10_tied 9 = .ok (.iload_n 3, 1) := by decide +kernel
theorem dX10_tied_10 : decode cX10_tied 10 = .ok (.ifCond .eq 11, 3) := by decide +kernel
theorem dX10_tied_13 : decode cX10_tied 13 = .ok (.aload_n 0, 1) := by decide +kernel
theorem dX10_tied_14 : decode cX10_tied 14 = .ok (.iload_n 1, 1) := by decide +kernel
theorem dX10_tied_15 : decode cX10_tied 15 = .ok (.invokevirtual 157, 3) := by decide +kernel
theorem dX10_tied_18 : decode cX10_tied 18 = .ok (.goto 4, 3) := by decide +kernel
theorem dX10_tied_21 : decode cX10_tied 21 = .ok (.iconst 0, 1) := by decide +kernel
theorem dX10_tied_22 : decode cX10_tied 22 = .ok (.istore 4, 2) := by decide +kernel
theorem dX10_tied_24 : decode cX10_tied 24 = .ok (.aload_n 0, 1) := by decide +kernel
theorem dX10_tied_25 : decode cX10_tied 25 = .ok (.iload_n 3, 1) := by decide +kernel
theorem dX10_tied_26 : decode cX10_tied 26 = .ok (.ifCond .eq 23, 3) := by decide +kernel
theorem dX10_tied_29 : decode cX10_tied 29 = .ok (.iload 4, 2) := by decide +kernel
theorem dX10_tied_31 : decode cX10_tied 31 = .ok (.ifCond .lt 18, 3) := by decide +kernel
theorem dX10_tied_34 : decode cX10_tied 34 = .ok (.iload_n 2, 1) := by decide +kernel
theorem dX10_tied_35 : decode cX10_tied 35 = .ok (.aload_n 0, 1) := by decide +kernel
theorem dX10_tied_36 : decode cX10_tied 36 = .ok (.getfield 196, 3) := by decide +kernel
theorem dX10_tied_39 : decode cX10_tied 39 = .ok (.invokestatic 106, 3) := by decide +kernel
theorem dX10_tied_42 : decode cX10_tied 42 = .ok (.ifCond .eq 7, 3) := by decide +kernel
theorem dX10_tied_45 : decode cX10_tied 45 = .ok (.iconst 1, 1) := by decide +kernel
theorem dX10_tied_46 : decode cX10_tied 46 = .ok (.goto 4, 3) := by decide +kernel
theorem dX10_tied_49 : decode cX10_tied 49 = .ok (.iconst 0, 1) := by decide +kernel
theorem dX10_tied_50 : decode cX10_tied 50 = .ok (.iconst 1, 1) := by decide +kernel
theorem dX10_tied_51 : decode cX10_tied 51 = .ok (.iconst 1, 1) := by decide +kernel
theorem dX10_tied_52 : decode cX10_tied 52 = .ok (.invokevirtual 113, 3) := by decide +kernel
theorem dX10_tied_55 : decode cX10_tied 55 = .ok (.ifCond .eq 12, 3) := by decide +kernel
theorem dX10_tied_58 : decode cX10_tied 58 = .ok (.aload_n 0, 1) := by decide +kernel
theorem dX10_tied_59 : decode cX10_tied 59 = .ok (.getfield 86, 3) := by decide +kernel
theorem dX10_tied_62 : decode cX10_tied 62 = .ok (.iload_n 2, 1) := by decide +kernel
theorem dX10_tied_63 : decode cX10_tied 63 = .ok (.iaload, 1) := by decide +kernel
theorem dX10_tied_64 : decode cX10_tied 64 = .ok (.goto 4, 3) := by decide +kernel
theorem dX10_tied_67 : decode cX10_tied 67 = .ok (.iconst 0, 1) := by decide +kernel
theorem dX10_tied_68 : decode cX10_tied 68 = .ok (.ireturn, 1) := by decide +kernel
theorem dX10_certify_0 : decode cX10_certify 0 = .ok (.iload_n 1, 1) := by decide +kernel
theorem dX10_certify_1 : decode cX10_certify 1 = .ok (.aload_n 0, 1) := by decide +kernel
theorem dX10_certify_2 : decode cX10_certify 2 = .ok (.getfield 154, 3) := by decide +kernel
theorem dX10_certify_5 : decode cX10_certify 5 = .ok (.invokestatic 106, 3) := by decide +kernel
theorem dX10_certify_8 : decode cX10_certify 8 = .ok (.istore_n 2, 1) := by decide +kernel
theorem dX10_certify_9 : decode cX10_certify 9 = .ok (.aload_n 0, 1) := by decide +kernel
theorem dX10_certify_10 : decode cX10_certify 10 = .ok (.iload_n 2, 1) := by decide +kernel
theorem dX10_certify_11 : decode cX10_certify 11 = .ok (.iload_n 2, 1) := by decide +kernel
theorem dX10_certify_12 : decode cX10_certify 12 = .ok (.ifCond .eq 16, 3) := by decide +kernel
theorem dX10_certify_15 : decode cX10_certify 15 = .ok (.aload_n 0, 1) := by decide +kernel
theorem dX10_certify_16 : decode cX10_certify 16 = .ok (.getfield 47, 3) := by decide +kernel
theorem dX10_certify_19 : decode cX10_certify 19 = .ok (.iload_n 1, 1) := by decide +kernel
theorem dX10_certify_20 : decode cX10_certify 20 = .ok (.baload, 1) := by decide +kernel
theorem dX10_certify_21 : decode cX10_certify 21 = .ok (.ifCond .eq 7, 3) := by decide +kernel
theorem dX10_certify_24 : decode cX10_certify 24 = .ok (.iconst 1, 1) := by decide +kernel
theorem dX10_certify_25 : decode cX10_certify 25 = .ok (.goto 4, 3) := by decide +kernel
theorem dX10_certify_28 : decode cX10_certify 28 = .ok (.iconst 0, 1) := by decide +kernel
theorem dX10_certify_29 : decode cX10_certify 29 = .ok (.iconst 1, 1) := by decide +kernel
theorem dX10_certify_30 : decode cX10_certify 30 = .ok (.invokevirtual 113, 3) := by decide +kernel
theorem dX10_certify_33 : decode cX10_certify 33 = .ok (.ifCond .ne 5, 3) := by decide +kernel
theorem dX10_certify_36 : decode cX10_certify 36 = .ok (.iconst 0, 1) := by decide +kernel
theorem dX10_certify_37 : decode cX10_certify 37 = .ok (.ireturn, 1) := by decide +kernel
theorem dX10_certify_38 : decode cX10_certify 38 = .ok (.aload_n 0, 1) := by decide +kernel
theorem dX10_certify_39 : decode cX10_certify 39 = .ok (.getfield 50, 3) := by decide +kernel
theorem dX10_certify_42 : decode cX10_certify 42 = .ok (.iload_n 1, 1) := by decide +kernel
theorem dX10_certify_43 : decode cX10_certify 43 = .ok (.aload_n 0, 1) := by decide +kernel
theorem dX10_certify_44 : decode cX10_certify 44 = .ok (.iload_n 1, 1) := by decide +kernel
theorem dX10_certify_45 : decode cX10_certify 45 = .ok (.invokevirtual 157, 3) := by decide +kernel
theorem dX10_certify_48 : decode cX10_certify 48 = .ok (.iastore, 1) := by decide +kernel
theorem dX10_certify_49 : decode cX10_certify 49 = .ok (.aload_n 0, 1) := by decide +kernel
theorem dX10_certify_50 : decode cX10_certify 50 = .ok (.getfield 50, 3) := by decide +kernel
theorem dX10_certify_53 : decode cX10_certify 53 = .ok (.iload_n 1, 1) := by decide +kernel
theorem dX10_certify_54 : decode cX10_certify 54 = .ok (.iaload, 1) := by decide +kernel
theorem dX10_certify_55 : decode cX10_certify 55 = .ok (.ireturn, 1) := by decide +kernel
theorem dX10_certified_0 : decode cX10_certified 0 = .ok (.aload_n 0, 1) := by decide +kernel
theorem dX10_certified_1 : decode cX10_certified 1 = .ok (.iload_n 1, 1) := by decide +kernel
theorem dX10_certified_2 : decode cX10_certified 2 = .ok (.aload_n 0, 1) := by decide +kernel
theorem dX10_certified_3 : decode cX10_certified 3 = .ok (.getfield 154, 3) := by decide +kernel
theorem dX10_certified_6 : decode cX10_certified 6 = .ok (.invokestatic 106, 3) := by decide +kernel
theorem dX10_certified_9 : decode cX10_certified 9 = .ok (.iconst 1, 1) := by decide +kernel
theorem dX10_certified_10 : decode cX10_certified 10 = .ok (.iconst 1, 1) := by decide +kernel
theorem dX10_certified_11 : decode cX10_certified 11 = .ok (.invokevirtual 113, 3) := by decide +kernel
theorem dX10_certified_14 : decode cX10_certified 14 = .ok (.ifCond .eq 12, 3) := by decide +kernel
theorem dX10_certified_17 : decode cX10_certified 17 = .ok (.aload_n 0, 1) := by decide +kernel
theorem dX10_certified_18 : decode cX10_certified 18 = .ok (.getfield 50, 3) := by decide +kernel
theorem dX10_certified_21 : decode cX10_certified 21 = .ok (.iload_n 1, 1) := by decide +kernel
theorem dX10_certified_22 : decode cX10_certified 22 = .ok (.iaload, 1) := by decide +kernel
theorem dX10_certified_23 : decode cX10_certified 23 = .ok (.goto 4, 3) := by decide +kernel
theorem dX10_certified_26 : decode cX10_certified 26 = .ok (.iconst 0, 1) := by decide +kernel
theorem dX10_certified_27 : decode cX10_certified 27 = .ok (.ireturn, 1) := by decide +kernel
theorem dX10_stale_0 : decode cX10_stale 0 = .ok (.aload_n 0, 1) := by decide +kernel
theorem dX10_stale_1 : decode cX10_stale 1 = .ok (.iconst 0, 1) := by decide +kernel
theorem dX10_stale_2 : decode cX10_stale 2 = .ok (.putfield 98, 3) := by decide +kernel
theorem dX10_stale_5 : decode cX10_stale 5 = .ok (.iconst 0, 1) := by decide +kernel
theorem dX10_stale_6 : decode cX10_stale 6 = .ok (.istore_n 1, 1) := by decide +kernel
theorem dX10_stale_7 : decode cX10_stale 7 = .ok (.iconst 0, 1) := by decide +kernel
theorem dX10_stale_8 : decode cX10_stale 8 = .ok (.istore_n 2, 1) := by decide +kernel
theorem dX10_stale_9 : decode cX10_stale 9 = .ok (.iload_n 2, 1) := by decide +kernel
theorem dX10_stale_10 : decode cX10_stale 10 = .ok (.aload_n 0, 1) := by decide +kernel
theorem dX10_stale_11 : decode cX10_stale 11 = .ok (.getfield 154, 3) := by decide +kernel
theorem dX10_stale_14 : decode cX10_stale 14 = .ok (.if_icmp .ge 40, 3) := by decide +kernel
theorem dX10_stale_17 : decode cX10_stale 17 = .ok (.iload_n 1, 1) := by decide +kernel
theorem dX10_stale_18 : decode cX10_stale 18 = .ok (.aload_n 0, 1) := by decide +kernel
theorem dX10_stale_19 : decode cX10_stale 19 = .ok (.getfield 50, 3) := by decide +kernel
theorem dX10_stale_22 : decode cX10_stale 22 = .ok (.iload_n 2, 1) := by decide +kernel
theorem dX10_stale_23 : decode cX10_stale 23 = .ok (.iaload, 1) := by decide +kernel
theorem dX10_stale_24 : decode cX10_stale 24 = .ok (.ifCond .lt 21, 3) := by decide +kernel
theorem dX10_stale_27 : decode cX10_stale 27 = .ok (.aload_n 0, 1) := by decide +kernel
theorem dX10_stale_28 : decode cX10_stale 28 = .ok (.getfield 50, 3) := by decide +kernel
theorem dX10_stale_31 : decode cX10_stale 31 = .ok (.iload_n 2, 1) := by decide +kernel
theorem dX10_stale_32 : decode cX10_stale 32 = .ok (.iaload, 1) := by decide +kernel
theorem dX10_stale_33 : decode cX10_stale 33 = .ok (.aload_n 0, 1) := by decide +kernel
theorem dX10_stale_34 : decode cX10_stale 34 = .ok (.iload_n 2, 1) := by decide +kernel
theorem dX10_stale_35 : decode cX10_stale 35 = .ok (.invokevirtual 157, 3) := by decide +kernel
theorem dX10_stale_38 : decode cX10_stale 38 = .ok (.if_icmp .eq 7, 3) := by decide +kernel
theorem dX10_stale_41 : decode cX10_stale 41 = .ok (.iconst 1, 1) := by decide +kernel
theorem dX10_stale_42 : decode cX10_stale 42 = .ok (.goto 4, 3) := by decide +kernel
theorem dX10_stale_45 : decode cX10_stale 45 = .ok (.iconst 0, 1) := by decide +kernel
theorem dX10_stale_46 : decode cX10_stale 46 = .ok (.iadd, 1) := by decide +kernel
theorem dX10_stale_47 : decode cX10_stale 47 = .ok (.istore_n 1, 1) := by decide +kernel
theorem dX10_stale_48 : decode cX10_stale 48 = .ok (.iinc 2 1, 3) := by decide +kernel
theorem dX10_stale_51 : decode cX10_stale 51 = .ok (.goto (-42), 3) := by decide +kernel
theorem dX10_stale_54 : decode cX10_stale 54 = .ok (.iload_n 1, 1) := by decide +kernel
theorem dX10_stale_55 : decode cX10_stale 55 = .ok (.ireturn, 1) := by decide +kernel
