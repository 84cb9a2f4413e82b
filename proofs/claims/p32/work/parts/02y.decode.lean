/-! the class's instructions -/
theorem dX9_isWithin_0 : decode cX9_isWithin 0 = .ok (.iload_n 0, 1) := by decide +kernel
theorem dX9_isWithin_1 : decode cX9_isWithin 1 = .ok (.iload_n 1, 1) := by decide +kernel
theorem dX9_isWithin_2 : decode cX9_isWithin 2 = .ok (.if_icmp .lt 12, 3) := by decide +kernel
theorem dX9_isWithin_5 : decode cX9_isWithin 5 = .ok (.iload_n 0, 1) := by decide +kernel
theorem dX9_isWithin_6 : decode cX9_isWithin 6 = .ok (.iload_n 2, 1) := by decide +kernel
theorem dX9_isWithin_7 : decode cX9_isWithin 7 = .ok (.if_icmp .gt 7, 3) := by decide +kernel
theorem dX9_isWithin_10 : decode cX9_isWithin 10 = .ok (.iconst 1, 1) := by decide +kernel
theorem dX9_isWithin_11 : decode cX9_isWithin 11 = .ok (.goto 4, 3) := by decide +kernel
theorem dX9_isWithin_14 : decode cX9_isWithin 14 = .ok (.iconst 0, 1) := by decide +kernel
theorem dX9_isWithin_15 : decode cX9_isWithin 15 = .ok (.ireturn, 1) := by decide +kernel
theorem dX4_add_0 : decode cX4_add 0 = .ok (.aload_n 0, 1) := by decide +kernel
theorem dX4_add_1 : decode cX4_add 1 = .ok (.getfield 28, 3) := by decide +kernel
theorem dX4_add_4 : decode cX4_add 4 = .ok (.bipush 60, 2) := by decide +kernel
theorem dX4_add_6 : decode cX4_add 6 = .ok (.if_icmp .ge 54, 3) := by decide +kernel
theorem dX4_add_9 : decode cX4_add 9 = .ok (.aload_n 0, 1) := by decide +kernel
theorem dX4_add_10 : decode cX4_add 10 = .ok (.getfield 9, 3) := by decide +kernel
theorem dX4_add_13 : decode cX4_add 13 = .ok (.aload_n 0, 1) := by decide +kernel
theorem dX4_add_14 : decode cX4_add 14 = .ok (.getfield 28, 3) := by decide +kernel
theorem dX4_add_17 : decode cX4_add 17 = .ok (.iload_n 1, 1) := by decide +kernel
theorem dX4_add_18 : decode cX4_add 18 = .ok (.iastore, 1) := by decide +kernel
theorem dX4_add_19 : decode cX4_add 19 = .ok (.aload_n 0, 1) := by decide +kernel
theorem dX4_add_20 : decode cX4_add 20 = .ok (.getfield 15, 3) := by decide +kernel
theorem dX4_add_23 : decode cX4_add 23 = .ok (.aload_n 0, 1) := by decide +kernel
theorem dX4_add_24 : decode cX4_add 24 = .ok (.getfield 28, 3) := by decide +kernel
theorem dX4_add_27 : decode cX4_add 27 = .ok (.iload_n 2, 1) := by decide +kernel
theorem dX4_add_28 : decode cX4_add 28 = .ok (.iastore, 1) := by decide +kernel
theorem dX4_add_29 : decode cX4_add 29 = .ok (.aload_n 0, 1) := by decide +kernel
theorem dX4_add_30 : decode cX4_add 30 = .ok (.getfield 18, 3) := by decide +kernel
theorem dX4_add_33 : decode cX4_add 33 = .ok (.aload_n 0, 1) := by decide +kernel
theorem dX4_add_34 : decode cX4_add 34 = .ok (.getfield 28, 3) := by decide +kernel
theorem dX4_add_37 : decode cX4_add 37 = .ok (.iload_n 3, 1) := by decide +kernel
theorem dX4_add_38 : decode cX4_add 38 = .ok (.iastore, 1) := by decide +kernel
theorem dX4_add_39 : decode cX4_add 39 = .ok (.aload_n 0, 1) := by decide +kernel
theorem dX4_add_40 : decode cX4_add 40 = .ok (.getfield 21, 3) := by decide +kernel
theorem dX4_add_43 : decode cX4_add 43 = .ok (.aload_n 0, 1) := by decide +kernel
theorem dX4_add_44 : decode cX4_add 44 = .ok (.getfield 28, 3) := by decide +kernel
theorem dX4_add_47 : decode cX4_add 47 = .ok (.iload 4, 2) := by decide +kernel
theorem dX4_add_49 : decode cX4_add 49 = .ok (.iastore, 1) := by decide +kernel
theorem dX4_add_50 : decode cX4_add 50 = .ok (.aload_n 0, 1) := by decide +kernel
theorem dX4_add_51 : decode cX4_add 51 = .ok (.dup, 1) := by decide +kernel
theorem dX4_add_52 : decode cX4_add 52 = .ok (.getfield 28, 3) := by decide +kernel
theorem dX4_add_55 : decode cX4_add 55 = .ok (.iconst 1, 1) := by decide +kernel
theorem dX4_add_56 : decode cX4_add 56 = .ok (.iadd, 1) := by decide +kernel
theorem dX4_add_57 : decode cX4_add 57 = .ok (.putfield 28, 3) := by decide +kernel
theorem dX4_add_60 : decode cX4_add 60 = .ok (.aload_n 0, 1) := by decide +kernel
theorem dX4_add_61 : decode cX4_add 61 = .ok (.getfield 28, 3) := by decide +kernel
theorem dX4_add_64 : decode cX4_add 64 = .ok (.iconst 1, 1) := by decide +kernel
theorem dX4_add_65 : decode cX4_add 65 = .ok (.isub, 1) := by decide +kernel
theorem dX4_add_66 : decode cX4_add 66 = .ok (.ireturn, 1) := by decide +kernel
theorem dX9_enter_0 : decode cX9_enter 0 = .ok (.iload_n 1, 1) := by decide +kernel
theorem dX9_enter_1 : decode cX9_enter 1 = .ok (.iconst 0, 1) := by decide +kernel
theorem dX9_enter_2 : decode cX9_enter 2 = .ok (.iconst 2, 1) := by decide +kernel
theorem dX9_enter_3 : decode cX9_enter 3 = .ok (.invokestatic 69, 3) := by decide +kernel
theorem dX9_enter_6 : decode cX9_enter 6 = .ok (.ifCond .eq 13, 3) := by decide +kernel
theorem dX9_enter_9 : decode cX9_enter 9 = .ok (.iload_n 2, 1) := by decide +kernel
theorem dX9_enter_10 : decode cX9_enter 10 = .ok (.iconst 0, 1) := by decide +kernel
theorem dX9_enter_11 : decode cX9_enter 11 = .ok (.bipush 19, 2) := by decide +kernel
theorem dX9_enter_13 : decode cX9_enter 13 = .ok (.invokestatic 69, 3) := by decide +kernel
theorem dX9_enter_16 : decode cX9_enter 16 = .ok (.ifCond .ne 13, 3) := by decide +kernel
theorem dX9_enter_19 : decode cX9_enter 19 = .ok (.new 73, 3) := by decide +kernel
theorem dX9_enter_22 : decode cX9_enter 22 = .ok (.dup, 1) := by decide +kernel
theorem dX9_enter_23 : decode cX9_enter 23 = .ok (.ldc 75, 2) := by decide +kernel
theorem dX9_enter_25 : decode cX9_enter 25 = .ok (.invokespecial 77, 3) := by decide +kernel
theorem dX9_enter_28 : decode cX9_enter 28 = .ok (.athrow, 1) := by decide +kernel
theorem dX9_enter_29 : decode cX9_enter 29 = .ok (.iload_n 3, 1) := by decide +kernel
theorem dX9_enter_30 : decode cX9_enter 30 = .ok (.iconst 0, 1) := by decide +kernel
theorem dX9_enter_31 : decode cX9_enter 31 = .ok (.sipush 1000, 3) := by decide +kernel
theorem dX9_enter_34 : decode cX9_enter 34 = .ok (.invokestatic 69, 3) := by decide +kernel
theorem dX9_enter_37 : decode cX9_enter 37 = .ok (.ifCond .eq 15, 3) := by decide +kernel
theorem dX9_enter_40 : decode cX9_enter 40 = .ok (.iload 4, 2) := by decide +kernel
theorem dX9_enter_42 : decode cX9_enter 42 = .ok (.iload_n 3, 1) := by decide +kernel
theorem dX9_enter_43 : decode cX9_enter 43 = .ok (.sipush 1000, 3) := by decide +kernel
theorem dX9_enter_46 : decode cX9_enter 46 = .ok (.invokestatic 69, 3) := by decide +kernel
theorem dX9_enter_49 : decode cX9_enter 49 = .ok (.ifCond .ne 13, 3) := by decide +kernel
theorem dX9_enter_52 : decode cX9_enter 52 = .ok (.new 80, 3) := by decide +kernel
theorem dX9_enter_55 : decode cX9_enter 55 = .ok (.dup, 1) := by decide +kernel
theorem dX9_enter_56 : decode cX9_enter 56 = .ok (.ldc 82, 2) := by decide +kernel
theorem dX9_enter_58 : decode cX9_enter 58 = .ok (.invokespecial 84, 3) := by decide +kernel
theorem dX9_enter_61 : decode cX9_enter 61 = .ok (.athrow, 1) := by decide +kernel
theorem dX9_enter_62 : decode cX9_enter 62 = .ok (.aload_n 0, 1) := by decide +kernel
theorem dX9_enter_63 : decode cX9_enter 63 = .ok (.getfield 10, 3) := by decide +kernel
theorem dX9_enter_66 : decode cX9_enter 66 = .ok (.getfield 85, 3) := by decide +kernel
theorem dX9_enter_69 : decode cX9_enter 69 = .ok (.bipush 60, 2) := by decide +kernel
theorem dX9_enter_71 : decode cX9_enter 71 = .ok (.if_icmp .lt 13, 3) := by decide +kernel
theorem dX9_enter_74 : decode cX9_enter 74 = .ok (.new 89, 3) := by decide +kernel
theorem dX9_enter_77 : decode cX9_enter 77 = .ok (.dup, 1) := by decide +kernel
theorem dX9_enter_78 : decode cX9_enter 78 = .ok (.ldc 91, 2) := by decide +kernel
theorem dX9_enter_80 : decode cX9_enter 80 = .ok (.invokespecial 93, 3) := by decide +kernel
theorem dX9_enter_83 : decode cX9_enter 83 = .ok (.athrow, 1) := by decide +kernel
theorem dX9_enter_84 : decode cX9_enter 84 = .ok (.aload_n 0, 1) := by decide +kernel
theorem dX9_enter_85 : decode cX9_enter 85 = .ok (.getfield 10, 3) := by decide +kernel
theorem dX9_enter_88 : decode cX9_enter 88 = .ok (.iload_n 1, 1) := by decide +kernel
theorem dX9_enter_89 : decode cX9_enter 89 = .ok (.iload_n 2, 1) := by decide +kernel
theorem dX9_enter_90 : decode cX9_enter 90 = .ok (.iload_n 3, 1) := by decide +kernel
theorem dX9_enter_91 : decode cX9_enter 91 = .ok (.iload 4, 2) := by decide +kernel
theorem dX9_enter_93 : decode cX9_enter 93 = .ok (.invokevirtual 94, 3) := by decide +kernel
theorem dX9_enter_96 : decode cX9_enter 96 = .ok (.ireturn, 1) := by decide +kernel
theorem dX4_allows_0 : decode cX4_allows 0 = .ok (.iconst 0, 1) := by decide +kernel
theorem dX4_allows_1 : decode cX4_allows 1 = .ok (.istore 4, 2) := by decide +kernel
theorem dX4_allows_3 : decode cX4_allows 3 = .ok (.iload 4, 2) := by decide +kernel
theorem dX4_allows_5 : decode cX4_allows 5 = .ok (.aload_n 0, 1) := by decide +kernel
theorem dX4_allows_6 : decode cX4_allows 6 = .ok (.getfield 28, 3) := by decide +kernel
theorem dX4_allows_9 : decode cX4_allows 9 = .ok (.if_icmp .ge 64, 3) := by decide +kernel
theorem dX4_allows_12 : decode cX4_allows 12 = .ok (.aload_n 0, 1) := by decide +kernel
theorem dX4_allows_13 : decode cX4_allows 13 = .ok (.getfield 24, 3) := by decide +kernel
theorem dX4_allows_16 : decode cX4_allows 16 = .ok (.iload 4, 2) := by decide +kernel
theorem dX4_allows_18 : decode cX4_allows 18 = .ok (.baload, 1) := by decide +kernel
theorem dX4_allows_19 : decode cX4_allows 19 = .ok (.ifCond .ne 48, 3) := by decide +kernel
theorem dX4_allows_22 : decode cX4_allows 22 = .ok (.aload_n 0, 1) := by decide +kernel
theorem dX4_allows_23 : decode cX4_allows 23 = .ok (.getfield 9, 3) := by decide +kernel
theorem dX4_allows_26 : decode cX4_allows 26 = .ok (.iload 4, 2) := by decide +kernel
theorem dX4_allows_28 : decode cX4_allows 28 = .ok (.iaload, 1) := by decide +kernel
theorem dX4_allows_29 : decode cX4_allows 29 = .ok (.iload_n 1, 1) := by decide +kernel
theorem dX4_allows_30 : decode cX4_allows 30 = .ok (.if_icmp .ne 37, 3) := by decide +kernel
theorem dX4_allows_33 : decode cX4_allows 33 = .ok (.aload_n 0, 1) := by decide +kernel
theorem dX4_allows_34 : decode cX4_allows 34 = .ok (.getfield 15, 3) := by decide +kernel
theorem dX4_allows_37 : decode cX4_allows 37 = .ok (.iload 4, 2) := by decide +kernel
theorem dX4_allows_39 : decode cX4_allows 39 = .ok (.iaload, 1) := by decide +kernel
theorem dX4_allows_40 : decode cX4_allows 40 = .ok (.iload_n 2, 1) := by decide +kernel
theorem dX4_allows_41 : decode cX4_allows 41 = .ok (.if_icmp .ne 26, 3) := by decide +kernel
theorem dX4_allows_44 : decode cX4_allows 44 = .ok (.iload_n 3, 1) := by decide +kernel
theorem dX4_allows_45 : decode cX4_allows 45 = .ok (.aload_n 0, 1) := by decide +kernel
theorem dX4_allows_46 : decode cX4_allows 46 = .ok (.getfield 18, 3) := by decide +kernel
theorem dX4_allows_49 : decode cX4_allows 49 = .ok (.iload 4, 2) := by decide +kernel
theorem dX4_allows_51 : decode cX4_allows 51 = .ok (.iaload, 1) := by decide +kernel
theorem dX4_allows_52 : decode cX4_allows 52 = .ok (.aload_n 0, 1) := by decide +kernel
theorem dX4_allows_53 : decode cX4_allows 53 = .ok (.getfield 21, 3) := by decide +kernel
theorem dX4_allows_56 : decode cX4_allows 56 = .ok (.iload 4, 2) := by decide +kernel
theorem dX4_allows_58 : decode cX4_allows 58 = .ok (.iaload, 1) := by decide +kernel
theorem dX4_allows_59 : decode cX4_allows 59 = .ok (.invokestatic 32, 3) := by decide +kernel
theorem dX4_allows_62 : decode cX4_allows 62 = .ok (.ifCond .eq 5, 3) := by decide +kernel
theorem dX4_allows_65 : decode cX4_allows 65 = .ok (.iconst 1, 1) := by decide +kernel
theorem dX4_allows_66 : decode cX4_allows 66 = .ok (.ireturn, 1) := by decide +kernel
theorem dX4_allows_67 : decode cX4_allows 67 = .ok (.iinc 4 1, 3) := by decide +kernel
theorem dX4_allows_70 : decode cX4_allows 70 = .ok (.goto (-67), 3) := by decide +kernel
theorem dX4_allows_73 : decode cX4_allows 73 = .ok (.iconst 0, 1) := by decide +kernel
theorem dX4_allows_74 : decode cX4_allows 74 = .ok (.ireturn, 1) := by decide +kernel
theorem dX0_reasonOf_0 : decode cX0_reasonOf 0 = .ok (.iload_n 1, 1) := by decide +kernel
theorem dX0_reasonOf_1 : decode cX0_reasonOf 1 = .ok (.iconst 1, 1) := by decide +kernel
theorem dX0_reasonOf_2 : decode cX0_reasonOf 2 = .ok (.iadd, 1) := by decide +kernel
theorem dX0_reasonOf_3 : decode cX0_reasonOf 3 = .ok (.istore_n 2, 1) := by decide +kernel
theorem dX0_reasonOf_4 : decode cX0_reasonOf 4 = .ok (.iload_n 2, 1) := by decide +kernel
theorem dX0_reasonOf_5 : decode cX0_reasonOf 5 = .ok (.aload_n 0, 1) := by decide +kernel
theorem dX0_reasonOf_6 : decode cX0_reasonOf 6 = .ok (.getfield 41, 3) := by decide +kernel
theorem dX0_reasonOf_9 : decode cX0_reasonOf 9 = .ok (.if_icmp .ge 41, 3) := by decide +kernel
theorem dX0_reasonOf_12 : decode cX0_reasonOf 12 = .ok (.aload_n 0, 1) := by decide +kernel
theorem dX0_reasonOf_13 : decode cX0_reasonOf 13 = .ok (.getfield 9, 3) := by decide +kernel
theorem dX0_reasonOf_16 : decode cX0_reasonOf 16 = .ok (.iload_n 2, 1) := by decide +kernel
theorem dX0_reasonOf_17 : decode cX0_reasonOf 17 = .ok (.iaload, 1) := by decide +kernel
theorem dX0_reasonOf_18 : decode cX0_reasonOf 18 = .ok (.aload_n 0, 1) := by decide +kernel
theorem dX0_reasonOf_19 : decode cX0_reasonOf 19 = .ok (.getfield 9, 3) := by decide +kernel
theorem dX0_reasonOf_22 : decode cX0_reasonOf 22 = .ok (.iload_n 1, 1) := by decide +kernel
theorem dX0_reasonOf_23 : decode cX0_reasonOf 23 = .ok (.iaload, 1) := by decide +kernel
theorem dX0_reasonOf_24 : decode cX0_reasonOf 24 = .ok (.if_icmp .ne 20, 3) := by decide +kernel
theorem dX0_reasonOf_27 : decode cX0_reasonOf 27 = .ok (.aload_n 0, 1) := by decide +kernel
theorem dX0_reasonOf_28 : decode cX0_reasonOf 28 = .ok (.getfield 18, 3) := by decide +kernel
theorem dX0_reasonOf_31 : decode cX0_reasonOf 31 = .ok (.iload_n 2, 1) := by decide +kernel
theorem dX0_reasonOf_32 : decode cX0_reasonOf 32 = .ok (.iaload, 1) := by decide +kernel
theorem dX0_reasonOf_33 : decode cX0_reasonOf 33 = .ok (.aload_n 0, 1) := by decide +kernel
theorem dX0_reasonOf_34 : decode cX0_reasonOf 34 = .ok (.getfield 18, 3) := by decide +kernel
theorem dX0_reasonOf_37 : decode cX0_reasonOf 37 = .ok (.iload_n 1, 1) := by decide +kernel
theorem dX0_reasonOf_38 : decode cX0_reasonOf 38 = .ok (.iaload, 1) := by decide +kernel
theorem dX0_reasonOf_39 : decode cX0_reasonOf 39 = .ok (.if_icmp .ne 5, 3) := by decide +kernel
theorem dX0_reasonOf_42 : decode cX0_reasonOf 42 = .ok (.iconst 1, 1) := by decide +kernel
theorem dX0_reasonOf_43 : decode cX0_reasonOf 43 = .ok (.ireturn, 1) := by decide +kernel
theorem dX0_reasonOf_44 : decode cX0_reasonOf 44 = .ok (.iinc 2 1, 3) := by decide +kernel
theorem dX0_reasonOf_47 : decode cX0_reasonOf 47 = .ok (.goto (-43), 3) := by decide +kernel
theorem dX0_reasonOf_50 : decode cX0_reasonOf 50 = .ok (.aload_n 0, 1) := by decide +kernel
theorem dX0_reasonOf_51 : decode cX0_reasonOf 51 = .ok (.getfield 37, 3) := by decide +kernel
theorem dX0_reasonOf_54 : decode cX0_reasonOf 54 = .ok (.aload_n 0, 1) := by decide +kernel
theorem dX0_reasonOf_55 : decode cX0_reasonOf 55 = .ok (.getfield 15, 3) := by decide +kernel
theorem dX0_reasonOf_58 : decode cX0_reasonOf 58 = .ok (.iload_n 1, 1) := by decide +kernel
theorem dX0_reasonOf_59 : decode cX0_reasonOf 59 = .ok (.iaload, 1) := by decide +kernel
theorem dX0_reasonOf_60 : decode cX0_reasonOf 60 = .ok (.aload_n 0, 1) := by decide +kernel
theorem dX0_reasonOf_61 : decode cX0_reasonOf 61 = .ok (.getfield 18, 3) := by decide +kernel
theorem dX0_reasonOf_64 : decode cX0_reasonOf 64 = .ok (.iload_n 1, 1) := by decide +kernel
theorem dX0_reasonOf_65 : decode cX0_reasonOf 65 = .ok (.iaload, 1) := by decide +kernel
theorem dX0_reasonOf_66 : decode cX0_reasonOf 66 = .ok (.aload_n 0, 1) := by decide +kernel
theorem dX0_reasonOf_67 : decode cX0_reasonOf 67 = .ok (.getfield 21, 3) := by decide +kernel
theorem dX0_reasonOf_70 : decode cX0_reasonOf 70 = .ok (.iload_n 1, 1) := by decide +kernel
theorem dX0_reasonOf_71 : decode cX0_reasonOf 71 = .ok (.iaload, 1) := by decide +kernel
theorem dX0_reasonOf_72 : decode cX0_reasonOf 72 = .ok (.invokevirtual 51, 3) := by decide +kernel
theorem dX0_reasonOf_75 : decode cX0_reasonOf 75 = .ok (.ifCond .eq 7, 3) := by decide +kernel
theorem dX0_reasonOf_78 : decode cX0_reasonOf 78 = .ok (.iconst 0, 1) := by decide +kernel
theorem dX0_reasonOf_79 : decode cX0_reasonOf 79 = .ok (.goto 4, 3) := by decide +kernel
theorem dX0_reasonOf_82 : decode cX0_reasonOf 82 = .ok (.iconst 2, 1) := by decide +kernel
theorem dX0_reasonOf_83 : decode cX0_reasonOf 83 = .ok (.ireturn, 1) := by decide +kernel
theorem dX0_countAll_0 : decode cX0_countAll 0 = .ok (.iconst 0, 1) := by decide +kernel
theorem dX0_countAll_1 : decode cX0_countAll 1 = .ok (.istore_n 1, 1) := by decide +kernel
theorem dX0_countAll_2 : decode cX0_countAll 2 = .ok (.iconst 0, 1) := by decide +kernel
theorem dX0_countAll_3 : decode cX0_countAll 3 = .ok (.istore_n 2, 1) := by decide +kernel
theorem dX0_countAll_4 : decode cX0_countAll 4 = .ok (.iload_n 2, 1) := by decide +kernel
theorem dX0_countAll_5 : decode cX0_countAll 5 = .ok (.aload_n 0, 1) := by decide +kernel
theorem dX0_countAll_6 : decode cX0_countAll 6 = .ok (.getfield 41, 3) := by decide +kernel
theorem dX0_countAll_9 : decode cX0_countAll 9 = .ok (.if_icmp .ge 20, 3) := by decide +kernel
theorem dX0_countAll_12 : decode cX0_countAll 12 = .ok (.aload_n 0, 1) := by decide +kernel
theorem dX0_countAll_13 : decode cX0_countAll 13 = .ok (.iload_n 2, 1) := by decide +kernel
theorem dX0_countAll_14 : decode cX0_countAll 14 = .ok (.invokevirtual 60, 3) := by decide +kernel
theorem dX0_countAll_17 : decode cX0_countAll 17 = .ok (.ifCond .ne 6, 3) := by decide +kernel
theorem dX0_countAll_20 : decode cX0_countAll 20 = .ok (.iinc 1 1, 3) := by decide +kernel
theorem dX0_countAll_23 : decode cX0_countAll 23 = .ok (.iinc 2 1, 3) := by decide +kernel
theorem dX0_countAll_26 : decode cX0_countAll 26 = .ok (.goto (-22), 3) := by decide +kernel
theorem dX0_countAll_29 : decode cX0_countAll 29 = .ok (.iload_n 1, 1) := by decide +kernel
theorem dX0_countAll_30 : decode cX0_countAll 30 = .ok (.ireturn, 1) := by decide +kernel
theorem dX9_strike_0 : decode cX9_strike 0 = .ok (.iload_n 1, 1) := by decide +kernel
theorem dX9_strike_1 : decode cX9_strike 1 = .ok (.iconst 0, 1) := by decide +kernel
theorem dX9_strike_2 : decode cX9_strike 2 = .ok (.aload_n 0, 1) := by decide +kernel
theorem dX9_strike_3 : decode cX9_strike 3 = .ok (.getfield 10, 3) := by decide +kernel
theorem dX9_strike_6 : decode cX9_strike 6 = .ok (.getfield 85, 3) := by decide +kernel
theorem dX9_strike_9 : decode cX9_strike 9 = .ok (.iconst 1, 1) := by decide +kernel
theorem dX9_strike_10 : decode cX9_strike 10 = .ok (.isub, 1) := by decide +kernel
theorem dX9_strike_11 : decode cX9_strike 11 = .ok (.invokestatic 69, 3) := by decide +kernel
theorem dX9_strike_14 : decode cX9_strike 14 = .ok (.ifCond .ne 13, 3) := by decide +kernel
theorem dX9_strike_17 : decode cX9_strike 17 = .ok (.new 73, 3) := by decide +kernel
theorem dX9_strike_20 : decode cX9_strike 20 = .ok (.dup, 1) := by decide +kernel
theorem dX9_strike_21 : decode cX9_strike 21 = .ok (.ldc 98, 2) := by decide +kernel
theorem dX9_strike_23 : decode cX9_strike 23 = .ok (.invokespecial 77, 3) := by decide +kernel
theorem dX9_strike_26 : decode cX9_strike 26 = .ok (.athrow, 1) := by decide +kernel
theorem dX9_strike_27 : decode cX9_strike 27 = .ok (.aload_n 0, 1) := by decide +kernel
theorem dX9_strike_28 : decode cX9_strike 28 = .ok (.getfield 10, 3) := by decide +kernel
theorem dX9_strike_31 : decode cX9_strike 31 = .ok (.getfield 100, 3) := by decide +kernel
theorem dX9_strike_34 : decode cX9_strike 34 = .ok (.iload_n 1, 1) := by decide +kernel
theorem dX9_strike_35 : decode cX9_strike 35 = .ok (.baload, 1) := by decide +kernel
theorem dX9_strike_36 : decode cX9_strike 36 = .ok (.ifCond .eq 13, 3) := by decide +kernel
theorem dX9_strike_39 : decode cX9_strike 39 = .ok (.new 89, 3) := by decide +kernel
theorem dX9_strike_42 : decode cX9_strike 42 = .ok (.dup, 1) := by decide +kernel
theorem dX9_strike_43 : decode cX9_strike 43 = .ok (.ldc 104, 2) := by decide +kernel
theorem dX9_strike_45 : decode cX9_strike 45 = .ok (.invokespecial 93, 3) := by decide +kernel
theorem dX9_strike_48 : decode cX9_strike 48 = .ok (.athrow, 1) := by decide +kernel
theorem dX9_strike_49 : decode cX9_strike 49 = .ok (.aload_n 0, 1) := by decide +kernel
theorem dX9_strike_50 : decode cX9_strike 50 = .ok (.getfield 47, 3) := by decide +kernel
theorem dX9_strike_53 : decode cX9_strike 53 = .ok (.invokevirtual 106, 3) := by decide +kernel
theorem dX9_strike_56 : decode cX9_strike 56 = .ok (.istore_n 2, 1) := by decide +kernel
theorem dX9_strike_57 : decode cX9_strike 57 = .ok (.aload_n 0, 1) := by decide +kernel
theorem dX9_strike_58 : decode cX9_strike 58 = .ok (.getfield 10, 3) := by decide +kernel
theorem dX9_strike_61 : decode cX9_strike 61 = .ok (.getfield 100, 3) := by decide +kernel
theorem dX9_strike_64 : decode cX9_strike 64 = .ok (.iload_n 1, 1) := by decide +kernel
theorem dX9_strike_65 : decode cX9_strike 65 = .ok (.iconst 1, 1) := by decide +kernel
theorem dX9_strike_66 : decode cX9_strike 66 = .ok (.bastore, 1) := by decide +kernel
theorem dX9_strike_67 : decode cX9_strike 67 = .ok (.iload_n 2, 1) := by decide +kernel
theorem dX9_strike_68 : decode cX9_strike 68 = .ok (.aload_n 0, 1) := by decide +kernel
theorem dX9_strike_69 : decode cX9_strike 69 = .ok (.getfield 47, 3) := by decide +kernel
theorem dX9_strike_72 : decode cX9_strike 72 = .ok (.invokevirtual 106, 3) := by decide +kernel
theorem dX9_strike_75 : decode cX9_strike 75 = .ok (.isub, 1) := by decide +kernel
theorem dX9_strike_76 : decode cX9_strike 76 = .ok (.ireturn, 1) := by decide +kernel
theorem dX9_isAllowed_0 : decode cX9_isAllowed 0 = .ok (.iload_n 1, 1) := by decide +kernel
theorem dX9_isAllowed_1 : decode cX9_isAllowed 1 = .ok (.iconst 0, 1) := by decide +kernel
theorem dX9_isAllowed_2 : decode cX9_isAllowed 2 = .ok (.iconst 2, 1) := by decide +kernel
theorem dX9_isAllowed_3 : decode cX9_isAllowed 3 = .ok (.invokestatic 69, 3) := by decide +kernel
theorem dX9_isAllowed_6 : decode cX9_isAllowed 6 = .ok (.ifCond .eq 13, 3) := by decide +kernel
theorem dX9_isAllowed_9 : decode cX9_isAllowed 9 = .ok (.iload_n 2, 1) := by decide +kernel
theorem dX9_isAllowed_10 : decode cX9_isAllowed 10 = .ok (.iconst 0, 1) := by decide +kernel
theorem dX9_isAllowed_11 : decode cX9_isAllowed 11 = .ok (.bipush 19, 2) := by decide +kernel
theorem dX9_isAllowed_13 : decode cX9_isAllowed 13 = .ok (.invokestatic 69, 3) := by decide +kernel
theorem dX9_isAllowed_16 : decode cX9_isAllowed 16 = .ok (.ifCond .ne 13, 3) := by decide +kernel
theorem dX9_isAllowed_19 : decode cX9_isAllowed 19 = .ok (.new 73, 3) := by decide +kernel
theorem dX9_isAllowed_22 : decode cX9_isAllowed 22 = .ok (.dup, 1) := by decide +kernel
theorem dX9_isAllowed_23 : decode cX9_isAllowed 23 = .ok (.ldc 75, 2) := by decide +kernel
theorem dX9_isAllowed_25 : decode cX9_isAllowed 25 = .ok (.invokespecial 77, 3) := by decide +kernel
theorem dX9_isAllowed_28 : decode cX9_isAllowed 28 = .ok (.athrow, 1) := by decide +kernel
theorem dX9_isAllowed_29 : decode cX9_isAllowed 29 = .ok (.iload_n 3, 1) := by decide +kernel
theorem dX9_isAllowed_30 : decode cX9_isAllowed 30 = .ok (.iconst 0, 1) := by decide +kernel
theorem dX9_isAllowed_31 : decode cX9_isAllowed 31 = .ok (.sipush 1000, 3) := by decide +kernel
theorem dX9_isAllowed_34 : decode cX9_isAllowed 34 = .ok (.invokestatic 69, 3) := by decide +kernel
theorem dX9_isAllowed_37 : decode cX9_isAllowed 37 = .ok (.ifCond .ne 13, 3) := by decide +kernel
theorem dX9_isAllowed_40 : decode cX9_isAllowed 40 = .ok (.new 80, 3) := by decide +kernel
theorem dX9_isAllowed_43 : decode cX9_isAllowed 43 = .ok (.dup, 1) := by decide +kernel
theorem dX9_isAllowed_44 : decode cX9_isAllowed 44 = .ok (.ldc 110, 2) := by decide +kernel
theorem dX9_isAllowed_46 : decode cX9_isAllowed 46 = .ok (.invokespecial 84, 3) := by decide +kernel
theorem dX9_isAllowed_49 : decode cX9_isAllowed 49 = .ok (.athrow, 1) := by decide +kernel
theorem dX9_isAllowed_50 : decode cX9_isAllowed 50 = .ok (.aload_n 0, 1) := by decide +kernel
theorem dX9_isAllowed_51 : decode cX9_isAllowed 51 = .ok (.getfield 10, 3) := by decide +kernel
theorem dX9_isAllowed_54 : decode cX9_isAllowed 54 = .ok (.iload_n 1, 1) := by decide +kernel
theorem dX9_isAllowed_55 : decode cX9_isAllowed 55 = .ok (.iload_n 2, 1) := by decide +kernel
theorem dX9_isAllowed_56 : decode cX9_isAllowed 56 = .ok (.iload_n 3, 1) := by decide +kernel
theorem dX9_isAllowed_57 : decode cX9_isAllowed 57 = .ok (.invokevirtual 112, 3) := by decide +kernel
theorem dX9_isAllowed_60 : decode cX9_isAllowed 60 = .ok (.ireturn, 1) := by decide +kernel
theorem dX9_pass_0 : decode cX9_pass 0 = .ok (.iload_n 1, 1) := by decide +kernel
theorem dX9_pass_1 : decode cX9_pass 1 = .ok (.iconst 1, 1) := by decide +kernel
theorem dX9_pass_2 : decode cX9_pass 2 = .ok (.bipush 100, 2) := by decide +kernel
theorem dX9_pass_4 : decode cX9_pass 4 = .ok (.invokestatic 69, 3) := by decide +kernel
theorem dX9_pass_7 : decode cX9_pass 7 = .ok (.ifCond .ne 13, 3) := by decide +kernel
theorem dX9_pass_10 : decode cX9_pass 10 = .ok (.new 80, 3) := by decide +kernel
theorem dX9_pass_13 : decode cX9_pass 13 = .ok (.dup, 1) := by decide +kernel
theorem dX9_pass_14 : decode cX9_pass 14 = .ok (.ldc 115, 2) := by decide +kernel
theorem dX9_pass_16 : decode cX9_pass 16 = .ok (.invokespecial 84, 3) := by decide +kernel
theorem dX9_pass_19 : decode cX9_pass 19 = .ok (.athrow, 1) := by decide +kernel
theorem dX9_pass_20 : decode cX9_pass 20 = .ok (.aload_n 0, 1) := by decide +kernel
theorem dX9_pass_21 : decode cX9_pass 21 = .ok (.getfield 117, 3) := by decide +kernel
theorem dX9_pass_24 : decode cX9_pass 24 = .ok (.iload_n 1, 1) := by decide +kernel
theorem dX9_pass_25 : decode cX9_pass 25 = .ok (.iadd, 1) := by decide +kernel
theorem dX9_pass_26 : decode cX9_pass 26 = .ok (.sipush 1000, 3) := by decide +kernel
theorem dX9_pass_29 : decode cX9_pass 29 = .ok (.if_icmp .le 13, 3) := by decide +kernel
theorem dX9_pass_32 : decode cX9_pass 32 = .ok (.new 89, 3) := by decide +kernel
theorem dX9_pass_35 : decode cX9_pass 35 = .ok (.dup, 1) := by decide +kernel
theorem dX9_pass_36 : decode cX9_pass 36 = .ok (.ldc 120, 2) := by decide +kernel
theorem dX9_pass_38 : decode cX9_pass 38 = .ok (.invokespecial 93, 3) := by decide +kernel
theorem dX9_pass_41 : decode cX9_pass 41 = .ok (.athrow, 1) := by decide +kernel
theorem dX9_pass_42 : decode cX9_pass 42 = .ok (.aload_n 0, 1) := by decide +kernel
theorem dX9_pass_43 : decode cX9_pass 43 = .ok (.dup, 1) := by decide +kernel
theorem dX9_pass_44 : decode cX9_pass 44 = .ok (.getfield 117, 3) := by decide +kernel
theorem dX9_pass_47 : decode cX9_pass 47 = .ok (.iload_n 1, 1) := by decide +kernel
theorem dX9_pass_48 : decode cX9_pass 48 = .ok (.iadd, 1) := by decide +kernel
theorem dX9_pass_49 : decode cX9_pass 49 = .ok (.putfield 117, 3) := by decide +kernel
theorem dX9_pass_52 : decode cX9_pass 52 = .ok (.aload_n 0, 1) := by decide +kernel
theorem dX9_pass_53 : decode cX9_pass 53 = .ok (.getfield 117, 3) := by decide +kernel
theorem dX9_pass_56 : decode cX9_pass 56 = .ok (.ireturn, 1) := by decide +kernel
theorem dX9_isDigit_0 : decode cX9_isDigit 0 = .ok (.iload_n 0, 1) := by decide +kernel
theorem dX9_isDigit_1 : decode cX9_isDigit 1 = .ok (.bipush 48, 2) := by decide +kernel
theorem dX9_isDigit_3 : decode cX9_isDigit 3 = .ok (.if_icmp .lt 13, 3) := by decide +kernel
theorem dX9_isDigit_6 : decode cX9_isDigit 6 = .ok (.iload_n 0, 1) := by decide +kernel
theorem dX9_isDigit_7 : decode cX9_isDigit 7 = .ok (.bipush 57, 2) := by decide +kernel
theorem dX9_isDigit_9 : decode cX9_isDigit 9 = .ok (.if_icmp .gt 7, 3) := by decide +kernel
theorem dX9_isDigit_12 : decode cX9_isDigit 12 = .ok (.iconst 1, 1) := by decide +kernel
theorem dX9_isDigit_13 : decode cX9_isDigit 13 = .ok (.goto 4, 3) := by decide +kernel
theorem dX9_isDigit_16 : decode cX9_isDigit 16 = .ok (.iconst 0, 1) := by decide +kernel
theorem dX9_isDigit_17 : decode cX9_isDigit 17 = .ok (.ireturn, 1) := by decide +kernel
theorem dX9_isTypable_0 : decode cX9_isTypable 0 = .ok (.iload_n 0, 1) := by decide +kernel
theorem dX9_isTypable_1 : decode cX9_isTypable 1 = .ok (.bipush 97, 2) := by decide +kernel
theorem dX9_isTypable_3 : decode cX9_isTypable 3 = .ok (.if_icmp .lt 9, 3) := by decide +kernel
theorem dX9_isTypable_6 : decode cX9_isTypable 6 = .ok (.iload_n 0, 1) := by decide +kernel
theorem dX9_isTypable_7 : decode cX9_isTypable 7 = .ok (.bipush 122, 2) := by decide +kernel
theorem dX9_isTypable_9 : decode cX9_isTypable 9 = .ok (.if_icmp .le 28, 3) := by decide +kernel
theorem dX9_isTypable_12 : decode cX9_isTypable 12 = .ok (.iload_n 0, 1) := by decide +kernel
theorem dX9_isTypable_13 : decode cX9_isTypable 13 = .ok (.invokestatic 301, 3) := by decide +kernel
theorem dX9_isTypable_16 : decode cX9_isTypable 16 = .ok (.ifCond .ne 21, 3) := by decide +kernel
theorem dX9_isTypable_19 : decode cX9_isTypable 19 = .ok (.iload_n 0, 1) := by decide +kernel
theorem dX9_isTypable_20 : decode cX9_isTypable 20 = .ok (.bipush 59, 2) := by decide +kernel
theorem dX9_isTypable_22 : decode cX9_isTypable 22 = .ok (.if_icmp .eq 15, 3) := by decide +kernel
theorem dX9_isTypable_25 : decode cX9_isTypable 25 = .ok (.iload_n 0, 1) := by decide +kernel
theorem dX9_isTypable_26 : decode cX9_isTypable 26 = .ok (.bipush 40, 2) := by decide +kernel
theorem dX9_isTypable_28 : decode cX9_isTypable 28 = .ok (.if_icmp .eq 9, 3) := by decide +kernel
theorem dX9_isTypable_31 : decode cX9_isTypable 31 = .ok (.iload_n 0, 1) := by decide +kernel
theorem dX9_isTypable_32 : decode cX9_isTypable 32 = .ok (.bipush 41, 2) := by decide +kernel
theorem dX9_isTypable_34 : decode cX9_isTypable 34 = .ok (.if_icmp .ne 7, 3) := by decide +kernel
theorem dX9_isTypable_37 : decode cX9_isTypable 37 = .ok (.iconst 1, 1) := by decide +kernel
theorem dX9_isTypable_38 : decode cX9_isTypable 38 = .ok (.goto 4, 3) := by decide +kernel
theorem dX9_isTypable_41 : decode cX9_isTypable 41 = .ok (.iconst 0, 1) := by decide +kernel
theorem dX9_isTypable_42 : decode cX9_isTypable 42 = .ok (.ireturn, 1) := by decide +kernel
theorem dX7_add_0 : decode cX7_add 0 = .ok (.aload_n 0, 1) := by decide +kernel
theorem dX7_add_1 : decode cX7_add 1 = .ok (.getfield 15, 3) := by decide +kernel
theorem dX7_add_4 : decode cX7_add 4 = .ok (.bipush 24, 2) := by decide +kernel
theorem dX7_add_6 : decode cX7_add 6 = .ok (.if_icmp .ge 23, 3) := by decide +kernel
theorem dX7_add_9 : decode cX7_add 9 = .ok (.aload_n 0, 1) := by decide +kernel
theorem dX7_add_10 : decode cX7_add 10 = .ok (.getfield 9, 3) := by decide +kernel
theorem dX7_add_13 : decode cX7_add 13 = .ok (.aload_n 0, 1) := by decide +kernel
theorem dX7_add_14 : decode cX7_add 14 = .ok (.getfield 15, 3) := by decide +kernel
theorem dX7_add_17 : decode cX7_add 17 = .ok (.iload_n 1, 1) := by decide +kernel
theorem dX7_add_18 : decode cX7_add 18 = .ok (.castore, 1) := by decide +kernel
theorem dX7_add_19 : decode cX7_add 19 = .ok (.aload_n 0, 1) := by decide +kernel
theorem dX7_add_20 : decode cX7_add 20 = .ok (.dup, 1) := by decide +kernel
theorem dX7_add_21 : decode cX7_add 21 = .ok (.getfield 15, 3) := by decide +kernel
theorem dX7_add_24 : decode cX7_add 24 = .ok (.iconst 1, 1) := by decide +kernel
theorem dX7_add_25 : decode cX7_add 25 = .ok (.iadd, 1) := by decide +kernel
theorem dX7_add_26 : decode cX7_add 26 = .ok (.putfield 15, 3) := by decide +kernel
theorem dX7_add_29 : decode cX7_add 29 = .ok (.aload_n 0, 1) := by decide +kernel
theorem dX7_add_30 : decode cX7_add 30 = .ok (.getfield 15, 3) := by decide +kernel
theorem dX7_add_33 : decode cX7_add 33 = .ok (.ireturn, 1) := by decide +kernel
theorem dX9_type_0 : decode cX9_type 0 = .ok (.iload_n 1, 1) := by decide +kernel
theorem dX9_type_1 : decode cX9_type 1 = .ok (.invokestatic 122, 3) := by decide +kernel
theorem dX9_type_4 : decode cX9_type 4 = .ok (.ifCond .ne 13, 3) := by decide +kernel
theorem dX9_type_7 : decode cX9_type 7 = .ok (.new 80, 3) := by decide +kernel
theorem dX9_type_10 : decode cX9_type 10 = .ok (.dup, 1) := by decide +kernel
theorem dX9_type_11 : decode cX9_type 11 = .ok (.ldc 126, 2) := by decide +kernel
theorem dX9_type_13 : decode cX9_type 13 = .ok (.invokespecial 84, 3) := by decide +kernel
theorem dX9_type_16 : decode cX9_type 16 = .ok (.athrow, 1) := by decide +kernel
theorem dX9_type_17 : decode cX9_type 17 = .ok (.aload_n 0, 1) := by decide +kernel
theorem dX9_type_18 : decode cX9_type 18 = .ok (.getfield 19, 3) := by decide +kernel
theorem dX9_type_21 : decode cX9_type 21 = .ok (.getfield 128, 3) := by decide +kernel
theorem dX9_type_24 : decode cX9_type 24 = .ok (.bipush 24, 2) := by decide +kernel
theorem dX9_type_26 : decode cX9_type 26 = .ok (.if_icmp .lt 13, 3) := by decide +kernel
theorem dX9_type_29 : decode cX9_type 29 = .ok (.new 89, 3) := by decide +kernel
theorem dX9_type_32 : decode cX9_type 32 = .ok (.dup, 1) := by decide +kernel
theorem dX9_type_33 : decode cX9_type 33 = .ok (.ldc 129, 2) := by decide +kernel
theorem dX9_type_35 : decode cX9_type 35 = .ok (.invokespecial 93, 3) := by decide +kernel
theorem dX9_type_38 : decode cX9_type 38 = .ok (.athrow, 1) := by decide +kernel
theorem dX9_type_39 : decode cX9_type 39 = .ok (.aload_n 0, 1) := by decide +kernel
theorem dX9_type_40 : decode cX9_type 40 = .ok (.getfield 19, 3) := by decide +kernel
theorem dX9_type_43 : decode cX9_type 43 = .ok (.iload_n 1, 1) := by decide +kernel
theorem dX9_type_44 : decode cX9_type 44 = .ok (.invokevirtual 131, 3) := by decide +kernel
theorem dX9_type_47 : decode cX9_type 47 = .ok (.ireturn, 1) := by decide +kernel
theorem dX9_wipe_0 : decode cX9_wipe 0 = .ok (.aload_n 0, 1) := by decide +kernel
theorem dX9_wipe_1 : decode cX9_wipe 1 = .ok (.getfield 19, 3) := by decide +kernel
theorem dX9_wipe_4 : decode cX9_wipe 4 = .ok (.getfield 128, 3) := by decide +kernel
theorem dX9_wipe_7 : decode cX9_wipe 7 = .ok (.istore_n 1, 1) := by decide +kernel
theorem dX9_wipe_8 : decode cX9_wipe 8 = .ok (.aload_n 0, 1) := by decide +kernel
theorem dX9_wipe_9 : decode cX9_wipe 9 = .ok (.getfield 19, 3) := by decide +kernel
theorem dX9_wipe_12 : decode cX9_wipe 12 = .ok (.iconst 0, 1) := by decide +kernel
theorem dX9_wipe_13 : decode cX9_wipe 13 = .ok (.putfield 128, 3) := by decide +kernel
theorem dX9_wipe_16 : decode cX9_wipe 16 = .ok (.iload_n 1, 1) := by decide +kernel
theorem dX9_wipe_17 : decode cX9_wipe 17 = .ok (.ireturn, 1) := by decide +kernel
theorem dX7_stateAfter_0 : decode cX7_stateAfter 0 = .ok (.iload_n 1, 1) := by decide +kernel
theorem dX7_stateAfter_1 : decode cX7_stateAfter 1 = .ok (.iconst 2, 1) := by decide +kernel
theorem dX7_stateAfter_2 : decode cX7_stateAfter 2 = .ok (.if_icmp .ne 15, 3) := by decide +kernel
theorem dX7_stateAfter_5 : decode cX7_stateAfter 5 = .ok (.iload_n 0, 1) := by decide +kernel
theorem dX7_stateAfter_6 : decode cX7_stateAfter 6 = .ok (.bipush 59, 2) := by decide +kernel
theorem dX7_stateAfter_8 : decode cX7_stateAfter 8 = .ok (.if_icmp .ne 7, 3) := by decide +kernel
theorem dX7_stateAfter_11 : decode cX7_stateAfter 11 = .ok (.iconst 1, 1) := by decide +kernel
theorem dX7_stateAfter_12 : decode cX7_stateAfter 12 = .ok (.goto 4, 3) := by decide +kernel
theorem dX7_stateAfter_15 : decode cX7_stateAfter 15 = .ok (.iconst 5, 1) := by decide +kernel
theorem dX7_stateAfter_16 : decode cX7_stateAfter 16 = .ok (.ireturn, 1) := by decide +kernel
theorem dX7_stateAfter_17 : decode cX7_stateAfter 17 = .ok (.iload_n 1, 1) := by decide +kernel
theorem dX7_stateAfter_18 : decode cX7_stateAfter 18 = .ok (.iconst 3, 1) := by decide +kernel
theorem dX7_stateAfter_19 : decode cX7_stateAfter 19 = .ok (.if_icmp .ne 16, 3) := by decide +kernel
theorem dX7_stateAfter_22 : decode cX7_stateAfter 22 = .ok (.iload_n 0, 1) := by decide +kernel
theorem dX7_stateAfter_23 : decode cX7_stateAfter 23 = .ok (.invokestatic 23, 3) := by decide +kernel
theorem dX7_stateAfter_26 : decode cX7_stateAfter 26 = .ok (.ifCond .eq 7, 3) := by decide +kernel
theorem dX7_stateAfter_29 : decode cX7_stateAfter 29 = .ok (.iconst 4, 1) := by decide +kernel
theorem dX7_stateAfter_30 : decode cX7_stateAfter 30 = .ok (.goto 4, 3) := by decide +kernel
theorem dX7_stateAfter_33 : decode cX7_stateAfter 33 = .ok (.iconst 5, 1) := by decide +kernel
theorem dX7_stateAfter_34 : decode cX7_stateAfter 34 = .ok (.ireturn, 1) := by decide +kernel
theorem dX7_stateAfter_35 : decode cX7_stateAfter 35 = .ok (.iload_n 1, 1) := by decide +kernel
theorem dX7_stateAfter_36 : decode cX7_stateAfter 36 = .ok (.iconst 4, 1) := by decide +kernel
theorem dX7_stateAfter_37 : decode cX7_stateAfter 37 = .ok (.if_icmp .ne 26, 3) := by decide +kernel
theorem dX7_stateAfter_40 : decode cX7_stateAfter 40 = .ok (.iload_n 0, 1) := by decide +kernel
theorem dX7_stateAfter_41 : decode cX7_stateAfter 41 = .ok (.bipush 59, 2) := by decide +kernel
theorem dX7_stateAfter_43 : decode cX7_stateAfter 43 = .ok (.if_icmp .ne 7, 3) := by decide +kernel
theorem dX7_stateAfter_46 : decode cX7_stateAfter 46 = .ok (.iconst 1, 1) := by decide +kernel
theorem dX7_stateAfter_47 : decode cX7_stateAfter 47 = .ok (.goto 15, 3) := by decide +kernel
theorem dX7_stateAfter_50 : decode cX7_stateAfter 50 = .ok (.iload_n 0, 1) := by decide +kernel
theorem dX7_stateAfter_51 : decode cX7_stateAfter 51 = .ok (.invokestatic 23, 3) := by decide +kernel
theorem dX7_stateAfter_54 : decode cX7_stateAfter 54 = .ok (.ifCond .eq 7, 3) := by decide +kernel
theorem dX7_stateAfter_57 : decode cX7_stateAfter 57 = .ok (.iconst 2, 1) := by decide +kernel
theorem dX7_stateAfter_58 : decode cX7_stateAfter 58 = .ok (.goto 4, 3) := by decide +kernel
theorem dX7_stateAfter_61 : decode cX7_stateAfter 61 = .ok (.iconst 5, 1) := by decide +kernel
theorem dX7_stateAfter_62 : decode cX7_stateAfter 62 = .ok (.ireturn, 1) := by decide +kernel
theorem dX7_stateAfter_63 : decode cX7_stateAfter 63 = .ok (.iload_n 0, 1) := by decide +kernel
theorem dX7_stateAfter_64 : decode cX7_stateAfter 64 = .ok (.bipush 41, 2) := by decide +kernel
theorem dX7_stateAfter_66 : decode cX7_stateAfter 66 = .ok (.if_icmp .ne 18, 3) := by decide +kernel
theorem dX7_stateAfter_69 : decode cX7_stateAfter 69 = .ok (.iload_n 1, 1) := by decide +kernel
theorem dX7_stateAfter_70 : decode cX7_stateAfter 70 = .ok (.iconst 1, 1) := by decide +kernel
theorem dX7_stateAfter_71 : decode cX7_stateAfter 71 = .ok (.if_icmp .ne 11, 3) := by decide +kernel
theorem dX7_stateAfter_74 : decode cX7_stateAfter 74 = .ok (.iload_n 2, 1) := by decide +kernel
theorem dX7_stateAfter_75 : decode cX7_stateAfter 75 = .ok (.ifCond .le 7, 3) := by decide +kernel
theorem dX7_stateAfter_78 : decode cX7_stateAfter 78 = .ok (.iconst 1, 1) := by decide +kernel
theorem dX7_stateAfter_79 : decode cX7_stateAfter 79 = .ok (.goto 4, 3) := by decide +kernel
theorem dX7_stateAfter_82 : decode cX7_stateAfter 82 = .ok (.iconst 5, 1) := by decide +kernel
theorem dX7_stateAfter_83 : decode cX7_stateAfter 83 = .ok (.ireturn, 1) := by decide +kernel
theorem dX7_stateAfter_84 : decode cX7_stateAfter 84 = .ok (.iload_n 0, 1) := by decide +kernel
theorem dX7_stateAfter_85 : decode cX7_stateAfter 85 = .ok (.bipush 40, 2) := by decide +kernel
theorem dX7_stateAfter_87 : decode cX7_stateAfter 87 = .ok (.if_icmp .ne 5, 3) := by decide +kernel
theorem dX7_stateAfter_90 : decode cX7_stateAfter 90 = .ok (.iconst 0, 1) := by decide +kernel
theorem dX7_stateAfter_91 : decode cX7_stateAfter 91 = .ok (.ireturn, 1) := by decide +kernel
theorem dX7_stateAfter_92 : decode cX7_stateAfter 92 = .ok (.iload_n 0, 1) := by decide +kernel
theorem dX7_stateAfter_93 : decode cX7_stateAfter 93 = .ok (.bipush 101, 2) := by decide +kernel
theorem dX7_stateAfter_95 : decode cX7_stateAfter 95 = .ok (.if_icmp .ne 5, 3) := by decide +kernel
theorem dX7_stateAfter_98 : decode cX7_stateAfter 98 = .ok (.iconst 3, 1) := by decide +kernel
theorem dX7_stateAfter_99 : decode cX7_stateAfter 99 = .ok (.ireturn, 1) := by decide +kernel
theorem dX7_stateAfter_100 : decode cX7_stateAfter 100 = .ok (.ldc 27, 2) := by decide +kernel
theorem dX7_stateAfter_102 : decode cX7_stateAfter 102 = .ok (.iload_n 0, 1) := by decide +kernel
theorem dX7_stateAfter_103 : decode cX7_stateAfter 103 = .ok (.invokevirtual 29, 3) := by decide +kernel
theorem dX7_stateAfter_106 : decode cX7_stateAfter 106 = .ok (.ifCond .lt 7, 3) := by decide +kernel
theorem dX7_stateAfter_109 : decode cX7_stateAfter 109 = .ok (.iconst 2, 1) := by decide +kernel
theorem dX7_stateAfter_110 : decode cX7_stateAfter 110 = .ok (.goto 4, 3) := by decide +kernel
theorem dX7_stateAfter_113 : decode cX7_stateAfter 113 = .ok (.iconst 5, 1) := by decide +kernel
theorem dX7_stateAfter_114 : decode cX7_stateAfter 114 = .ok (.ireturn, 1) := by decide +kernel
theorem dX7_firstFault_0 : decode cX7_firstFault 0 = .ok (.iconst 0, 1) := by decide +kernel
theorem dX7_firstFault_1 : decode cX7_firstFault 1 = .ok (.istore_n 1, 1) := by decide +kernel
theorem dX7_firstFault_2 : decode cX7_firstFault 2 = .ok (.iconst 0, 1) := by decide +kernel
theorem dX7_firstFault_3 : decode cX7_firstFault 3 = .ok (.istore_n 2, 1) := by decide +kernel
theorem dX7_firstFault_4 : decode cX7_firstFault 4 = .ok (.iconst 0, 1) := by decide +kernel
theorem dX7_firstFault_5 : decode cX7_firstFault 5 = .ok (.istore_n 3, 1) := by decide +kernel
theorem dX7_firstFault_6 : decode cX7_firstFault 6 = .ok (.iload_n 3, 1) := by decide +kernel
theorem dX7_firstFault_7 : decode cX7_firstFault 7 = .ok (.aload_n 0, 1) := by decide +kernel
theorem dX7_firstFault_8 : decode cX7_firstFault 8 = .ok (.getfield 15, 3) := by decide +kernel
theorem dX7_firstFault_11 : decode cX7_firstFault 11 = .ok (.if_icmp .ge 55, 3) := by decide +kernel
theorem dX7_firstFault_14 : decode cX7_firstFault 14 = .ok (.aload_n 0, 1) := by decide +kernel
theorem dX7_firstFault_15 : decode cX7_firstFault 15 = .ok (.getfield 9, 3) := by decide +kernel
theorem dX7_firstFault_18 : decode cX7_firstFault 18 = .ok (.iload_n 3, 1) := by decide +kernel
theorem dX7_firstFault_19 : decode cX7_firstFault 19 = .ok (.caload, 1) := by decide +kernel
theorem dX7_firstFault_20 : decode cX7_firstFault 20 = .ok (.istore 4, 2) := by decide +kernel
theorem dX7_firstFault_22 : decode cX7_firstFault 22 = .ok (.iload 4, 2) := by decide +kernel
theorem dX7_firstFault_24 : decode cX7_firstFault 24 = .ok (.iload_n 1, 1) := by decide +kernel
theorem dX7_firstFault_25 : decode cX7_firstFault 25 = .ok (.iload_n 2, 1) := by decide +kernel
theorem dX7_firstFault_26 : decode cX7_firstFault 26 = .ok (.invokestatic 19, 3) := by decide +kernel
theorem dX7_firstFault_29 : decode cX7_firstFault 29 = .ok (.istore_n 1, 1) := by decide +kernel
theorem dX7_firstFault_30 : decode cX7_firstFault 30 = .ok (.iload_n 1, 1) := by decide +kernel
theorem dX7_firstFault_31 : decode cX7_firstFault 31 = .ok (.iconst 5, 1) := by decide +kernel
theorem dX7_firstFault_32 : decode cX7_firstFault 32 = .ok (.if_icmp .ne 5, 3) := by decide +kernel
theorem dX7_firstFault_35 : decode cX7_firstFault 35 = .ok (.iload_n 3, 1) := by decide +kernel
theorem dX7_firstFault_36 : decode cX7_firstFault 36 = .ok (.ireturn, 1) := by decide +kernel
theorem dX7_firstFault_37 : decode cX7_firstFault 37 = .ok (.iload 4, 2) := by decide +kernel
theorem dX7_firstFault_39 : decode cX7_firstFault 39 = .ok (.bipush 40, 2) := by decide +kernel
theorem dX7_firstFault_41 : decode cX7_firstFault 41 = .ok (.if_icmp .ne 9, 3) := by decide +kernel
theorem dX7_firstFault_44 : decode cX7_firstFault 44 = .ok (.iinc 2 1, 3) := by decide +kernel
theorem dX7_firstFault_47 : decode cX7_firstFault 47 = .ok (.goto 13, 3) := by decide +kernel
theorem dX7_firstFault_50 : decode cX7_firstFault 50 = .ok (.iload 4, 2) := by decide +kernel
theorem dX7_firstFault_52 : decode cX7_firstFault 52 = .ok (.bipush 41, 2) := by decide +kernel
theorem dX7_firstFault_54 : decode cX7_firstFault 54 = .ok (.if_icmp .ne 6, 3) := by decide +kernel
theorem dX7_firstFault_57 : decode cX7_firstFault 57 = .ok (.iinc 2 (-1), 3) := by decide +kernel
theorem dX7_firstFault_60 : decode cX7_firstFault 60 = .ok (.iinc 3 1, 3) := by decide +kernel
theorem dX7_firstFault_63 : decode cX7_firstFault 63 = .ok (.goto (-57), 3) := by decide +kernel
theorem dX7_firstFault_66 : decode cX7_firstFault 66 = .ok (.iload_n 1, 1) := by decide +kernel
theorem dX7_firstFault_67 : decode cX7_firstFault 67 = .ok (.iconst 1, 1) := by decide +kernel
theorem dX7_firstFault_68 : decode cX7_firstFault 68 = .ok (.if_icmp .ne 11, 3) := by decide +kernel
theorem dX7_firstFault_71 : decode cX7_firstFault 71 = .ok (.iload_n 2, 1) := by decide +kernel
theorem dX7_firstFault_72 : decode cX7_firstFault 72 = .ok (.ifCond .ne 7, 3) := by decide +kernel
theorem dX7_firstFault_75 : decode cX7_firstFault 75 = .ok (.iconst (-1), 1) := by decide +kernel
theorem dX7_firstFault_76 : decode cX7_firstFault 76 = .ok (.goto 7, 3) := by decide +kernel
theorem dX7_firstFault_79 : decode cX7_firstFault 79 = .ok (.aload_n 0, 1) := by decide +kernel
theorem dX7_firstFault_80 : decode cX7_firstFault 80 = .ok (.getfield 15, 3) := by decide +kernel
theorem dX7_firstFault_83 : decode cX7_firstFault 83 = .ok (.ireturn, 1) := by decide +kernel
theorem dX9_fault_0 : decode cX9_fault 0 = .ok (.aload_n 0, 1) := by decide +kernel
theorem dX9_fault_1 : decode cX9_fault 1 = .ok (.getfield 19, 3) := by decide +kernel
theorem dX9_fault_4 : decode cX9_fault 4 = .ok (.invokevirtual 134, 3) := by decide +kernel
theorem dX9_fault_7 : decode cX9_fault 7 = .ok (.ireturn, 1) := by decide +kernel
theorem dX5_addStep_0 : decode cX5_addStep 0 = .ok (.aload_n 0, 1) := by decide +kernel
theorem dX5_addStep_1 : decode cX5_addStep 1 = .ok (.getfield 29, 3) := by decide +kernel
theorem dX5_addStep_4 : decode cX5_addStep 4 = .ok (.istore_n 3, 1) := by decide +kernel
theorem dX5_addStep_5 : decode cX5_addStep 5 = .ok (.iload_n 3, 1) := by decide +kernel
theorem dX5_addStep_6 : decode cX5_addStep 6 = .ok (.bipush 24, 2) := by decide +kernel
theorem dX5_addStep_8 : decode cX5_addStep 8 = .ok (.if_icmp .lt 5, 3) := by decide +kernel
theorem dX5_addStep_11 : decode cX5_addStep 11 = .ok (.iload_n 2, 1) := by decide +kernel
theorem dX5_addStep_12 : decode cX5_addStep 12 = .ok (.ireturn, 1) := by decide +kernel
theorem dX5_addStep_13 : decode cX5_addStep 13 = .ok (.aload_n 0, 1) := by decide +kernel
theorem dX5_addStep_14 : decode cX5_addStep 14 = .ok (.dup, 1) := by decide +kernel
theorem dX5_addStep_15 : decode cX5_addStep 15 = .ok (.getfield 29, 3) := by decide +kernel
theorem dX5_addStep_18 : decode cX5_addStep 18 = .ok (.iconst 1, 1) := by decide +kernel
theorem dX5_addStep_19 : decode cX5_addStep 19 = .ok (.iadd, 1) := by decide +kernel
theorem dX5_addStep_20 : decode cX5_addStep 20 = .ok (.putfield 29, 3) := by decide +kernel
theorem dX5_addStep_23 : decode cX5_addStep 23 = .ok (.aload_n 0, 1) := by decide +kernel
theorem dX5_addStep_24 : decode cX5_addStep 24 = .ok (.getfield 15, 3) := by decide +kernel
theorem dX5_addStep_27 : decode cX5_addStep 27 = .ok (.iload_n 3, 1) := by decide +kernel
theorem dX5_addStep_28 : decode cX5_addStep 28 = .ok (.iload_n 1, 1) := by decide +kernel
theorem dX5_addStep_29 : decode cX5_addStep 29 = .ok (.castore, 1) := by decide +kernel
theorem dX5_addStep_30 : decode cX5_addStep 30 = .ok (.aload_n 0, 1) := by decide +kernel
theorem dX5_addStep_31 : decode cX5_addStep 31 = .ok (.getfield 18, 3) := by decide +kernel
theorem dX5_addStep_34 : decode cX5_addStep 34 = .ok (.iload_n 3, 1) := by decide +kernel
theorem dX5_addStep_35 : decode cX5_addStep 35 = .ok (.iload_n 1, 1) := by decide +kernel
theorem dX5_addStep_36 : decode cX5_addStep 36 = .ok (.bipush 40, 2) := by decide +kernel
theorem dX5_addStep_38 : decode cX5_addStep 38 = .ok (.if_icmp .eq 9, 3) := by decide +kernel
theorem dX5_addStep_41 : decode cX5_addStep 41 = .ok (.iload_n 1, 1) := by decide +kernel
theorem dX5_addStep_42 : decode cX5_addStep 42 = .ok (.bipush 41, 2) := by decide +kernel
theorem dX5_addStep_44 : decode cX5_addStep 44 = .ok (.if_icmp .ne 7, 3) := by decide +kernel
theorem dX5_addStep_47 : decode cX5_addStep 47 = .ok (.iload_n 2, 1) := by decide +kernel
theorem dX5_addStep_48 : decode cX5_addStep 48 = .ok (.goto 4, 3) := by decide +kernel
theorem dX5_addStep_51 : decode cX5_addStep 51 = .ok (.iconst 0, 1) := by decide +kernel
theorem dX5_addStep_52 : decode cX5_addStep 52 = .ok (.iastore, 1) := by decide +kernel
theorem dX5_addStep_53 : decode cX5_addStep 53 = .ok (.iload_n 1, 1) := by decide +kernel
theorem dX5_addStep_54 : decode cX5_addStep 54 = .ok (.bipush 40, 2) := by decide +kernel
theorem dX5_addStep_56 : decode cX5_addStep 56 = .ok (.if_icmp .ne 5, 3) := by decide +kernel
theorem dX5_addStep_59 : decode cX5_addStep 59 = .ok (.iload_n 3, 1) := by decide +kernel
theorem dX5_addStep_60 : decode cX5_addStep 60 = .ok (.ireturn, 1) := by decide +kernel
theorem dX5_addStep_61 : decode cX5_addStep 61 = .ok (.iload_n 1, 1) := by decide +kernel
theorem dX5_addStep_62 : decode cX5_addStep 62 = .ok (.bipush 41, 2) := by decide +kernel
theorem dX5_addStep_64 : decode cX5_addStep 64 = .ok (.if_icmp .ne 16, 3) := by decide +kernel
theorem dX5_addStep_67 : decode cX5_addStep 67 = .ok (.iload_n 2, 1) := by decide +kernel
theorem dX5_addStep_68 : decode cX5_addStep 68 = .ok (.ifCond .lt 12, 3) := by decide +kernel
theorem dX5_addStep_71 : decode cX5_addStep 71 = .ok (.aload_n 0, 1) := by decide +kernel
theorem dX5_addStep_72 : decode cX5_addStep 72 = .ok (.getfield 18, 3) := by decide +kernel
theorem dX5_addStep_75 : decode cX5_addStep 75 = .ok (.iload_n 2, 1) := by decide +kernel
theorem dX5_addStep_76 : decode cX5_addStep 76 = .ok (.iaload, 1) := by decide +kernel
theorem dX5_addStep_77 : decode cX5_addStep 77 = .ok (.goto 4, 3) := by decide +kernel
theorem dX5_addStep_80 : decode cX5_addStep 80 = .ok (.iload_n 2, 1) := by decide +kernel
theorem dX5_addStep_81 : decode cX5_addStep 81 = .ok (.ireturn, 1) := by decide +kernel
theorem dX5_take_0 : decode cX5_take 0 = .ok (.aload_n 0, 1) := by decide +kernel
theorem dX5_take_1 : decode cX5_take 1 = .ok (.aload_n 1, 1) := by decide +kernel
theorem dX5_take_2 : decode cX5_take 2 = .ok (.getfield 22, 3) := by decide +kernel
theorem dX5_take_5 : decode cX5_take 5 = .ok (.putfield 28, 3) := by decide +kernel
theorem dX5_take_8 : decode cX5_take 8 = .ok (.aload_n 0, 1) := by decide +kernel
theorem dX5_take_9 : decode cX5_take 9 = .ok (.iconst 0, 1) := by decide +kernel
theorem dX5_take_10 : decode cX5_take 10 = .ok (.putfield 29, 3) := by decide +kernel
theorem dX5_take_13 : decode cX5_take 13 = .ok (.aload_n 0, 1) := by decide +kernel
theorem dX5_take_14 : decode cX5_take 14 = .ok (.iconst 0, 1) := by decide +kernel
theorem dX5_take_15 : decode cX5_take 15 = .ok (.putfield 32, 3) := by decide +kernel
theorem dX5_take_18 : decode cX5_take 18 = .ok (.iconst (-1), 1) := by decide +kernel
theorem dX5_take_19 : decode cX5_take 19 = .ok (.istore_n 2, 1) := by decide +kernel
theorem dX5_take_20 : decode cX5_take 20 = .ok (.iconst 0, 1) := by decide +kernel
theorem dX5_take_21 : decode cX5_take 21 = .ok (.istore_n 3, 1) := by decide +kernel
theorem dX5_take_22 : decode cX5_take 22 = .ok (.iload_n 3, 1) := by decide +kernel
theorem dX5_take_23 : decode cX5_take 23 = .ok (.aload_n 0, 1) := by decide +kernel
theorem dX5_take_24 : decode cX5_take 24 = .ok (.getfield 28, 3) := by decide +kernel
theorem dX5_take_27 : decode cX5_take 27 = .ok (.if_icmp .ge 102, 3) := by decide +kernel
theorem dX5_take_30 : decode cX5_take 30 = .ok (.aload_n 1, 1) := by decide +kernel
theorem dX5_take_31 : decode cX5_take 31 = .ok (.getfield 35, 3) := by decide +kernel
theorem dX5_take_34 : decode cX5_take 34 = .ok (.iload_n 3, 1) := by decide +kernel
theorem dX5_take_35 : decode cX5_take 35 = .ok (.caload, 1) := by decide +kernel
theorem dX5_take_36 : decode cX5_take 36 = .ok (.istore 4, 2) := by decide +kernel
theorem dX5_take_38 : decode cX5_take 38 = .ok (.aload_n 0, 1) := by decide +kernel
theorem dX5_take_39 : decode cX5_take 39 = .ok (.getfield 9, 3) := by decide +kernel
theorem dX5_take_42 : decode cX5_take 42 = .ok (.iload_n 3, 1) := by decide +kernel
theorem dX5_take_43 : decode cX5_take 43 = .ok (.iload 4, 2) := by decide +kernel
theorem dX5_take_45 : decode cX5_take 45 = .ok (.castore, 1) := by decide +kernel
theorem dX5_take_46 : decode cX5_take 46 = .ok (.iload 4, 2) := by decide +kernel
theorem dX5_take_48 : decode cX5_take 48 = .ok (.bipush 59, 2) := by decide +kernel
theorem dX5_take_50 : decode cX5_take 50 = .ok (.if_icmp .ne 16, 3) := by decide +kernel
theorem dX5_take_53 : decode cX5_take 53 = .ok (.aload_n 0, 1) := by decide +kernel
theorem dX5_take_54 : decode cX5_take 54 = .ok (.dup, 1) := by decide +kernel
theorem dX5_take_55 : decode cX5_take 55 = .ok (.getfield 32, 3) := by decide +kernel
theorem dX5_take_58 : decode cX5_take 58 = .ok (.iconst 1, 1) := by decide +kernel
theorem dX5_take_59 : decode cX5_take 59 = .ok (.iadd, 1) := by decide +kernel
theorem dX5_take_60 : decode cX5_take 60 = .ok (.putfield 32, 3) := by decide +kernel
theorem dX5_take_63 : decode cX5_take 63 = .ok (.goto 60, 3) := by decide +kernel
theorem dX5_take_66 : decode cX5_take 66 = .ok (.iload 4, 2) := by decide +kernel
theorem dX5_take_68 : decode cX5_take 68 = .ok (.invokestatic 36, 3) := by decide +kernel
theorem dX5_take_71 : decode cX5_take 71 = .ok (.ifCond .ne 14, 3) := by decide +kernel
theorem dX5_take_74 : decode cX5_take 74 = .ok (.aload_n 0, 1) := by decide +kernel
theorem dX5_take_75 : decode cX5_take 75 = .ok (.iload 4, 2) := by decide +kernel
theorem dX5_take_77 : decode cX5_take 77 = .ok (.iload_n 2, 1) := by decide +kernel
theorem dX5_take_78 : decode cX5_take 78 = .ok (.invokevirtual 40, 3) := by decide +kernel
theorem dX5_take_81 : decode cX5_take 81 = .ok (.istore_n 2, 1) := by decide +kernel
theorem dX5_take_82 : decode cX5_take 82 = .ok (.goto 41, 3) := by decide +kernel
theorem dX5_take_85 : decode cX5_take 85 = .ok (.aload_n 0, 1) := by decide +kernel
theorem dX5_take_86 : decode cX5_take 86 = .ok (.getfield 29, 3) := by decide +kernel
theorem dX5_take_89 : decode cX5_take 89 = .ok (.ifCond .le 34, 3) := by decide +kernel
theorem dX5_take_92 : decode cX5_take 92 = .ok (.aload_n 0, 1) := by decide +kernel
theorem dX5_take_93 : decode cX5_take 93 = .ok (.getfield 18, 3) := by decide +kernel
theorem dX5_take_96 : decode cX5_take 96 = .ok (.aload_n 0, 1) := by decide +kernel
theorem dX5_take_97 : decode cX5_take 97 = .ok (.getfield 29, 3) := by decide +kernel
theorem dX5_take_100 : decode cX5_take 100 = .ok (.iconst 1, 1) := by decide +kernel
theorem dX5_take_101 : decode cX5_take 101 = .ok (.isub, 1) := by decide +kernel
theorem dX5_take_102 : decode cX5_take 102 = .ok (.bipush 10, 2) := by decide +kernel
theorem dX5_take_104 : decode cX5_take 104 = .ok (.aload_n 0, 1) := by decide +kernel
theorem dX5_take_105 : decode cX5_take 105 = .ok (.getfield 18, 3) := by decide +kernel
theorem dX5_take_108 : decode cX5_take 108 = .ok (.aload_n 0, 1) := by decide +kernel
theorem dX5_take_109 : decode cX5_take 109 = .ok (.getfield 29, 3) := by decide +kernel
theorem dX5_take_112 : decode cX5_take 112 = .ok (.iconst 1, 1) := by decide +kernel
theorem dX5_take_113 : decode cX5_take 113 = .ok (.isub, 1) := by decide +kernel
theorem dX5_take_114 : decode cX5_take 114 = .ok (.iaload, 1) := by decide +kernel
theorem dX5_take_115 : decode cX5_take 115 = .ok (.imul, 1) := by decide +kernel
theorem dX5_take_116 : decode cX5_take 116 = .ok (.iload 4, 2) := by decide +kernel
theorem dX5_take_118 : decode cX5_take 118 = .ok (.bipush 48, 2) := by decide +kernel
theorem dX5_take_120 : decode cX5_take 120 = .ok (.isub, 1) := by decide +kernel
theorem dX5_take_121 : decode cX5_take 121 = .ok (.iadd, 1) := by decide +kernel
theorem dX5_take_122 : decode cX5_take 122 = .ok (.iastore, 1) := by decide +kernel
theorem dX5_take_123 : decode cX5_take 123 = .ok (.iinc 3 1, 3) := by decide +kernel
theorem dX5_take_126 : decode cX5_take 126 = .ok (.goto (-104), 3) := by decide +kernel
theorem dX5_take_129 : decode cX5_take 129 = .ok (.return_, 1) := by decide +kernel
theorem dX9_rule_0 : decode cX9_rule 0 = .ok (.aload_n 0, 1) := by decide +kernel
theorem dX9_rule_1 : decode cX9_rule 1 = .ok (.getfield 19, 3) := by decide +kernel
theorem dX9_rule_4 : decode cX9_rule 4 = .ok (.invokevirtual 134, 3) := by decide +kernel
theorem dX9_rule_7 : decode cX9_rule 7 = .ok (.iconst (-1), 1) := by decide +kernel
theorem dX9_rule_8 : decode cX9_rule 8 = .ok (.if_icmp .eq 13, 3) := by decide +kernel
theorem dX9_rule_11 : decode cX9_rule 11 = .ok (.new 80, 3) := by decide +kernel
theorem dX9_rule_14 : decode cX9_rule 14 = .ok (.dup, 1) := by decide +kernel
theorem dX9_rule_15 : decode cX9_rule 15 = .ok (.ldc 137, 2) := by decide +kernel
theorem dX9_rule_17 : decode cX9_rule 17 = .ok (.invokespecial 84, 3) := by decide +kernel
theorem dX9_rule_20 : decode cX9_rule 20 = .ok (.athrow, 1) := by decide +kernel
theorem dX9_rule_21 : decode cX9_rule 21 = .ok (.aload_n 0, 1) := by decide +kernel
theorem dX9_rule_22 : decode cX9_rule 22 = .ok (.getfield 139, 3) := by decide +kernel
theorem dX9_rule_25 : decode cX9_rule 25 = .ok (.bipush 8, 2) := by decide +kernel
theorem dX9_rule_27 : decode cX9_rule 27 = .ok (.if_icmp .lt 13, 3) := by decide +kernel
theorem dX9_rule_30 : decode cX9_rule 30 = .ok (.new 89, 3) := by decide +kernel
theorem dX9_rule_33 : decode cX9_rule 33 = .ok (.dup, 1) := by decide +kernel
theorem dX9_rule_34 : decode cX9_rule 34 = .ok (.ldc 142, 2) := by decide +kernel
theorem dX9_rule_36 : decode cX9_rule 36 = .ok (.invokespecial 93, 3) := by decide +kernel
theorem dX9_rule_39 : decode cX9_rule 39 = .ok (.athrow, 1) := by decide +kernel
theorem dX9_rule_40 : decode cX9_rule 40 = .ok (.aload_n 0, 1) := by decide +kernel
theorem dX9_rule_41 : decode cX9_rule 41 = .ok (.getfield 25, 3) := by decide +kernel
theorem dX9_rule_44 : decode cX9_rule 44 = .ok (.aload_n 0, 1) := by decide +kernel
theorem dX9_rule_45 : decode cX9_rule 45 = .ok (.getfield 139, 3) := by decide +kernel
theorem dX9_rule_48 : decode cX9_rule 48 = .ok (.aaload, 1) := by decide +kernel
theorem dX9_rule_49 : decode cX9_rule 49 = .ok (.aload_n 0, 1) := by decide +kernel
theorem dX9_rule_50 : decode cX9_rule 50 = .ok (.getfield 19, 3) := by decide +kernel
theorem dX9_rule_53 : decode cX9_rule 53 = .ok (.invokevirtual 144, 3) := by decide +kernel
theorem dX9_rule_56 : decode cX9_rule 56 = .ok (.aload_n 0, 1) := by decide +kernel
theorem dX9_rule_57 : decode cX9_rule 57 = .ok (.dup, 1) := by decide +kernel
theorem dX9_rule_58 : decode cX9_rule 58 = .ok (.getfield 139, 3) := by decide +kernel
theorem dX9_rule_61 : decode cX9_rule 61 = .ok (.iconst 1, 1) := by decide +kernel
theorem dX9_rule_62 : decode cX9_rule 62 = .ok (.iadd, 1) := by decide +kernel
theorem dX9_rule_63 : decode cX9_rule 63 = .ok (.putfield 139, 3) := by decide +kernel
theorem dX9_rule_66 : decode cX9_rule 66 = .ok (.aload_n 0, 1) := by decide +kernel
theorem dX9_rule_67 : decode cX9_rule 67 = .ok (.getfield 139, 3) := by decide +kernel
theorem dX9_rule_70 : decode cX9_rule 70 = .ok (.iconst 1, 1) := by decide +kernel
theorem dX9_rule_71 : decode cX9_rule 71 = .ok (.isub, 1) := by decide +kernel
theorem dX9_rule_72 : decode cX9_rule 72 = .ok (.ireturn, 1) := by decide +kernel
theorem dX0_gather_0 : decode cX0_gather 0 = .ok (.aload_n 0, 1) := by decide +kernel
theorem dX0_gather_1 : decode cX0_gather 1 = .ok (.iconst 0, 1) := by decide +kernel
theorem dX0_gather_2 : decode cX0_gather 2 = .ok (.putfield 57, 3) := by decide +kernel
theorem dX0_gather_5 : decode cX0_gather 5 = .ok (.iconst 0, 1) := by decide +kernel
theorem dX0_gather_6 : decode cX0_gather 6 = .ok (.istore_n 2, 1) := by decide +kernel
theorem dX0_gather_7 : decode cX0_gather 7 = .ok (.iload_n 2, 1) := by decide +kernel
theorem dX0_gather_8 : decode cX0_gather 8 = .ok (.aload_n 0, 1) := by decide +kernel
theorem dX0_gather_9 : decode cX0_gather 9 = .ok (.getfield 41, 3) := by decide +kernel
theorem dX0_gather_12 : decode cX0_gather 12 = .ok (.if_icmp .ge 47, 3) := by decide +kernel
theorem dX0_gather_15 : decode cX0_gather 15 = .ok (.aload_n 0, 1) := by decide +kernel
theorem dX0_gather_16 : decode cX0_gather 16 = .ok (.getfield 9, 3) := by decide +kernel
theorem dX0_gather_19 : decode cX0_gather 19 = .ok (.iload_n 2, 1) := by decide +kernel
theorem dX0_gather_20 : decode cX0_gather 20 = .ok (.iaload, 1) := by decide +kernel
theorem dX0_gather_21 : decode cX0_gather 21 = .ok (.iload_n 1, 1) := by decide +kernel
theorem dX0_gather_22 : decode cX0_gather 22 = .ok (.if_icmp .ne 31, 3) := by decide +kernel
theorem dX0_gather_25 : decode cX0_gather 25 = .ok (.aload_n 0, 1) := by decide +kernel
theorem dX0_gather_26 : decode cX0_gather 26 = .ok (.iload_n 2, 1) := by decide +kernel
theorem dX0_gather_27 : decode cX0_gather 27 = .ok (.invokevirtual 60, 3) := by decide +kernel
theorem dX0_gather_30 : decode cX0_gather 30 = .ok (.ifCond .ne 23, 3) := by decide +kernel
theorem dX0_gather_33 : decode cX0_gather 33 = .ok (.aload_n 0, 1) := by decide +kernel
theorem dX0_gather_34 : decode cX0_gather 34 = .ok (.getfield 34, 3) := by decide +kernel
theorem dX0_gather_37 : decode cX0_gather 37 = .ok (.aload_n 0, 1) := by decide +kernel
theorem dX0_gather_38 : decode cX0_gather 38 = .ok (.getfield 57, 3) := by decide +kernel
theorem dX0_gather_41 : decode cX0_gather 41 = .ok (.iload_n 2, 1) := by decide +kernel
theorem dX0_gather_42 : decode cX0_gather 42 = .ok (.iastore, 1) := by decide +kernel
theorem dX0_gather_43 : decode cX0_gather 43 = .ok (.aload_n 0, 1) := by decide +kernel
theorem dX0_gather_44 : decode cX0_gather 44 = .ok (.dup, 1) := by decide +kernel
theorem dX0_gather_45 : decode cX0_gather 45 = .ok (.getfield 57, 3) := by decide +kernel
theorem dX0_gather_48 : decode cX0_gather 48 = .ok (.iconst 1, 1) := by decide +kernel
theorem dX0_gather_49 : decode cX0_gather 49 = .ok (.iadd, 1) := by decide +kernel
theorem dX0_gather_50 : decode cX0_gather 50 = .ok (.putfield 57, 3) := by decide +kernel
theorem dX0_gather_53 : decode cX0_gather 53 = .ok (.iinc 2 1, 3) := by decide +kernel
theorem dX0_gather_56 : decode cX0_gather 56 = .ok (.goto (-49), 3) := by decide +kernel
theorem dX0_gather_59 : decode cX0_gather 59 = .ok (.return_, 1) := by decide +kernel
theorem dX1_begin_0 : decode cX1_begin 0 = .ok (.aload_n 0, 1) := by decide +kernel
theorem dX1_begin_1 : decode cX1_begin 1 = .ok (.iconst 0, 1) := by decide +kernel
theorem dX1_begin_2 : decode cX1_begin 2 = .ok (.putfield 19, 3) := by decide +kernel
theorem dX1_begin_5 : decode cX1_begin 5 = .ok (.aload_n 0, 1) := by decide +kernel
theorem dX1_begin_6 : decode cX1_begin 6 = .ok (.iconst 0, 1) := by decide +kernel
theorem dX1_begin_7 : decode cX1_begin 7 = .ok (.putfield 23, 3) := by decide +kernel
theorem dX1_begin_10 : decode cX1_begin 10 = .ok (.aload_n 0, 1) := by decide +kernel
theorem dX1_begin_11 : decode cX1_begin 11 = .ok (.iload_n 2, 1) := by decide +kernel
theorem dX1_begin_12 : decode cX1_begin 12 = .ok (.putfield 26, 3) := by decide +kernel
theorem dX1_begin_15 : decode cX1_begin 15 = .ok (.aload_n 0, 1) := by decide +kernel
theorem dX1_begin_16 : decode cX1_begin 16 = .ok (.iconst 1, 1) := by decide +kernel
theorem dX1_begin_17 : decode cX1_begin 17 = .ok (.iload_n 1, 1) := by decide +kernel
theorem dX1_begin_18 : decode cX1_begin 18 = .ok (.ishl, 1) := by decide +kernel
theorem dX1_begin_19 : decode cX1_begin 19 = .ok (.iconst 1, 1) := by decide +kernel
theorem dX1_begin_20 : decode cX1_begin 20 = .ok (.isub, 1) := by decide +kernel
theorem dX1_begin_21 : decode cX1_begin 21 = .ok (.putfield 29, 3) := by decide +kernel
theorem dX1_begin_24 : decode cX1_begin 24 = .ok (.aload_n 0, 1) := by decide +kernel
theorem dX1_begin_25 : decode cX1_begin 25 = .ok (.iconst 0, 1) := by decide +kernel
theorem dX1_begin_26 : decode cX1_begin 26 = .ok (.putfield 32, 3) := by decide +kernel
theorem dX1_begin_29 : decode cX1_begin 29 = .ok (.aload_n 0, 1) := by decide +kernel
theorem dX1_begin_30 : decode cX1_begin 30 = .ok (.bipush 108, 2) := by decide +kernel
theorem dX1_begin_32 : decode cX1_begin 32 = .ok (.putfield 35, 3) := by decide +kernel
theorem dX1_begin_35 : decode cX1_begin 35 = .ok (.return_, 1) := by decide +kernel
theorem dX1_remove_0 : decode cX1_remove 0 = .ok (.aload_n 0, 1) := by decide +kernel
theorem dX1_remove_1 : decode cX1_remove 1 = .ok (.dup, 1) := by decide +kernel
theorem dX1_remove_2 : decode cX1_remove 2 = .ok (.getfield 29, 3) := by decide +kernel
theorem dX1_remove_5 : decode cX1_remove 5 = .ok (.iconst 1, 1) := by decide +kernel
theorem dX1_remove_6 : decode cX1_remove 6 = .ok (.iload_n 1, 1) := by decide +kernel
theorem dX1_remove_7 : decode cX1_remove 7 = .ok (.ishl, 1) := by decide +kernel
theorem dX1_remove_8 : decode cX1_remove 8 = .ok (.iconst (-1), 1) := by decide +kernel
theorem dX1_remove_9 : decode cX1_remove 9 = .ok (.ixor, 1) := by decide +kernel
theorem dX1_remove_10 : decode cX1_remove 10 = .ok (.iand, 1) := by decide +kernel
theorem dX1_remove_11 : decode cX1_remove 11 = .ok (.putfield 29, 3) := by decide +kernel
theorem dX1_remove_14 : decode cX1_remove 14 = .ok (.iload_n 2, 1) := by decide +kernel
theorem dX1_remove_15 : decode cX1_remove 15 = .ok (.ifCond .eq 25, 3) := by decide +kernel
theorem dX1_remove_18 : decode cX1_remove 18 = .ok (.aload_n 0, 1) := by decide +kernel
theorem dX1_remove_19 : decode cX1_remove 19 = .ok (.dup, 1) := by decide +kernel
theorem dX1_remove_20 : decode cX1_remove 20 = .ok (.getfield 32, 3) := by decide +kernel
theorem dX1_remove_23 : decode cX1_remove 23 = .ok (.iconst 1, 1) := by decide +kernel
theorem dX1_remove_24 : decode cX1_remove 24 = .ok (.iload_n 1, 1) := by decide +kernel
theorem dX1_remove_25 : decode cX1_remove 25 = .ok (.ishl, 1) := by decide +kernel
theorem dX1_remove_26 : decode cX1_remove 26 = .ok (.ior, 1) := by decide +kernel
theorem dX1_remove_27 : decode cX1_remove 27 = .ok (.putfield 32, 3) := by decide +kernel
theorem dX1_remove_30 : decode cX1_remove 30 = .ok (.aload_n 0, 1) := by decide +kernel
theorem dX1_remove_31 : decode cX1_remove 31 = .ok (.dup, 1) := by decide +kernel
theorem dX1_remove_32 : decode cX1_remove 32 = .ok (.getfield 26, 3) := by decide +kernel
theorem dX1_remove_35 : decode cX1_remove 35 = .ok (.iconst 1, 1) := by decide +kernel
theorem dX1_remove_36 : decode cX1_remove 36 = .ok (.isub, 1) := by decide +kernel
theorem dX1_remove_37 : decode cX1_remove 37 = .ok (.putfield 26, 3) := by decide +kernel
theorem dX1_remove_40 : decode cX1_remove 40 = .ok (.return_, 1) := by decide +kernel
theorem dX1_hasBit_0 : decode cX1_hasBit 0 = .ok (.iload_n 0, 1) := by decide +kernel
theorem dX1_hasBit_1 : decode cX1_hasBit 1 = .ok (.iload_n 1, 1) := by decide +kernel
theorem dX1_hasBit_2 : decode cX1_hasBit 2 = .ok (.ishr, 1) := by decide +kernel
theorem dX1_hasBit_3 : decode cX1_hasBit 3 = .ok (.iconst 1, 1) := by decide +kernel
theorem dX1_hasBit_4 : decode cX1_hasBit 4 = .ok (.iand, 1) := by decide +kernel
theorem dX1_hasBit_5 : decode cX1_hasBit 5 = .ok (.ifCond .eq 7, 3) := by decide +kernel
theorem dX1_hasBit_8 : decode cX1_hasBit 8 = .ok (.iconst 1, 1) := by decide +kernel
theorem dX1_hasBit_9 : decode cX1_hasBit 9 = .ok (.goto 4, 3) := by decide +kernel
theorem dX1_hasBit_12 : decode cX1_hasBit 12 = .ok (.iconst 0, 1) := by decide +kernel
theorem dX1_hasBit_13 : decode cX1_hasBit 13 = .ok (.ireturn, 1) := by decide +kernel
theorem dX1_lowest_0 : decode cX1_lowest 0 = .ok (.iconst 0, 1) := by decide +kernel
theorem dX1_lowest_1 : decode cX1_lowest 1 = .ok (.istore_n 1, 1) := by decide +kernel
theorem dX1_lowest_2 : decode cX1_lowest 2 = .ok (.iload_n 1, 1) := by decide +kernel
theorem dX1_lowest_3 : decode cX1_lowest 3 = .ok (.bipush 6, 2) := by decide +kernel
theorem dX1_lowest_5 : decode cX1_lowest 5 = .ok (.if_icmp .ge 19, 3) := by decide +kernel
theorem dX1_lowest_8 : decode cX1_lowest 8 = .ok (.iload_n 0, 1) := by decide +kernel
theorem dX1_lowest_9 : decode cX1_lowest 9 = .ok (.iload_n 1, 1) := by decide +kernel
theorem dX1_lowest_10 : decode cX1_lowest 10 = .ok (.invokestatic 91, 3) := by decide +kernel
theorem dX1_lowest_13 : decode cX1_lowest 13 = .ok (.ifCond .eq 5, 3) := by decide +kernel
theorem dX1_lowest_16 : decode cX1_lowest 16 = .ok (.iload_n 1, 1) := by decide +kernel
theorem dX1_lowest_17 : decode cX1_lowest 17 = .ok (.ireturn, 1) := by decide +kernel
theorem dX1_lowest_18 : decode cX1_lowest 18 = .ok (.iinc 1 1, 3) := by decide +kernel
theorem dX1_lowest_21 : decode cX1_lowest 21 = .ok (.goto (-19), 3) := by decide +kernel
theorem dX1_lowest_24 : decode cX1_lowest 24 = .ok (.iconst 0, 1) := by decide +kernel
theorem dX1_lowest_25 : decode cX1_lowest 25 = .ok (.ireturn, 1) := by decide +kernel
theorem dX1_highest_0 : decode cX1_highest 0 = .ok (.iconst 5, 1) := by decide +kernel
theorem dX1_highest_1 : decode cX1_highest 1 = .ok (.istore_n 1, 1) := by decide +kernel
theorem dX1_highest_2 : decode cX1_highest 2 = .ok (.iload_n 1, 1) := by decide +kernel
theorem dX1_highest_3 : decode cX1_highest 3 = .ok (.ifCond .le 19, 3) := by decide +kernel
theorem dX1_highest_6 : decode cX1_highest 6 = .ok (.iload_n 0, 1) := by decide +kernel
theorem dX1_highest_7 : decode cX1_highest 7 = .ok (.iload_n 1, 1) := by decide +kernel
theorem dX1_highest_8 : decode cX1_highest 8 = .ok (.invokestatic 91, 3) := by decide +kernel
theorem dX1_highest_11 : decode cX1_highest 11 = .ok (.ifCond .eq 5, 3) := by decide +kernel
theorem dX1_highest_14 : decode cX1_highest 14 = .ok (.iload_n 1, 1) := by decide +kernel
theorem dX1_highest_15 : decode cX1_highest 15 = .ok (.ireturn, 1) := by decide +kernel
theorem dX1_highest_16 : decode cX1_highest 16 = .ok (.iinc 1 (-1), 3) := by decide +kernel
theorem dX1_highest_19 : decode cX1_highest 19 = .ok (.goto (-17), 3) := by decide +kernel
theorem dX1_highest_22 : decode cX1_highest 22 = .ok (.iconst 0, 1) := by decide +kernel
theorem dX1_highest_23 : decode cX1_highest 23 = .ok (.ireturn, 1) := by decide +kernel
theorem dJ6_bitCount_0f7a4_0 : decode cJ6_bitCount_0f7a4 0 = .ok (.iload_n 0, 1) := by decide +kernel
theorem dJ6_bitCount_0f7a4_1 : decode cJ6_bitCount_0f7a4 1 = .ok (.iload_n 0, 1) := by decide +kernel
theorem dJ6_bitCount_0f7a4_2 : decode cJ6_bitCount_0f7a4 2 = .ok (.iconst 1, 1) := by decide +kernel
theorem dJ6_bitCount_0f7a4_3 : decode cJ6_bitCount_0f7a4 3 = .ok (.iushr, 1) := by decide +kernel
theorem dJ6_bitCount_0f7a4_4 : decode cJ6_bitCount_0f7a4 4 = .ok (.ldc_w 265, 3) := by decide +kernel
theorem dJ6_bitCount_0f7a4_7 : decode cJ6_bitCount_0f7a4 7 = .ok (.iand, 1) := by decide +kernel
theorem dJ6_bitCount_0f7a4_8 : decode cJ6_bitCount_0f7a4 8 = .ok (.isub, 1) := by decide +kernel
theorem dJ6_bitCount_0f7a4_9 : decode cJ6_bitCount_0f7a4 9 = .ok (.istore_n 0, 1) := by decide +kernel
theorem dJ6_bitCount_0f7a4_10 : decode cJ6_bitCount_0f7a4 10 = .ok (.iload_n 0, 1) := by decide +kernel
theorem dJ6_bitCount_0f7a4_11 : decode cJ6_bitCount_0f7a4 11 = .ok (.ldc_w 266, 3) := by decide +kernel
theorem dJ6_bitCount_0f7a4_14 : decode cJ6_bitCount_0f7a4 14 = .ok (.iand, 1) := by decide +kernel
theorem dJ6_bitCount_0f7a4_15 : decode cJ6_bitCount_0f7a4 15 = .ok (.iload_n 0, 1) := by decide +kernel
theorem dJ6_bitCount_0f7a4_16 : decode cJ6_bitCount_0f7a4 16 = .ok (.iconst 2, 1) := by decide +kernel
theorem dJ6_bitCount_0f7a4_17 : decode cJ6_bitCount_0f7a4 17 = .ok (.iushr, 1) := by decide +kernel
theorem dJ6_bitCount_0f7a4_18 : decode cJ6_bitCount_0f7a4 18 = .ok (.ldc_w 266, 3) := by decide +kernel
theorem dJ6_bitCount_0f7a4_21 : decode cJ6_bitCount_0f7a4 21 = .ok (.iand, 1) := by decide +kernel
theorem dJ6_bitCount_0f7a4_22 : decode cJ6_bitCount_0f7a4 22 = .ok (.iadd, 1) := by decide +kernel
theorem dJ6_bitCount_0f7a4_23 : decode cJ6_bitCount_0f7a4 23 = .ok (.istore_n 0, 1) := by decide +kernel
theorem dJ6_bitCount_0f7a4_24 : decode cJ6_bitCount_0f7a4 24 = .ok (.iload_n 0, 1) := by decide +kernel
theorem dJ6_bitCount_0f7a4_25 : decode cJ6_bitCount_0f7a4 25 = .ok (.iload_n 0, 1) := by decide +kernel
theorem dJ6_bitCount_0f7a4_26 : decode cJ6_bitCount_0f7a4 26 = .ok (.iconst 4, 1) := by decide +kernel
theorem dJ6_bitCount_0f7a4_27 : decode cJ6_bitCount_0f7a4 27 = .ok (.iushr, 1) := by decide +kernel
theorem dJ6_bitCount_0f7a4_28 : decode cJ6_bitCount_0f7a4 28 = .ok (.iadd, 1) := by decide +kernel
theorem dJ6_bitCount_0f7a4_29 : decode cJ6_bitCount_0f7a4 29 = .ok (.ldc_w 267, 3) := by decide +kernel
theorem dJ6_bitCount_0f7a4_32 : decode cJ6_bitCount_0f7a4 32 = .ok (.iand, 1) := by decide +kernel
theorem dJ6_bitCount_0f7a4_33 : decode cJ6_bitCount_0f7a4 33 = .ok (.istore_n 0, 1) := by decide +kernel
theorem dJ6_bitCount_0f7a4_34 : decode cJ6_bitCount_0f7a4 34 = .ok (.iload_n 0, 1) := by decide +kernel
theorem dJ6_bitCount_0f7a4_35 : decode cJ6_bitCount_0f7a4 35 = .ok (.iload_n 0, 1) := by decide +kernel
theorem dJ6_bitCount_0f7a4_36 : decode cJ6_bitCount_0f7a4 36 = .ok (.bipush 8, 2) := by decide +kernel
theorem dJ6_bitCount_0f7a4_38 : decode cJ6_bitCount_0f7a4 38 = .ok (.iushr, 1) := by decide +kernel
theorem dJ6_bitCount_0f7a4_39 : decode cJ6_bitCount_0f7a4 39 = .ok (.iadd, 1) := by decide +kernel
theorem dJ6_bitCount_0f7a4_40 : decode cJ6_bitCount_0f7a4 40 = .ok (.istore_n 0, 1) := by decide +kernel
theorem dJ6_bitCount_0f7a4_41 : decode cJ6_bitCount_0f7a4 41 = .ok (.iload_n 0, 1) := by decide +kernel
theorem dJ6_bitCount_0f7a4_42 : decode cJ6_bitCount_0f7a4 42 = .ok (.iload_n 0, 1) := by decide +kernel
theorem dJ6_bitCount_0f7a4_43 : decode cJ6_bitCount_0f7a4 43 = .ok (.bipush 16, 2) := by decide +kernel
theorem dJ6_bitCount_0f7a4_45 : decode cJ6_bitCount_0f7a4 45 = .ok (.iushr, 1) := by decide +kernel
theorem dJ6_bitCount_0f7a4_46 : decode cJ6_bitCount_0f7a4 46 = .ok (.iadd, 1) := by decide +kernel
theorem dJ6_bitCount_0f7a4_47 : decode cJ6_bitCount_0f7a4 47 = .ok (.istore_n 0, 1) := by decide +kernel
theorem dJ6_bitCount_0f7a4_48 : decode cJ6_bitCount_0f7a4 48 = .ok (.iload_n 0, 1) := by decide +kernel
theorem dJ6_bitCount_0f7a4_49 : decode cJ6_bitCount_0f7a4 49 = .ok (.bipush 63, 2) := by decide +kernel
theorem dJ6_bitCount_0f7a4_51 : decode cJ6_bitCount_0f7a4 51 = .ok (.iand, 1) := by decide +kernel
theorem dJ6_bitCount_0f7a4_52 : decode cJ6_bitCount_0f7a4 52 = .ok (.ireturn, 1) := by decide +kernel
theorem dX3_votesIn_0 : decode cX3_votesIn 0 = .ok (.iload_n 1, 1) := by decide +kernel
theorem dX3_votesIn_1 : decode cX3_votesIn 1 = .ok (.ifCond .ge 7, 3) := by decide +kernel
theorem dX3_votesIn_4 : decode cX3_votesIn 4 = .ok (.iconst 0, 1) := by decide +kernel
theorem dX3_votesIn_5 : decode cX3_votesIn 5 = .ok (.goto 14, 3) := by decide +kernel
theorem dX3_votesIn_8 : decode cX3_votesIn 8 = .ok (.aload_n 0, 1) := by decide +kernel
theorem dX3_votesIn_9 : decode cX3_votesIn 9 = .ok (.getfield 9, 3) := by decide +kernel
theorem dX3_votesIn_12 : decode cX3_votesIn 12 = .ok (.iload_n 1, 1) := by decide +kernel
theorem dX3_votesIn_13 : decode cX3_votesIn 13 = .ok (.bipush 6, 2) := by decide +kernel
theorem dX3_votesIn_15 : decode cX3_votesIn 15 = .ok (.imul, 1) := by decide +kernel
theorem dX3_votesIn_16 : decode cX3_votesIn 16 = .ok (.iload_n 2, 1) := by decide +kernel
theorem dX3_votesIn_17 : decode cX3_votesIn 17 = .ok (.iadd, 1) := by decide +kernel
theorem dX3_votesIn_18 : decode cX3_votesIn 18 = .ok (.iaload, 1) := by decide +kernel
theorem dX3_votesIn_19 : decode cX3_votesIn 19 = .ok (.ireturn, 1) := by decide +kernel
theorem dX1_leaders_0 : decode cX1_leaders 0 = .ok (.iconst 0, 1) := by decide +kernel
theorem dX1_leaders_1 : decode cX1_leaders 1 = .ok (.istore 4, 2) := by decide +kernel
theorem dX1_leaders_3 : decode cX1_leaders 3 = .ok (.iconst 0, 1) := by decide +kernel
theorem dX1_leaders_4 : decode cX1_leaders 4 = .ok (.istore 5, 2) := by decide +kernel
theorem dX1_leaders_6 : decode cX1_leaders 6 = .ok (.iconst 0, 1) := by decide +kernel
theorem dX1_leaders_7 : decode cX1_leaders 7 = .ok (.istore 6, 2) := by decide +kernel
theorem dX1_leaders_9 : decode cX1_leaders 9 = .ok (.iload 6, 2) := by decide +kernel
theorem dX1_leaders_11 : decode cX1_leaders 11 = .ok (.bipush 6, 2) := by decide +kernel
theorem dX1_leaders_13 : decode cX1_leaders 13 = .ok (.if_icmp .ge 85, 3) := by decide +kernel
theorem dX1_leaders_16 : decode cX1_leaders 16 = .ok (.iload_n 1, 1) := by decide +kernel
theorem dX1_leaders_17 : decode cX1_leaders 17 = .ok (.iload 6, 2) := by decide +kernel
theorem dX1_leaders_19 : decode cX1_leaders 19 = .ok (.invokestatic 91, 3) := by decide +kernel
theorem dX1_leaders_22 : decode cX1_leaders 22 = .ok (.ifCond .ne 6, 3) := by decide +kernel
theorem dX1_leaders_25 : decode cX1_leaders 25 = .ok (.goto 67, 3) := by decide +kernel
theorem dX1_leaders_28 : decode cX1_leaders 28 = .ok (.aload_n 0, 1) := by decide +kernel
theorem dX1_leaders_29 : decode cX1_leaders 29 = .ok (.iload_n 2, 1) := by decide +kernel
theorem dX1_leaders_30 : decode cX1_leaders 30 = .ok (.iload 6, 2) := by decide +kernel
theorem dX1_leaders_32 : decode cX1_leaders 32 = .ok (.invokevirtual 84, 3) := by decide +kernel
theorem dX1_leaders_35 : decode cX1_leaders 35 = .ok (.istore 7, 2) := by decide +kernel
theorem dX1_leaders_37 : decode cX1_leaders 37 = .ok (.iload 4, 2) := by decide +kernel
theorem dX1_leaders_39 : decode cX1_leaders 39 = .ok (.ifCond .eq 24, 3) := by decide +kernel
theorem dX1_leaders_42 : decode cX1_leaders 42 = .ok (.iload_n 3, 1) := by decide +kernel
theorem dX1_leaders_43 : decode cX1_leaders 43 = .ok (.ifCond .eq 13, 3) := by decide +kernel
theorem dX1_leaders_46 : decode cX1_leaders 46 = .ok (.iload 7, 2) := by decide +kernel
theorem dX1_leaders_48 : decode cX1_leaders 48 = .ok (.iload 5, 2) := by decide +kernel
theorem dX1_leaders_50 : decode cX1_leaders 50 = .ok (.if_icmp .le 26, 3) := by decide +kernel
theorem dX1_leaders_53 : decode cX1_leaders 53 = .ok (.goto 10, 3) := by decide +kernel
theorem dX1_leaders_56 : decode cX1_leaders 56 = .ok (.iload 7, 2) := by decide +kernel
theorem dX1_leaders_58 : decode cX1_leaders 58 = .ok (.iload 5, 2) := by decide +kernel
theorem dX1_leaders_60 : decode cX1_leaders 60 = .ok (.if_icmp .ge 16, 3) := by decide +kernel
theorem dX1_leaders_63 : decode cX1_leaders 63 = .ok (.iconst 1, 1) := by decide +kernel
theorem dX1_leaders_64 : decode cX1_leaders 64 = .ok (.iload 6, 2) := by decide +kernel
theorem dX1_leaders_66 : decode cX1_leaders 66 = .ok (.ishl, 1) := by decide +kernel
theorem dX1_leaders_67 : decode cX1_leaders 67 = .ok (.istore 4, 2) := by decide +kernel
theorem dX1_leaders_69 : decode cX1_leaders 69 = .ok (.iload 7, 2) := by decide +kernel
theorem dX1_leaders_71 : decode cX1_leaders 71 = .ok (.istore 5, 2) := by decide +kernel
theorem dX1_leaders_73 : decode cX1_leaders 73 = .ok (.goto 19, 3) := by decide +kernel
theorem dX1_leaders_76 : decode cX1_leaders 76 = .ok (.iload 7, 2) := by decide +kernel
theorem dX1_leaders_78 : decode cX1_leaders 78 = .ok (.iload 5, 2) := by decide +kernel
theorem dX1_leaders_80 : decode cX1_leaders 80 = .ok (.if_icmp .ne 12, 3) := by decide +kernel
theorem dX1_leaders_83 : decode cX1_leaders 83 = .ok (.iload 4, 2) := by decide +kernel
theorem dX1_leaders_85 : decode cX1_leaders 85 = .ok (.iconst 1, 1) := by decide +kernel
theorem dX1_leaders_86 : decode cX1_leaders 86 = .ok (.iload 6, 2) := by decide +kernel
theorem dX1_leaders_88 : decode cX1_leaders 88 = .ok (.ishl, 1) := by decide +kernel
theorem dX1_leaders_89 : decode cX1_leaders 89 = .ok (.ior, 1) := by decide +kernel
theorem dX1_leaders_90 : decode cX1_leaders 90 = .ok (.istore 4, 2) := by decide +kernel
theorem dX1_leaders_92 : decode cX1_leaders 92 = .ok (.iinc 6 1, 3) := by decide +kernel
theorem dX1_leaders_95 : decode cX1_leaders 95 = .ok (.goto (-86), 3) := by decide +kernel
theorem dX1_leaders_98 : decode cX1_leaders 98 = .ok (.iload 4, 2) := by decide +kernel
theorem dX1_leaders_100 : decode cX1_leaders 100 = .ok (.ireturn, 1) := by decide +kernel
theorem dX3_weightOf_0 : decode cX3_weightOf 0 = .ok (.iload_n 1, 1) := by decide +kernel
theorem dX3_weightOf_1 : decode cX3_weightOf 1 = .ok (.ifCond .ge 7, 3) := by decide +kernel
theorem dX3_weightOf_4 : decode cX3_weightOf 4 = .ok (.iconst 0, 1) := by decide +kernel
theorem dX3_weightOf_5 : decode cX3_weightOf 5 = .ok (.goto 9, 3) := by decide +kernel
theorem dX3_weightOf_8 : decode cX3_weightOf 8 = .ok (.aload_n 0, 1) := by decide +kernel
theorem dX3_weightOf_9 : decode cX3_weightOf 9 = .ok (.getfield 18, 3) := by decide +kernel
theorem dX3_weightOf_12 : decode cX3_weightOf 12 = .ok (.iload_n 1, 1) := by decide +kernel
theorem dX3_weightOf_13 : decode cX3_weightOf 13 = .ok (.iaload, 1) := by decide +kernel
theorem dX3_weightOf_14 : decode cX3_weightOf 14 = .ok (.ireturn, 1) := by decide +kernel
theorem dX1_maySomeGo_0 : decode cX1_maySomeGo 0 = .ok (.iload_n 1, 1) := by decide +kernel
theorem dX1_maySomeGo_1 : decode cX1_maySomeGo 1 = .ok (.bipush 120, 2) := by decide +kernel
theorem dX1_maySomeGo_3 : decode cX1_maySomeGo 3 = .ok (.if_icmp .ne 23, 3) := by decide +kernel
theorem dX1_maySomeGo_6 : decode cX1_maySomeGo 6 = .ok (.aload_n 0, 1) := by decide +kernel
theorem dX1_maySomeGo_7 : decode cX1_maySomeGo 7 = .ok (.getfield 29, 3) := by decide +kernel
theorem dX1_maySomeGo_10 : decode cX1_maySomeGo 10 = .ok (.invokestatic 69, 3) := by decide +kernel
theorem dX1_maySomeGo_13 : decode cX1_maySomeGo 13 = .ok (.aload_n 0, 1) := by decide +kernel
theorem dX1_maySomeGo_14 : decode cX1_maySomeGo 14 = .ok (.getfield 26, 3) := by decide +kernel
theorem dX1_maySomeGo_17 : decode cX1_maySomeGo 17 = .ok (.if_icmp .le 7, 3) := by decide +kernel
theorem dX1_maySomeGo_20 : decode cX1_maySomeGo 20 = .ok (.iconst 1, 1) := by decide +kernel
theorem dX1_maySomeGo_21 : decode cX1_maySomeGo 21 = .ok (.goto 4, 3) := by decide +kernel
theorem dX1_maySomeGo_24 : decode cX1_maySomeGo 24 = .ok (.iconst 0, 1) := by decide +kernel
theorem dX1_maySomeGo_25 : decode cX1_maySomeGo 25 = .ok (.ireturn, 1) := by decide +kernel
theorem dX1_maySomeGo_26 : decode cX1_maySomeGo 26 = .ok (.iload_n 1, 1) := by decide +kernel
theorem dX1_maySomeGo_27 : decode cX1_maySomeGo 27 = .ok (.bipush 101, 2) := by decide +kernel
theorem dX1_maySomeGo_29 : decode cX1_maySomeGo 29 = .ok (.if_icmp .ne 45, 3) := by decide +kernel
theorem dX1_maySomeGo_32 : decode cX1_maySomeGo 32 = .ok (.iload_n 3, 1) := by decide +kernel
theorem dX1_maySomeGo_33 : decode cX1_maySomeGo 33 = .ok (.ifCond .eq 41, 3) := by decide +kernel
theorem dX1_maySomeGo_36 : decode cX1_maySomeGo 36 = .ok (.aload_n 0, 1) := by decide +kernel
theorem dX1_maySomeGo_37 : decode cX1_maySomeGo 37 = .ok (.getfield 23, 3) := by decide +kernel
theorem dX1_maySomeGo_40 : decode cX1_maySomeGo 40 = .ok (.iconst 1, 1) := by decide +kernel
theorem dX1_maySomeGo_41 : decode cX1_maySomeGo 41 = .ok (.isub, 1) := by decide +kernel
theorem dX1_maySomeGo_42 : decode cX1_maySomeGo 42 = .ok (.istore 4, 2) := by decide +kernel
theorem dX1_maySomeGo_44 : decode cX1_maySomeGo 44 = .ok (.bipush 100, 2) := by decide +kernel
theorem dX1_maySomeGo_46 : decode cX1_maySomeGo 46 = .ok (.aload_n 0, 1) := by decide +kernel
theorem dX1_maySomeGo_47 : decode cX1_maySomeGo 47 = .ok (.iload 4, 2) := by decide +kernel
theorem dX1_maySomeGo_49 : decode cX1_maySomeGo 49 = .ok (.iload_n 3, 1) := by decide +kernel
theorem dX1_maySomeGo_50 : decode cX1_maySomeGo 50 = .ok (.invokestatic 77, 3) := by decide +kernel
theorem dX1_maySomeGo_53 : decode cX1_maySomeGo 53 = .ok (.invokevirtual 84, 3) := by decide +kernel
theorem dX1_maySomeGo_56 : decode cX1_maySomeGo 56 = .ok (.imul, 1) := by decide +kernel
theorem dX1_maySomeGo_57 : decode cX1_maySomeGo 57 = .ok (.iload_n 2, 1) := by decide +kernel
theorem dX1_maySomeGo_58 : decode cX1_maySomeGo 58 = .ok (.aload_n 0, 1) := by decide +kernel
theorem dX1_maySomeGo_59 : decode cX1_maySomeGo 59 = .ok (.iload 4, 2) := by decide +kernel
theorem dX1_maySomeGo_61 : decode cX1_maySomeGo 61 = .ok (.invokevirtual 88, 3) := by decide +kernel
theorem dX1_maySomeGo_64 : decode cX1_maySomeGo 64 = .ok (.imul, 1) := by decide +kernel
theorem dX1_maySomeGo_65 : decode cX1_maySomeGo 65 = .ok (.if_icmp .le 7, 3) := by decide +kernel
theorem dX1_maySomeGo_68 : decode cX1_maySomeGo 68 = .ok (.iconst 1, 1) := by decide +kernel
theorem dX1_maySomeGo_69 : decode cX1_maySomeGo 69 = .ok (.goto 4, 3) := by decide +kernel
theorem dX1_maySomeGo_72 : decode cX1_maySomeGo 72 = .ok (.iconst 0, 1) := by decide +kernel
theorem dX1_maySomeGo_73 : decode cX1_maySomeGo 73 = .ok (.ireturn, 1) := by decide +kernel
theorem dX1_maySomeGo_74 : decode cX1_maySomeGo 74 = .ok (.iload_n 3, 1) := by decide +kernel
theorem dX1_maySomeGo_75 : decode cX1_maySomeGo 75 = .ok (.ifCond .eq 7, 3) := by decide +kernel
theorem dX1_maySomeGo_78 : decode cX1_maySomeGo 78 = .ok (.iconst 1, 1) := by decide +kernel
theorem dX1_maySomeGo_79 : decode cX1_maySomeGo 79 = .ok (.goto 4, 3) := by decide +kernel
theorem dX1_maySomeGo_82 : decode cX1_maySomeGo 82 = .ok (.iconst 0, 1) := by decide +kernel
theorem dX1_maySomeGo_83 : decode cX1_maySomeGo 83 = .ok (.ireturn, 1) := by decide +kernel
theorem dX1_keepTie_0 : decode cX1_keepTie 0 = .ok (.iload_n 1, 1) := by decide +kernel
theorem dX1_keepTie_1 : decode cX1_keepTie 1 = .ok (.invokestatic 69, 3) := by decide +kernel
theorem dX1_keepTie_4 : decode cX1_keepTie 4 = .ok (.iconst 1, 1) := by decide +kernel
theorem dX1_keepTie_5 : decode cX1_keepTie 5 = .ok (.if_icmp .le 32, 3) := by decide +kernel
theorem dX1_keepTie_8 : decode cX1_keepTie 8 = .ok (.aload_n 0, 1) := by decide +kernel
theorem dX1_keepTie_9 : decode cX1_keepTie 9 = .ok (.getfield 19, 3) := by decide +kernel
theorem dX1_keepTie_12 : decode cX1_keepTie 12 = .ok (.bipush 6, 2) := by decide +kernel
theorem dX1_keepTie_14 : decode cX1_keepTie 14 = .ok (.if_icmp .ge 23, 3) := by decide +kernel
theorem dX1_keepTie_17 : decode cX1_keepTie 17 = .ok (.aload_n 0, 1) := by decide +kernel
theorem dX1_keepTie_18 : decode cX1_keepTie 18 = .ok (.getfield 9, 3) := by decide +kernel
theorem dX1_keepTie_21 : decode cX1_keepTie 21 = .ok (.aload_n 0, 1) := by decide +kernel
theorem dX1_keepTie_22 : decode cX1_keepTie 22 = .ok (.getfield 19, 3) := by decide +kernel
theorem dX1_keepTie_25 : decode cX1_keepTie 25 = .ok (.iload_n 1, 1) := by decide +kernel
theorem dX1_keepTie_26 : decode cX1_keepTie 26 = .ok (.iastore, 1) := by decide +kernel
theorem dX1_keepTie_27 : decode cX1_keepTie 27 = .ok (.aload_n 0, 1) := by decide +kernel
theorem dX1_keepTie_28 : decode cX1_keepTie 28 = .ok (.dup, 1) := by decide +kernel
theorem dX1_keepTie_29 : decode cX1_keepTie 29 = .ok (.getfield 19, 3) := by decide +kernel
theorem dX1_keepTie_32 : decode cX1_keepTie 32 = .ok (.iconst 1, 1) := by decide +kernel
theorem dX1_keepTie_33 : decode cX1_keepTie 33 = .ok (.iadd, 1) := by decide +kernel
theorem dX1_keepTie_34 : decode cX1_keepTie 34 = .ok (.putfield 19, 3) := by decide +kernel
theorem dX1_keepTie_37 : decode cX1_keepTie 37 = .ok (.return_, 1) := by decide +kernel
theorem dX1_letGo_0 : decode cX1_letGo 0 = .ok (.iload_n 1, 1) := by decide +kernel
theorem dX1_letGo_1 : decode cX1_letGo 1 = .ok (.bipush 120, 2) := by decide +kernel
theorem dX1_letGo_3 : decode cX1_letGo 3 = .ok (.if_icmp .eq 7, 3) := by decide +kernel
theorem dX1_letGo_6 : decode cX1_letGo 6 = .ok (.iconst 1, 1) := by decide +kernel
theorem dX1_letGo_7 : decode cX1_letGo 7 = .ok (.goto 4, 3) := by decide +kernel
theorem dX1_letGo_10 : decode cX1_letGo 10 = .ok (.iconst 0, 1) := by decide +kernel
theorem dX1_letGo_11 : decode cX1_letGo 11 = .ok (.istore_n 3, 1) := by decide +kernel
theorem dX1_letGo_12 : decode cX1_letGo 12 = .ok (.iload_n 1, 1) := by decide +kernel
theorem dX1_letGo_13 : decode cX1_letGo 13 = .ok (.bipush 101, 2) := by decide +kernel
theorem dX1_letGo_15 : decode cX1_letGo 15 = .ok (.if_icmp .eq 9, 3) := by decide +kernel
theorem dX1_letGo_18 : decode cX1_letGo 18 = .ok (.iload_n 1, 1) := by decide +kernel
theorem dX1_letGo_19 : decode cX1_letGo 19 = .ok (.bipush 114, 2) := by decide +kernel
theorem dX1_letGo_21 : decode cX1_letGo 21 = .ok (.if_icmp .ne 8, 3) := by decide +kernel
theorem dX1_letGo_24 : decode cX1_letGo 24 = .ok (.bipush 6, 2) := by decide +kernel
theorem dX1_letGo_26 : decode cX1_letGo 26 = .ok (.goto 4, 3) := by decide +kernel
theorem dX1_letGo_29 : decode cX1_letGo 29 = .ok (.iconst 1, 1) := by decide +kernel
theorem dX1_letGo_30 : decode cX1_letGo 30 = .ok (.istore 4, 2) := by decide +kernel
theorem dX1_letGo_32 : decode cX1_letGo 32 = .ok (.aload_n 0, 1) := by decide +kernel
theorem dX1_letGo_33 : decode cX1_letGo 33 = .ok (.getfield 23, 3) := by decide +kernel
theorem dX1_letGo_36 : decode cX1_letGo 36 = .ok (.iconst 1, 1) := by decide +kernel
theorem dX1_letGo_37 : decode cX1_letGo 37 = .ok (.isub, 1) := by decide +kernel
theorem dX1_letGo_38 : decode cX1_letGo 38 = .ok (.istore 5, 2) := by decide +kernel
theorem dX1_letGo_40 : decode cX1_letGo 40 = .ok (.iconst 0, 1) := by decide +kernel
theorem dX1_letGo_41 : decode cX1_letGo 41 = .ok (.istore 6, 2) := by decide +kernel
theorem dX1_letGo_43 : decode cX1_letGo 43 = .ok (.iload 6, 2) := by decide +kernel
theorem dX1_letGo_45 : decode cX1_letGo 45 = .ok (.iload 4, 2) := by decide +kernel
theorem dX1_letGo_47 : decode cX1_letGo 47 = .ok (.if_icmp .ge 128, 3) := by decide +kernel
theorem dX1_letGo_50 : decode cX1_letGo 50 = .ok (.aload_n 0, 1) := by decide +kernel
theorem dX1_letGo_51 : decode cX1_letGo 51 = .ok (.getfield 26, 3) := by decide +kernel
theorem dX1_letGo_54 : decode cX1_letGo 54 = .ok (.ifCond .le 121, 3) := by decide +kernel
theorem dX1_letGo_57 : decode cX1_letGo 57 = .ok (.aload_n 0, 1) := by decide +kernel
theorem dX1_letGo_58 : decode cX1_letGo 58 = .ok (.aload_n 0, 1) := by decide +kernel
theorem dX1_letGo_59 : decode cX1_letGo 59 = .ok (.getfield 29, 3) := by decide +kernel
theorem dX1_letGo_62 : decode cX1_letGo 62 = .ok (.iload 5, 2) := by decide +kernel
theorem dX1_letGo_64 : decode cX1_letGo 64 = .ok (.iload_n 3, 1) := by decide +kernel
theorem dX1_letGo_65 : decode cX1_letGo 65 = .ok (.invokevirtual 57, 3) := by decide +kernel
theorem dX1_letGo_68 : decode cX1_letGo 68 = .ok (.istore 7, 2) := by decide +kernel
theorem dX1_letGo_70 : decode cX1_letGo 70 = .ok (.aload_n 0, 1) := by decide +kernel
theorem dX1_letGo_71 : decode cX1_letGo 71 = .ok (.iload_n 1, 1) := by decide +kernel
theorem dX1_letGo_72 : decode cX1_letGo 72 = .ok (.iload_n 2, 1) := by decide +kernel
theorem dX1_letGo_73 : decode cX1_letGo 73 = .ok (.iload 7, 2) := by decide +kernel
theorem dX1_letGo_75 : decode cX1_letGo 75 = .ok (.invokevirtual 61, 3) := by decide +kernel
theorem dX1_letGo_78 : decode cX1_letGo 78 = .ok (.ifCond .ne 4, 3) := by decide +kernel
theorem dX1_letGo_81 : decode cX1_letGo 81 = .ok (.return_, 1) := by decide +kernel
theorem dX1_letGo_82 : decode cX1_letGo 82 = .ok (.aload_n 0, 1) := by decide +kernel
theorem dX1_letGo_83 : decode cX1_letGo 83 = .ok (.iload 7, 2) := by decide +kernel
theorem dX1_letGo_85 : decode cX1_letGo 85 = .ok (.invokevirtual 65, 3) := by decide +kernel
theorem dX1_letGo_88 : decode cX1_letGo 88 = .ok (.aload_n 0, 1) := by decide +kernel
theorem dX1_letGo_89 : decode cX1_letGo 89 = .ok (.getfield 35, 3) := by decide +kernel
theorem dX1_letGo_92 : decode cX1_letGo 92 = .ok (.bipush 113, 2) := by decide +kernel
theorem dX1_letGo_94 : decode cX1_letGo 94 = .ok (.if_icmp .ne 10, 3) := by decide +kernel
theorem dX1_letGo_97 : decode cX1_letGo 97 = .ok (.iload 5, 2) := by decide +kernel
theorem dX1_letGo_99 : decode cX1_letGo 99 = .ok (.iconst 1, 1) := by decide +kernel
theorem dX1_letGo_100 : decode cX1_letGo 100 = .ok (.isub, 1) := by decide +kernel
theorem dX1_letGo_101 : decode cX1_letGo 101 = .ok (.goto 4, 3) := by decide +kernel
theorem dX1_letGo_104 : decode cX1_letGo 104 = .ok (.iconst (-1), 1) := by decide +kernel
theorem dX1_letGo_105 : decode cX1_letGo 105 = .ok (.istore 8, 2) := by decide +kernel
theorem dX1_letGo_107 : decode cX1_letGo 107 = .ok (.iload 8, 2) := by decide +kernel
theorem dX1_letGo_109 : decode cX1_letGo 109 = .ok (.istore 9, 2) := by decide +kernel
theorem dX1_letGo_111 : decode cX1_letGo 111 = .ok (.iload 9, 2) := by decide +kernel
theorem dX1_letGo_113 : decode cX1_letGo 113 = .ok (.ifCond .lt 29, 3) := by decide +kernel
theorem dX1_letGo_116 : decode cX1_letGo 116 = .ok (.iload 7, 2) := by decide +kernel
theorem dX1_letGo_118 : decode cX1_letGo 118 = .ok (.invokestatic 69, 3) := by decide +kernel
theorem dX1_letGo_121 : decode cX1_letGo 121 = .ok (.iconst 1, 1) := by decide +kernel
theorem dX1_letGo_122 : decode cX1_letGo 122 = .ok (.if_icmp .le 20, 3) := by decide +kernel
theorem dX1_letGo_125 : decode cX1_letGo 125 = .ok (.aload_n 0, 1) := by decide +kernel
theorem dX1_letGo_126 : decode cX1_letGo 126 = .ok (.iload 7, 2) := by decide +kernel
theorem dX1_letGo_128 : decode cX1_letGo 128 = .ok (.iload 9, 2) := by decide +kernel
theorem dX1_letGo_130 : decode cX1_letGo 130 = .ok (.iload_n 3, 1) := by decide +kernel
theorem dX1_letGo_131 : decode cX1_letGo 131 = .ok (.invokevirtual 57, 3) := by decide +kernel
theorem dX1_letGo_134 : decode cX1_letGo 134 = .ok (.istore 7, 2) := by decide +kernel
theorem dX1_letGo_136 : decode cX1_letGo 136 = .ok (.iinc 9 (-1), 3) := by decide +kernel
theorem dX1_letGo_139 : decode cX1_letGo 139 = .ok (.goto (-28), 3) := by decide +kernel
theorem dX1_letGo_142 : decode cX1_letGo 142 = .ok (.aload_n 0, 1) := by decide +kernel
theorem dX1_letGo_143 : decode cX1_letGo 143 = .ok (.aload_n 0, 1) := by decide +kernel
theorem dX1_letGo_144 : decode cX1_letGo 144 = .ok (.getfield 35, 3) := by decide +kernel
theorem dX1_letGo_147 : decode cX1_letGo 147 = .ok (.bipush 104, 2) := by decide +kernel
theorem dX1_letGo_149 : decode cX1_letGo 149 = .ok (.if_icmp .ne 11, 3) := by decide +kernel
theorem dX1_letGo_152 : decode cX1_letGo 152 = .ok (.iload 7, 2) := by decide +kernel
theorem dX1_letGo_154 : decode cX1_letGo 154 = .ok (.invokestatic 74, 3) := by decide +kernel
theorem dX1_letGo_157 : decode cX1_letGo 157 = .ok (.goto 8, 3) := by decide +kernel
theorem dX1_letGo_160 : decode cX1_letGo 160 = .ok (.iload 7, 2) := by decide +kernel
theorem dX1_letGo_162 : decode cX1_letGo 162 = .ok (.invokestatic 77, 3) := by decide +kernel
theorem dX1_letGo_165 : decode cX1_letGo 165 = .ok (.iload_n 3, 1) := by decide +kernel
theorem dX1_letGo_166 : decode cX1_letGo 166 = .ok (.invokevirtual 80, 3) := by decide +kernel
theorem dX1_letGo_169 : decode cX1_letGo 169 = .ok (.iinc 6 1, 3) := by decide +kernel
theorem dX1_letGo_172 : decode cX1_letGo 172 = .ok (.goto (-129), 3) := by decide +kernel
theorem dX1_letGo_175 : decode cX1_letGo 175 = .ok (.return_, 1) := by decide +kernel
theorem dX0_candidateAt_0 : decode cX0_candidateAt 0 = .ok (.iload_n 2, 1) := by decide +kernel
theorem dX0_candidateAt_1 : decode cX0_candidateAt 1 = .ok (.aload_n 0, 1) := by decide +kernel
theorem dX0_candidateAt_2 : decode cX0_candidateAt 2 = .ok (.getfield 24, 3) := by decide +kernel
theorem dX0_candidateAt_5 : decode cX0_candidateAt 5 = .ok (.iload_n 1, 1) := by decide +kernel
theorem dX0_candidateAt_6 : decode cX0_candidateAt 6 = .ok (.iaload, 1) := by decide +kernel
theorem dX0_candidateAt_7 : decode cX0_candidateAt 7 = .ok (.if_icmp .lt 5, 3) := by decide +kernel
theorem dX0_candidateAt_10 : decode cX0_candidateAt 10 = .ok (.iconst (-1), 1) := by decide +kernel
theorem dX0_candidateAt_11 : decode cX0_candidateAt 11 = .ok (.ireturn, 1) := by decide +kernel
theorem dX0_candidateAt_12 : decode cX0_candidateAt 12 = .ok (.aload_n 0, 1) := by decide +kernel
theorem dX0_candidateAt_13 : decode cX0_candidateAt 13 = .ok (.getfield 30, 3) := by decide +kernel
theorem dX0_candidateAt_16 : decode cX0_candidateAt 16 = .ok (.iload_n 1, 1) := by decide +kernel
theorem dX0_candidateAt_17 : decode cX0_candidateAt 17 = .ok (.baload, 1) := by decide +kernel
theorem dX0_candidateAt_18 : decode cX0_candidateAt 18 = .ok (.ifCond .eq 14, 3) := by decide +kernel
theorem dX0_candidateAt_21 : decode cX0_candidateAt 21 = .ok (.iload_n 2, 1) := by decide +kernel
theorem dX0_candidateAt_22 : decode cX0_candidateAt 22 = .ok (.iconst 2, 1) := by decide +kernel
theorem dX0_candidateAt_23 : decode cX0_candidateAt 23 = .ok (.if_icmp .ge 9, 3) := by decide +kernel
theorem dX0_candidateAt_26 : decode cX0_candidateAt 26 = .ok (.iconst 1, 1) := by decide +kernel
theorem dX0_candidateAt_27 : decode cX0_candidateAt 27 = .ok (.iload_n 2, 1) := by decide +kernel
theorem dX0_candidateAt_28 : decode cX0_candidateAt 28 = .ok (.isub, 1) := by decide +kernel
theorem dX0_candidateAt_29 : decode cX0_candidateAt 29 = .ok (.goto 4, 3) := by decide +kernel
theorem dX0_candidateAt_32 : decode cX0_candidateAt 32 = .ok (.iload_n 2, 1) := by decide +kernel
theorem dX0_candidateAt_33 : decode cX0_candidateAt 33 = .ok (.istore_n 3, 1) := by decide +kernel
theorem dX0_candidateAt_34 : decode cX0_candidateAt 34 = .ok (.aload_n 0, 1) := by decide +kernel
theorem dX0_candidateAt_35 : decode cX0_candidateAt 35 = .ok (.getfield 27, 3) := by decide +kernel
theorem dX0_candidateAt_38 : decode cX0_candidateAt 38 = .ok (.iload_n 1, 1) := by decide +kernel
theorem dX0_candidateAt_39 : decode cX0_candidateAt 39 = .ok (.bipush 6, 2) := by decide +kernel
theorem dX0_candidateAt_41 : decode cX0_candidateAt 41 = .ok (.imul, 1) := by decide +kernel
theorem dX0_candidateAt_42 : decode cX0_candidateAt 42 = .ok (.iload_n 3, 1) := by decide +kernel
theorem dX0_candidateAt_43 : decode cX0_candidateAt 43 = .ok (.iadd, 1) := by decide +kernel
theorem dX0_candidateAt_44 : decode cX0_candidateAt 44 = .ok (.iaload, 1) := by decide +kernel
theorem dX0_candidateAt_45 : decode cX0_candidateAt 45 = .ok (.ireturn, 1) := by decide +kernel
theorem dX3_addBallot_0 : decode cX3_addBallot 0 = .ok (.iload_n 2, 1) := by decide +kernel
theorem dX3_addBallot_1 : decode cX3_addBallot 1 = .ok (.bipush 98, 2) := by decide +kernel
theorem dX3_addBallot_3 : decode cX3_addBallot 3 = .ok (.if_icmp .ne 13, 3) := by decide +kernel
theorem dX3_addBallot_6 : decode cX3_addBallot 6 = .ok (.aload_n 0, 1) := by decide +kernel
theorem dX3_addBallot_7 : decode cX3_addBallot 7 = .ok (.getfield 44, 3) := by decide +kernel
theorem dX3_addBallot_10 : decode cX3_addBallot 10 = .ok (.invokestatic 74, 3) := by decide +kernel
theorem dX3_addBallot_13 : decode cX3_addBallot 13 = .ok (.goto 4, 3) := by decide +kernel
theorem dX3_addBallot_16 : decode cX3_addBallot 16 = .ok (.iconst 1, 1) := by decide +kernel
theorem dX3_addBallot_17 : decode cX3_addBallot 17 = .ok (.istore 4, 2) := by decide +kernel
theorem dX3_addBallot_19 : decode cX3_addBallot 19 = .ok (.iconst 0, 1) := by decide +kernel
theorem dX3_addBallot_20 : decode cX3_addBallot 20 = .ok (.istore 5, 2) := by decide +kernel
theorem dX3_addBallot_22 : decode cX3_addBallot 22 = .ok (.iconst 0, 1) := by decide +kernel
theorem dX3_addBallot_23 : decode cX3_addBallot 23 = .ok (.istore 6, 2) := by decide +kernel
theorem dX3_addBallot_25 : decode cX3_addBallot 25 = .ok (.iload 6, 2) := by decide +kernel
theorem dX3_addBallot_27 : decode cX3_addBallot 27 = .ok (.aload_n 0, 1) := by decide +kernel
theorem dX3_addBallot_28 : decode cX3_addBallot 28 = .ok (.getfield 58, 3) := by decide +kernel
theorem dX3_addBallot_31 : decode cX3_addBallot 31 = .ok (.getfield 80, 3) := by decide +kernel
theorem dX3_addBallot_34 : decode cX3_addBallot 34 = .ok (.iload_n 1, 1) := by decide +kernel
theorem dX3_addBallot_35 : decode cX3_addBallot 35 = .ok (.iaload, 1) := by decide +kernel
theorem dX3_addBallot_36 : decode cX3_addBallot 36 = .ok (.if_icmp .ge 76, 3) := by decide +kernel
theorem dX3_addBallot_39 : decode cX3_addBallot 39 = .ok (.aload_n 0, 1) := by decide +kernel
theorem dX3_addBallot_40 : decode cX3_addBallot 40 = .ok (.getfield 58, 3) := by decide +kernel
theorem dX3_addBallot_43 : decode cX3_addBallot 43 = .ok (.iload_n 1, 1) := by decide +kernel
theorem dX3_addBallot_44 : decode cX3_addBallot 44 = .ok (.iload 6, 2) := by decide +kernel
theorem dX3_addBallot_46 : decode cX3_addBallot 46 = .ok (.invokevirtual 83, 3) := by decide +kernel
theorem dX3_addBallot_49 : decode cX3_addBallot 49 = .ok (.istore 7, 2) := by decide +kernel
theorem dX3_addBallot_51 : decode cX3_addBallot 51 = .ok (.iload 7, 2) := by decide +kernel
theorem dX3_addBallot_53 : decode cX3_addBallot 53 = .ok (.ifCond .lt 53, 3) := by decide +kernel
theorem dX3_addBallot_56 : decode cX3_addBallot 56 = .ok (.aload_n 0, 1) := by decide +kernel
theorem dX3_addBallot_57 : decode cX3_addBallot 57 = .ok (.getfield 44, 3) := by decide +kernel
theorem dX3_addBallot_60 : decode cX3_addBallot 60 = .ok (.iload 7, 2) := by decide +kernel
theorem dX3_addBallot_62 : decode cX3_addBallot 62 = .ok (.invokestatic 86, 3) := by decide +kernel
theorem dX3_addBallot_65 : decode cX3_addBallot 65 = .ok (.ifCond .ne 6, 3) := by decide +kernel
theorem dX3_addBallot_68 : decode cX3_addBallot 68 = .ok (.goto 38, 3) := by decide +kernel
theorem dX3_addBallot_71 : decode cX3_addBallot 71 = .ok (.aload_n 0, 1) := by decide +kernel
theorem dX3_addBallot_72 : decode cX3_addBallot 72 = .ok (.getfield 9, 3) := by decide +kernel
theorem dX3_addBallot_75 : decode cX3_addBallot 75 = .ok (.iload_n 3, 1) := by decide +kernel
theorem dX3_addBallot_76 : decode cX3_addBallot 76 = .ok (.iload 7, 2) := by decide +kernel
theorem dX3_addBallot_78 : decode cX3_addBallot 78 = .ok (.iadd, 1) := by decide +kernel
theorem dX3_addBallot_79 : decode cX3_addBallot 79 = .ok (.dup2, 1) := by decide +kernel
theorem dX3_addBallot_80 : decode cX3_addBallot 80 = .ok (.iaload, 1) := by decide +kernel
theorem dX3_addBallot_81 : decode cX3_addBallot 81 = .ok (.iload 4, 2) := by decide +kernel
theorem dX3_addBallot_83 : decode cX3_addBallot 83 = .ok (.iadd, 1) := by decide +kernel
theorem dX3_addBallot_84 : decode cX3_addBallot 84 = .ok (.iastore, 1) := by decide +kernel
theorem dX3_addBallot_85 : decode cX3_addBallot 85 = .ok (.iconst 1, 1) := by decide +kernel
theorem dX3_addBallot_86 : decode cX3_addBallot 86 = .ok (.istore 5, 2) := by decide +kernel
theorem dX3_addBallot_88 : decode cX3_addBallot 88 = .ok (.iload_n 2, 1) := by decide +kernel
theorem dX3_addBallot_89 : decode cX3_addBallot 89 = .ok (.bipush 116, 2) := by decide +kernel
theorem dX3_addBallot_91 : decode cX3_addBallot 91 = .ok (.if_icmp .ne 6, 3) := by decide +kernel
theorem dX3_addBallot_94 : decode cX3_addBallot 94 = .ok (.iload 5, 2) := by decide +kernel
theorem dX3_addBallot_96 : decode cX3_addBallot 96 = .ok (.ireturn, 1) := by decide +kernel
theorem dX3_addBallot_97 : decode cX3_addBallot 97 = .ok (.iload_n 2, 1) := by decide +kernel
theorem dX3_addBallot_98 : decode cX3_addBallot 98 = .ok (.bipush 98, 2) := by decide +kernel
theorem dX3_addBallot_100 : decode cX3_addBallot 100 = .ok (.if_icmp .ne 6, 3) := by decide +kernel
theorem dX3_addBallot_103 : decode cX3_addBallot 103 = .ok (.iinc 4 (-1), 3) := by decide +kernel
theorem dX3_addBallot_106 : decode cX3_addBallot 106 = .ok (.iinc 6 1, 3) := by decide +kernel
theorem dX3_addBallot_109 : decode cX3_addBallot 109 = .ok (.goto (-84), 3) := by decide +kernel
theorem dX3_addBallot_112 : decode cX3_addBallot 112 = .ok (.iload 5, 2) := by decide +kernel
theorem dX3_addBallot_114 : decode cX3_addBallot 114 = .ok (.ireturn, 1) := by decide +kernel
theorem dX3_makeTally_0 : decode cX3_makeTally 0 = .ok (.aload_n 0, 1) := by decide +kernel
theorem dX3_makeTally_1 : decode cX3_makeTally 1 = .ok (.getfield 55, 3) := by decide +kernel
theorem dX3_makeTally_4 : decode cX3_makeTally 4 = .ok (.sipush 156, 3) := by decide +kernel
theorem dX3_makeTally_7 : decode cX3_makeTally 7 = .ok (.if_icmp .lt 4, 3) := by decide +kernel
theorem dX3_makeTally_10 : decode cX3_makeTally 10 = .ok (.return_, 1) := by decide +kernel
theorem dX3_makeTally_11 : decode cX3_makeTally 11 = .ok (.aload_n 0, 1) := by decide +kernel
theorem dX3_makeTally_12 : decode cX3_makeTally 12 = .ok (.getfield 55, 3) := by decide +kernel
theorem dX3_makeTally_15 : decode cX3_makeTally 15 = .ok (.bipush 6, 2) := by decide +kernel
theorem dX3_makeTally_17 : decode cX3_makeTally 17 = .ok (.imul, 1) := by decide +kernel
theorem dX3_makeTally_18 : decode cX3_makeTally 18 = .ok (.istore_n 2, 1) := by decide +kernel
theorem dX3_makeTally_19 : decode cX3_makeTally 19 = .ok (.iconst 0, 1) := by decide +kernel
theorem dX3_makeTally_20 : decode cX3_makeTally 20 = .ok (.istore_n 3, 1) := by decide +kernel
theorem dX3_makeTally_21 : decode cX3_makeTally 21 = .ok (.iload_n 3, 1) := by decide +kernel
theorem dX3_makeTally_22 : decode cX3_makeTally 22 = .ok (.bipush 6, 2) := by decide +kernel
theorem dX3_makeTally_24 : decode cX3_makeTally 24 = .ok (.if_icmp .ge 18, 3) := by decide +kernel
theorem dX3_makeTally_27 : decode cX3_makeTally 27 = .ok (.aload_n 0, 1) := by decide +kernel
theorem dX3_makeTally_28 : decode cX3_makeTally 28 = .ok (.getfield 9, 3) := by decide +kernel
theorem dX3_makeTally_31 : decode cX3_makeTally 31 = .ok (.iload_n 2, 1) := by decide +kernel
theorem dX3_makeTally_32 : decode cX3_makeTally 32 = .ok (.iload_n 3, 1) := by decide +kernel
theorem dX3_makeTally_33 : decode cX3_makeTally 33 = .ok (.iadd, 1) := by decide +kernel
theorem dX3_makeTally_34 : decode cX3_makeTally 34 = .ok (.iconst 0, 1) := by decide +kernel
theorem dX3_makeTally_35 : decode cX3_makeTally 35 = .ok (.iastore, 1) := by decide +kernel
theorem dX3_makeTally_36 : decode cX3_makeTally 36 = .ok (.iinc 3 1, 3) := by decide +kernel
theorem dX3_makeTally_39 : decode cX3_makeTally 39 = .ok (.goto (-18), 3) := by decide +kernel
theorem dX3_makeTally_42 : decode cX3_makeTally 42 = .ok (.iconst 0, 1) := by decide +kernel
theorem dX3_makeTally_43 : decode cX3_makeTally 43 = .ok (.istore_n 3, 1) := by decide +kernel
theorem dX3_makeTally_44 : decode cX3_makeTally 44 = .ok (.iconst 0, 1) := by decide +kernel
theorem dX3_makeTally_45 : decode cX3_makeTally 45 = .ok (.istore 4, 2) := by decide +kernel
theorem dX3_makeTally_47 : decode cX3_makeTally 47 = .ok (.iload 4, 2) := by decide +kernel
theorem dX3_makeTally_49 : decode cX3_makeTally 49 = .ok (.aload_n 0, 1) := by decide +kernel
theorem dX3_makeTally_50 : decode cX3_makeTally 50 = .ok (.getfield 58, 3) := by decide +kernel
theorem dX3_makeTally_53 : decode cX3_makeTally 53 = .ok (.getfield 62, 3) := by decide +kernel
theorem dX3_makeTally_56 : decode cX3_makeTally 56 = .ok (.if_icmp .ge 28, 3) := by decide +kernel
theorem dX3_makeTally_59 : decode cX3_makeTally 59 = .ok (.iload_n 3, 1) := by decide +kernel
theorem dX3_makeTally_60 : decode cX3_makeTally 60 = .ok (.aload_n 0, 1) := by decide +kernel
theorem dX3_makeTally_61 : decode cX3_makeTally 61 = .ok (.aload_n 0, 1) := by decide +kernel
theorem dX3_makeTally_62 : decode cX3_makeTally 62 = .ok (.getfield 58, 3) := by decide +kernel
theorem dX3_makeTally_65 : decode cX3_makeTally 65 = .ok (.getfield 67, 3) := by decide +kernel
theorem dX3_makeTally_68 : decode cX3_makeTally 68 = .ok (.iload 4, 2) := by decide +kernel
theorem dX3_makeTally_70 : decode cX3_makeTally 70 = .ok (.iaload, 1) := by decide +kernel
theorem dX3_makeTally_71 : decode cX3_makeTally 71 = .ok (.iload_n 1, 1) := by decide +kernel
theorem dX3_makeTally_72 : decode cX3_makeTally 72 = .ok (.iload_n 2, 1) := by decide +kernel
theorem dX3_makeTally_73 : decode cX3_makeTally 73 = .ok (.invokevirtual 70, 3) := by decide +kernel
theorem dX3_makeTally_76 : decode cX3_makeTally 76 = .ok (.iadd, 1) := by decide +kernel
theorem dX3_makeTally_77 : decode cX3_makeTally 77 = .ok (.istore_n 3, 1) := by decide +kernel
theorem dX3_makeTally_78 : decode cX3_makeTally 78 = .ok (.iinc 4 1, 3) := by decide +kernel
theorem dX3_makeTally_81 : decode cX3_makeTally 81 = .ok (.goto (-34), 3) := by decide +kernel
theorem dX3_makeTally_84 : decode cX3_makeTally 84 = .ok (.aload_n 0, 1) := by decide +kernel
theorem dX3_makeTally_85 : decode cX3_makeTally 85 = .ok (.getfield 15, 3) := by decide +kernel
theorem dX3_makeTally_88 : decode cX3_makeTally 88 = .ok (.aload_n 0, 1) := by decide +kernel
theorem dX3_makeTally_89 : decode cX3_makeTally 89 = .ok (.getfield 55, 3) := by decide +kernel
theorem dX3_makeTally_92 : decode cX3_makeTally 92 = .ok (.aload_n 0, 1) := by decide +kernel
theorem dX3_makeTally_93 : decode cX3_makeTally 93 = .ok (.getfield 44, 3) := by decide +kernel
theorem dX3_makeTally_96 : decode cX3_makeTally 96 = .ok (.iastore, 1) := by decide +kernel
theorem dX3_makeTally_97 : decode cX3_makeTally 97 = .ok (.aload_n 0, 1) := by decide +kernel
theorem dX3_makeTally_98 : decode cX3_makeTally 98 = .ok (.getfield 18, 3) := by decide +kernel
theorem dX3_makeTally_101 : decode cX3_makeTally 101 = .ok (.aload_n 0, 1) := by decide +kernel
theorem dX3_makeTally_102 : decode cX3_makeTally 102 = .ok (.getfield 55, 3) := by decide +kernel
theorem dX3_makeTally_105 : decode cX3_makeTally 105 = .ok (.iload_n 3, 1) := by decide +kernel
theorem dX3_makeTally_106 : decode cX3_makeTally 106 = .ok (.iastore, 1) := by decide +kernel
theorem dX3_makeTally_107 : decode cX3_makeTally 107 = .ok (.aload_n 0, 1) := by decide +kernel
theorem dX3_makeTally_108 : decode cX3_makeTally 108 = .ok (.dup, 1) := by decide +kernel
theorem dX3_makeTally_109 : decode cX3_makeTally 109 = .ok (.getfield 55, 3) := by decide +kernel
theorem dX3_makeTally_112 : decode cX3_makeTally 112 = .ok (.iconst 1, 1) := by decide +kernel
theorem dX3_makeTally_113 : decode cX3_makeTally 113 = .ok (.iadd, 1) := by decide +kernel
theorem dX3_makeTally_114 : decode cX3_makeTally 114 = .ok (.putfield 55, 3) := by decide +kernel
theorem dX3_makeTally_117 : decode cX3_makeTally 117 = .ok (.return_, 1) := by decide +kernel
theorem dX1_obey_0 : decode cX1_obey 0 = .ok (.ldc 39, 2) := by decide +kernel
theorem dX1_obey_2 : decode cX1_obey 2 = .ok (.iload_n 1, 1) := by decide +kernel
theorem dX1_obey_3 : decode cX1_obey 3 = .ok (.invokevirtual 41, 3) := by decide +kernel
theorem dX1_obey_6 : decode cX1_obey 6 = .ok (.ifCond .lt 11, 3) := by decide +kernel
theorem dX1_obey_9 : decode cX1_obey 9 = .ok (.aload_n 0, 1) := by decide +kernel
theorem dX1_obey_10 : decode cX1_obey 10 = .ok (.iload_n 1, 1) := by decide +kernel
theorem dX1_obey_11 : decode cX1_obey 11 = .ok (.invokevirtual 47, 3) := by decide +kernel
theorem dX1_obey_14 : decode cX1_obey 14 = .ok (.goto 26, 3) := by decide +kernel
theorem dX1_obey_17 : decode cX1_obey 17 = .ok (.ldc 51, 2) := by decide +kernel
theorem dX1_obey_19 : decode cX1_obey 19 = .ok (.iload_n 1, 1) := by decide +kernel
theorem dX1_obey_20 : decode cX1_obey 20 = .ok (.invokevirtual 41, 3) := by decide +kernel
theorem dX1_obey_23 : decode cX1_obey 23 = .ok (.ifCond .lt 11, 3) := by decide +kernel
theorem dX1_obey_26 : decode cX1_obey 26 = .ok (.aload_n 0, 1) := by decide +kernel
theorem dX1_obey_27 : decode cX1_obey 27 = .ok (.iload_n 1, 1) := by decide +kernel
theorem dX1_obey_28 : decode cX1_obey 28 = .ok (.putfield 35, 3) := by decide +kernel
theorem dX1_obey_31 : decode cX1_obey 31 = .ok (.goto 9, 3) := by decide +kernel
theorem dX1_obey_34 : decode cX1_obey 34 = .ok (.aload_n 0, 1) := by decide +kernel
theorem dX1_obey_35 : decode cX1_obey 35 = .ok (.iload_n 1, 1) := by decide +kernel
theorem dX1_obey_36 : decode cX1_obey 36 = .ok (.iload_n 2, 1) := by decide +kernel
theorem dX1_obey_37 : decode cX1_obey 37 = .ok (.invokevirtual 53, 3) := by decide +kernel
theorem dX1_obey_40 : decode cX1_obey 40 = .ok (.return_, 1) := by decide +kernel
theorem dX3_stepAfterPass_0 : decode cX3_stepAfterPass 0 = .ok (.iload_n 2, 1) := by decide +kernel
theorem dX3_stepAfterPass_1 : decode cX3_stepAfterPass 1 = .ok (.iconst 0, 1) := by decide +kernel
theorem dX3_stepAfterPass_2 : decode cX3_stepAfterPass 2 = .ok (.iload_n 1, 1) := by decide +kernel
theorem dX3_stepAfterPass_3 : decode cX3_stepAfterPass 3 = .ok (.invokestatic 51, 3) := by decide +kernel
theorem dX3_stepAfterPass_6 : decode cX3_stepAfterPass 6 = .ok (.ifCond .eq 20, 3) := by decide +kernel
theorem dX3_stepAfterPass_9 : decode cX3_stepAfterPass 9 = .ok (.aload_n 0, 1) := by decide +kernel
theorem dX3_stepAfterPass_10 : decode cX3_stepAfterPass 10 = .ok (.getfield 21, 3) := by decide +kernel
theorem dX3_stepAfterPass_13 : decode cX3_stepAfterPass 13 = .ok (.iload_n 2, 1) := by decide +kernel
theorem dX3_stepAfterPass_14 : decode cX3_stepAfterPass 14 = .ok (.iaload, 1) := by decide +kernel
theorem dX3_stepAfterPass_15 : decode cX3_stepAfterPass 15 = .ok (.aload_n 0, 1) := by decide +kernel
theorem dX3_stepAfterPass_16 : decode cX3_stepAfterPass 16 = .ok (.getfield 44, 3) := by decide +kernel
theorem dX3_stepAfterPass_19 : decode cX3_stepAfterPass 19 = .ok (.if_icmp .eq 7, 3) := by decide +kernel
theorem dX3_stepAfterPass_22 : decode cX3_stepAfterPass 22 = .ok (.iconst 1, 1) := by decide +kernel
theorem dX3_stepAfterPass_23 : decode cX3_stepAfterPass 23 = .ok (.goto 4, 3) := by decide +kernel
theorem dX3_stepAfterPass_26 : decode cX3_stepAfterPass 26 = .ok (.iconst 0, 1) := by decide +kernel
theorem dX3_stepAfterPass_27 : decode cX3_stepAfterPass 27 = .ok (.istore_n 3, 1) := by decide +kernel
theorem dX3_stepAfterPass_28 : decode cX3_stepAfterPass 28 = .ok (.iload_n 3, 1) := by decide +kernel
theorem dX3_stepAfterPass_29 : decode cX3_stepAfterPass 29 = .ok (.ifCond .eq 7, 3) := by decide +kernel
theorem dX3_stepAfterPass_32 : decode cX3_stepAfterPass 32 = .ok (.iload_n 2, 1) := by decide +kernel
theorem dX3_stepAfterPass_33 : decode cX3_stepAfterPass 33 = .ok (.goto 6, 3) := by decide +kernel
theorem dX3_stepAfterPass_36 : decode cX3_stepAfterPass 36 = .ok (.iload_n 1, 1) := by decide +kernel
theorem dX3_stepAfterPass_37 : decode cX3_stepAfterPass 37 = .ok (.iconst 1, 1) := by decide +kernel
theorem dX3_stepAfterPass_38 : decode cX3_stepAfterPass 38 = .ok (.iadd, 1) := by decide +kernel
theorem dX3_stepAfterPass_39 : decode cX3_stepAfterPass 39 = .ok (.ireturn, 1) := by decide +kernel
theorem dX3_follow_0 : decode cX3_follow 0 = .ok (.iconst 0, 1) := by decide +kernel
theorem dX3_follow_1 : decode cX3_follow 1 = .ok (.istore_n 2, 1) := by decide +kernel
theorem dX3_follow_2 : decode cX3_follow 2 = .ok (.iconst 0, 1) := by decide +kernel
theorem dX3_follow_3 : decode cX3_follow 3 = .ok (.istore_n 3, 1) := by decide +kernel
theorem dX3_follow_4 : decode cX3_follow 4 = .ok (.iload_n 3, 1) := by decide +kernel
theorem dX3_follow_5 : decode cX3_follow 5 = .ok (.sipush 10000, 3) := by decide +kernel
theorem dX3_follow_8 : decode cX3_follow 8 = .ok (.if_icmp .ge 94, 3) := by decide +kernel
theorem dX3_follow_11 : decode cX3_follow 11 = .ok (.aload_n 0, 1) := by decide +kernel
theorem dX3_follow_12 : decode cX3_follow 12 = .ok (.getfield 24, 3) := by decide +kernel
theorem dX3_follow_15 : decode cX3_follow 15 = .ok (.ifCond .le 87, 3) := by decide +kernel
theorem dX3_follow_18 : decode cX3_follow 18 = .ok (.iload_n 2, 1) := by decide +kernel
theorem dX3_follow_19 : decode cX3_follow 19 = .ok (.ifCond .lt 11, 3) := by decide +kernel
theorem dX3_follow_22 : decode cX3_follow 22 = .ok (.iload_n 2, 1) := by decide +kernel
theorem dX3_follow_23 : decode cX3_follow 23 = .ok (.aload_n 1, 1) := by decide +kernel
theorem dX3_follow_24 : decode cX3_follow 24 = .ok (.getfield 28, 3) := by decide +kernel
theorem dX3_follow_27 : decode cX3_follow 27 = .ok (.if_icmp .lt 4, 3) := by decide +kernel
theorem dX3_follow_30 : decode cX3_follow 30 = .ok (.return_, 1) := by decide +kernel
theorem dX3_follow_31 : decode cX3_follow 31 = .ok (.aload_n 1, 1) := by decide +kernel
theorem dX3_follow_32 : decode cX3_follow 32 = .ok (.getfield 33, 3) := by decide +kernel
theorem dX3_follow_35 : decode cX3_follow 35 = .ok (.iload_n 2, 1) := by decide +kernel
theorem dX3_follow_36 : decode cX3_follow 36 = .ok (.caload, 1) := by decide +kernel
theorem dX3_follow_37 : decode cX3_follow 37 = .ok (.istore 4, 2) := by decide +kernel
theorem dX3_follow_39 : decode cX3_follow 39 = .ok (.iload 4, 2) := by decide +kernel
theorem dX3_follow_41 : decode cX3_follow 41 = .ok (.bipush 41, 2) := by decide +kernel
theorem dX3_follow_43 : decode cX3_follow 43 = .ok (.if_icmp .ne 18, 3) := by decide +kernel
theorem dX3_follow_46 : decode cX3_follow 46 = .ok (.aload_n 0, 1) := by decide +kernel
theorem dX3_follow_47 : decode cX3_follow 47 = .ok (.iload_n 2, 1) := by decide +kernel
theorem dX3_follow_48 : decode cX3_follow 48 = .ok (.aload_n 1, 1) := by decide +kernel
theorem dX3_follow_49 : decode cX3_follow 49 = .ok (.getfield 37, 3) := by decide +kernel
theorem dX3_follow_52 : decode cX3_follow 52 = .ok (.iload_n 2, 1) := by decide +kernel
theorem dX3_follow_53 : decode cX3_follow 53 = .ok (.iaload, 1) := by decide +kernel
theorem dX3_follow_54 : decode cX3_follow 54 = .ok (.invokevirtual 40, 3) := by decide +kernel
theorem dX3_follow_57 : decode cX3_follow 57 = .ok (.istore_n 2, 1) := by decide +kernel
theorem dX3_follow_58 : decode cX3_follow 58 = .ok (.goto 38, 3) := by decide +kernel
theorem dX3_follow_61 : decode cX3_follow 61 = .ok (.iload 4, 2) := by decide +kernel
theorem dX3_follow_63 : decode cX3_follow 63 = .ok (.bipush 40, 2) := by decide +kernel
theorem dX3_follow_65 : decode cX3_follow 65 = .ok (.if_icmp .ne 16, 3) := by decide +kernel
theorem dX3_follow_68 : decode cX3_follow 68 = .ok (.aload_n 0, 1) := by decide +kernel
theorem dX3_follow_69 : decode cX3_follow 69 = .ok (.getfield 21, 3) := by decide +kernel
theorem dX3_follow_72 : decode cX3_follow 72 = .ok (.iload_n 2, 1) := by decide +kernel
theorem dX3_follow_73 : decode cX3_follow 73 = .ok (.aload_n 0, 1) := by decide +kernel
theorem dX3_follow_74 : decode cX3_follow 74 = .ok (.getfield 44, 3) := by decide +kernel
theorem dX3_follow_77 : decode cX3_follow 77 = .ok (.iastore, 1) := by decide +kernel
theorem dX3_follow_78 : decode cX3_follow 78 = .ok (.goto 15, 3) := by decide +kernel
theorem dX3_follow_81 : decode cX3_follow 81 = .ok (.aload_n 0, 1) := by decide +kernel
theorem dX3_follow_82 : decode cX3_follow 82 = .ok (.iload 4, 2) := by decide +kernel
theorem dX3_follow_84 : decode cX3_follow 84 = .ok (.aload_n 1, 1) := by decide +kernel
theorem dX3_follow_85 : decode cX3_follow 85 = .ok (.getfield 37, 3) := by decide +kernel
theorem dX3_follow_88 : decode cX3_follow 88 = .ok (.iload_n 2, 1) := by decide +kernel
theorem dX3_follow_89 : decode cX3_follow 89 = .ok (.iaload, 1) := by decide +kernel
theorem dX3_follow_90 : decode cX3_follow 90 = .ok (.invokevirtual 47, 3) := by decide +kernel
theorem dX3_follow_93 : decode cX3_follow 93 = .ok (.iinc 2 1, 3) := by decide +kernel
theorem dX3_follow_96 : decode cX3_follow 96 = .ok (.iinc 3 1, 3) := by decide +kernel
theorem dX3_follow_99 : decode cX3_follow 99 = .ok (.goto (-95), 3) := by decide +kernel
theorem dX3_follow_102 : decode cX3_follow 102 = .ok (.return_, 1) := by decide +kernel
theorem dX9_countVote_0 : decode cX9_countVote 0 = .ok (.aload_n 0, 1) := by decide +kernel
theorem dX9_countVote_1 : decode cX9_countVote 1 = .ok (.getfield 47, 3) := by decide +kernel
theorem dX9_countVote_4 : decode cX9_countVote 4 = .ok (.iload_n 1, 1) := by decide +kernel
theorem dX9_countVote_5 : decode cX9_countVote 5 = .ok (.invokevirtual 186, 3) := by decide +kernel
theorem dX9_countVote_8 : decode cX9_countVote 8 = .ok (.aload_n 0, 1) := by decide +kernel
theorem dX9_countVote_9 : decode cX9_countVote 9 = .ok (.getfield 56, 3) := by decide +kernel
theorem dX9_countVote_12 : decode cX9_countVote 12 = .ok (.aload_n 0, 1) := by decide +kernel
theorem dX9_countVote_13 : decode cX9_countVote 13 = .ok (.getfield 31, 3) := by decide +kernel
theorem dX9_countVote_16 : decode cX9_countVote 16 = .ok (.iload_n 1, 1) := by decide +kernel
theorem dX9_countVote_17 : decode cX9_countVote 17 = .ok (.aaload, 1) := by decide +kernel
theorem dX9_countVote_18 : decode cX9_countVote 18 = .ok (.getfield 209, 3) := by decide +kernel
theorem dX9_countVote_21 : decode cX9_countVote 21 = .ok (.aload_n 0, 1) := by decide +kernel
theorem dX9_countVote_22 : decode cX9_countVote 22 = .ok (.getfield 31, 3) := by decide +kernel
theorem dX9_countVote_25 : decode cX9_countVote 25 = .ok (.iload_n 1, 1) := by decide +kernel
theorem dX9_countVote_26 : decode cX9_countVote 26 = .ok (.aaload, 1) := by decide +kernel
theorem dX9_countVote_27 : decode cX9_countVote 27 = .ok (.getfield 262, 3) := by decide +kernel
theorem dX9_countVote_30 : decode cX9_countVote 30 = .ok (.invokevirtual 308, 3) := by decide +kernel
theorem dX9_countVote_33 : decode cX9_countVote 33 = .ok (.aload_n 0, 1) := by decide +kernel
theorem dX9_countVote_34 : decode cX9_countVote 34 = .ok (.getfield 56, 3) := by decide +kernel
theorem dX9_countVote_37 : decode cX9_countVote 37 = .ok (.aload_n 0, 1) := by decide +kernel
theorem dX9_countVote_38 : decode cX9_countVote 38 = .ok (.getfield 25, 3) := by decide +kernel
theorem dX9_countVote_41 : decode cX9_countVote 41 = .ok (.aload_n 0, 1) := by decide +kernel
theorem dX9_countVote_42 : decode cX9_countVote 42 = .ok (.getfield 31, 3) := by decide +kernel
theorem dX9_countVote_45 : decode cX9_countVote 45 = .ok (.iload_n 1, 1) := by decide +kernel
theorem dX9_countVote_46 : decode cX9_countVote 46 = .ok (.aaload, 1) := by decide +kernel
theorem dX9_countVote_47 : decode cX9_countVote 47 = .ok (.getfield 268, 3) := by decide +kernel
theorem dX9_countVote_50 : decode cX9_countVote 50 = .ok (.aaload, 1) := by decide +kernel
theorem dX9_countVote_51 : decode cX9_countVote 51 = .ok (.invokevirtual 309, 3) := by decide +kernel
theorem dX9_countVote_54 : decode cX9_countVote 54 = .ok (.aload_n 0, 1) := by decide +kernel
theorem dX9_countVote_55 : decode cX9_countVote 55 = .ok (.getfield 56, 3) := by decide +kernel
theorem dX9_countVote_58 : decode cX9_countVote 58 = .ok (.areturn, 1) := by decide +kernel
theorem dX9_mend_0 : decode cX9_mend 0 = .ok (.iload_n 1, 1) := by decide +kernel
theorem dX9_mend_1 : decode cX9_mend 1 = .ok (.iconst 0, 1) := by decide +kernel
theorem dX9_mend_2 : decode cX9_mend 2 = .ok (.aload_n 0, 1) := by decide +kernel
theorem dX9_mend_3 : decode cX9_mend 3 = .ok (.getfield 139, 3) := by decide +kernel
theorem dX9_mend_6 : decode cX9_mend 6 = .ok (.iconst 1, 1) := by decide +kernel
theorem dX9_mend_7 : decode cX9_mend 7 = .ok (.isub, 1) := by decide +kernel
theorem dX9_mend_8 : decode cX9_mend 8 = .ok (.invokestatic 69, 3) := by decide +kernel
theorem dX9_mend_11 : decode cX9_mend 11 = .ok (.ifCond .ne 13, 3) := by decide +kernel
theorem dX9_mend_14 : decode cX9_mend 14 = .ok (.new 73, 3) := by decide +kernel
theorem dX9_mend_17 : decode cX9_mend 17 = .ok (.dup, 1) := by decide +kernel
theorem dX9_mend_18 : decode cX9_mend 18 = .ok (.ldc 148, 2) := by decide +kernel
theorem dX9_mend_20 : decode cX9_mend 20 = .ok (.invokespecial 77, 3) := by decide +kernel
theorem dX9_mend_23 : decode cX9_mend 23 = .ok (.athrow, 1) := by decide +kernel
theorem dX9_mend_24 : decode cX9_mend 24 = .ok (.aload_n 0, 1) := by decide +kernel
theorem dX9_mend_25 : decode cX9_mend 25 = .ok (.getfield 19, 3) := by decide +kernel
theorem dX9_mend_28 : decode cX9_mend 28 = .ok (.invokevirtual 134, 3) := by decide +kernel
theorem dX9_mend_31 : decode cX9_mend 31 = .ok (.iconst (-1), 1) := by decide +kernel
theorem dX9_mend_32 : decode cX9_mend 32 = .ok (.if_icmp .eq 13, 3) := by decide +kernel
theorem dX9_mend_35 : decode cX9_mend 35 = .ok (.new 80, 3) := by decide +kernel
theorem dX9_mend_38 : decode cX9_mend 38 = .ok (.dup, 1) := by decide +kernel
theorem dX9_mend_39 : decode cX9_mend 39 = .ok (.ldc 137, 2) := by decide +kernel
theorem dX9_mend_41 : decode cX9_mend 41 = .ok (.invokespecial 84, 3) := by decide +kernel
theorem dX9_mend_44 : decode cX9_mend 44 = .ok (.athrow, 1) := by decide +kernel
theorem dX9_mend_45 : decode cX9_mend 45 = .ok (.iconst 0, 1) := by decide +kernel
theorem dX9_mend_46 : decode cX9_mend 46 = .ok (.istore_n 2, 1) := by decide +kernel
theorem dX9_mend_47 : decode cX9_mend 47 = .ok (.iload_n 2, 1) := by decide +kernel
theorem dX9_mend_48 : decode cX9_mend 48 = .ok (.aload_n 0, 1) := by decide +kernel
theorem dX9_mend_49 : decode cX9_mend 49 = .ok (.getfield 150, 3) := by decide +kernel
theorem dX9_mend_52 : decode cX9_mend 52 = .ok (.if_icmp .ge 26, 3) := by decide +kernel
theorem dX9_mend_55 : decode cX9_mend 55 = .ok (.aload_n 0, 1) := by decide +kernel
theorem dX9_mend_56 : decode cX9_mend 56 = .ok (.getfield 31, 3) := by decide +kernel
theorem dX9_mend_59 : decode cX9_mend 59 = .ok (.iload_n 2, 1) := by decide +kernel
theorem dX9_mend_60 : decode cX9_mend 60 = .ok (.aaload, 1) := by decide +kernel
theorem dX9_mend_61 : decode cX9_mend 61 = .ok (.aload_n 0, 1) := by decide +kernel
theorem dX9_mend_62 : decode cX9_mend 62 = .ok (.iload_n 2, 1) := by decide +kernel
theorem dX9_mend_63 : decode cX9_mend 63 = .ok (.invokevirtual 153, 3) := by decide +kernel
theorem dX9_mend_66 : decode cX9_mend 66 = .ok (.getfield 157, 3) := by decide +kernel
theorem dX9_mend_69 : decode cX9_mend 69 = .ok (.putfield 160, 3) := by decide +kernel
theorem dX9_mend_72 : decode cX9_mend 72 = .ok (.iinc 2 1, 3) := by decide +kernel
theorem dX9_mend_75 : decode cX9_mend 75 = .ok (.goto (-28), 3) := by decide +kernel
theorem dX9_mend_78 : decode cX9_mend 78 = .ok (.aload_n 0, 1) := by decide +kernel
theorem dX9_mend_79 : decode cX9_mend 79 = .ok (.getfield 25, 3) := by decide +kernel
theorem dX9_mend_82 : decode cX9_mend 82 = .ok (.iload_n 1, 1) := by decide +kernel
theorem dX9_mend_83 : decode cX9_mend 83 = .ok (.aaload, 1) := by decide +kernel
theorem dX9_mend_84 : decode cX9_mend 84 = .ok (.aload_n 0, 1) := by decide +kernel
theorem dX9_mend_85 : decode cX9_mend 85 = .ok (.getfield 19, 3) := by decide +kernel
theorem dX9_mend_88 : decode cX9_mend 88 = .ok (.invokevirtual 144, 3) := by decide +kernel
theorem dX9_mend_91 : decode cX9_mend 91 = .ok (.iconst 0, 1) := by decide +kernel
theorem dX9_mend_92 : decode cX9_mend 92 = .ok (.istore_n 2, 1) := by decide +kernel
theorem dX9_mend_93 : decode cX9_mend 93 = .ok (.iconst 0, 1) := by decide +kernel
theorem dX9_mend_94 : decode cX9_mend 94 = .ok (.istore_n 3, 1) := by decide +kernel
theorem dX9_mend_95 : decode cX9_mend 95 = .ok (.iload_n 3, 1) := by decide +kernel
theorem dX9_mend_96 : decode cX9_mend 96 = .ok (.aload_n 0, 1) := by decide +kernel
theorem dX9_mend_97 : decode cX9_mend 97 = .ok (.getfield 150, 3) := by decide +kernel
theorem dX9_mend_100 : decode cX9_mend 100 = .ok (.if_icmp .ge 32, 3) := by decide +kernel
theorem dX9_mend_103 : decode cX9_mend 103 = .ok (.aload_n 0, 1) := by decide +kernel
theorem dX9_mend_104 : decode cX9_mend 104 = .ok (.iload_n 3, 1) := by decide +kernel
theorem dX9_mend_105 : decode cX9_mend 105 = .ok (.invokevirtual 153, 3) := by decide +kernel
theorem dX9_mend_108 : decode cX9_mend 108 = .ok (.getfield 157, 3) := by decide +kernel
theorem dX9_mend_111 : decode cX9_mend 111 = .ok (.aload_n 0, 1) := by decide +kernel
theorem dX9_mend_112 : decode cX9_mend 112 = .ok (.getfield 31, 3) := by decide +kernel
theorem dX9_mend_115 : decode cX9_mend 115 = .ok (.iload_n 3, 1) := by decide +kernel
theorem dX9_mend_116 : decode cX9_mend 116 = .ok (.aaload, 1) := by decide +kernel
theorem dX9_mend_117 : decode cX9_mend 117 = .ok (.getfield 160, 3) := by decide +kernel
theorem dX9_mend_120 : decode cX9_mend 120 = .ok (.if_icmp .eq 6, 3) := by decide +kernel
theorem dX9_mend_123 : decode cX9_mend 123 = .ok (.iinc 2 1, 3) := by decide +kernel
theorem dX9_mend_126 : decode cX9_mend 126 = .ok (.iinc 3 1, 3) := by decide +kernel
theorem dX9_mend_129 : decode cX9_mend 129 = .ok (.goto (-34), 3) := by decide +kernel
theorem dX9_mend_132 : decode cX9_mend 132 = .ok (.iload_n 2, 1) := by decide +kernel
theorem dX9_mend_133 : decode cX9_mend 133 = .ok (.ireturn, 1) := by decide +kernel
theorem dX9_commands_0 : decode cX9_commands 0 = .ok (.iload_n 1, 1) := by decide +kernel
theorem dX9_commands_1 : decode cX9_commands 1 = .ok (.iconst 0, 1) := by decide +kernel
theorem dX9_commands_2 : decode cX9_commands 2 = .ok (.aload_n 0, 1) := by decide +kernel
theorem dX9_commands_3 : decode cX9_commands 3 = .ok (.getfield 139, 3) := by decide +kernel
theorem dX9_commands_6 : decode cX9_commands 6 = .ok (.iconst 1, 1) := by decide +kernel
theorem dX9_commands_7 : decode cX9_commands 7 = .ok (.isub, 1) := by decide +kernel
theorem dX9_commands_8 : decode cX9_commands 8 = .ok (.invokestatic 69, 3) := by decide +kernel
theorem dX9_commands_11 : decode cX9_commands 11 = .ok (.ifCond .ne 13, 3) := by decide +kernel
theorem dX9_commands_14 : decode cX9_commands 14 = .ok (.new 73, 3) := by decide +kernel
theorem dX9_commands_17 : decode cX9_commands 17 = .ok (.dup, 1) := by decide +kernel
theorem dX9_commands_18 : decode cX9_commands 18 = .ok (.ldc 148, 2) := by decide +kernel
theorem dX9_commands_20 : decode cX9_commands 20 = .ok (.invokespecial 77, 3) := by decide +kernel
theorem dX9_commands_23 : decode cX9_commands 23 = .ok (.athrow, 1) := by decide +kernel
theorem dX9_commands_24 : decode cX9_commands 24 = .ok (.aload_n 0, 1) := by decide +kernel
theorem dX9_commands_25 : decode cX9_commands 25 = .ok (.getfield 25, 3) := by decide +kernel
theorem dX9_commands_28 : decode cX9_commands 28 = .ok (.iload_n 1, 1) := by decide +kernel
theorem dX9_commands_29 : decode cX9_commands 29 = .ok (.aaload, 1) := by decide +kernel
theorem dX9_commands_30 : decode cX9_commands 30 = .ok (.getfield 163, 3) := by decide +kernel
theorem dX9_commands_33 : decode cX9_commands 33 = .ok (.ireturn, 1) := by decide +kernel
theorem dX8_begin_0 : decode cX8_begin 0 = .ok (.aload_n 0, 1) := by decide +kernel
theorem dX8_begin_1 : decode cX8_begin 1 = .ok (.iload_n 1, 1) := by decide +kernel
theorem dX8_begin_2 : decode cX8_begin 2 = .ok (.putfield 15, 3) := by decide +kernel
theorem dX8_begin_5 : decode cX8_begin 5 = .ok (.aload_n 0, 1) := by decide +kernel
theorem dX8_begin_6 : decode cX8_begin 6 = .ok (.iload_n 2, 1) := by decide +kernel
theorem dX8_begin_7 : decode cX8_begin 7 = .ok (.putfield 18, 3) := by decide +kernel
theorem dX8_begin_10 : decode cX8_begin 10 = .ok (.aload_n 0, 1) := by decide +kernel
theorem dX8_begin_11 : decode cX8_begin 11 = .ok (.iload_n 3, 1) := by decide +kernel
theorem dX8_begin_12 : decode cX8_begin 12 = .ok (.putfield 21, 3) := by decide +kernel
theorem dX8_begin_15 : decode cX8_begin 15 = .ok (.aload_n 0, 1) := by decide +kernel
theorem dX8_begin_16 : decode cX8_begin 16 = .ok (.iload 4, 2) := by decide +kernel
theorem dX8_begin_18 : decode cX8_begin 18 = .ok (.putfield 24, 3) := by decide +kernel
theorem dX8_begin_21 : decode cX8_begin 21 = .ok (.return_, 1) := by decide +kernel
theorem dX9_open_0 : decode cX9_open 0 = .ok (.iload_n 1, 1) := by decide +kernel
theorem dX9_open_1 : decode cX9_open 1 = .ok (.iconst 0, 1) := by decide +kernel
theorem dX9_open_2 : decode cX9_open 2 = .ok (.iconst 2, 1) := by decide +kernel
theorem dX9_open_3 : decode cX9_open 3 = .ok (.invokestatic 69, 3) := by decide +kernel
theorem dX9_open_6 : decode cX9_open 6 = .ok (.ifCond .eq 18, 3) := by decide +kernel
theorem dX9_open_9 : decode cX9_open 9 = .ok (.iload 4, 2) := by decide +kernel
theorem dX9_open_11 : decode cX9_open 11 = .ok (.iconst 0, 1) := by decide +kernel
theorem dX9_open_12 : decode cX9_open 12 = .ok (.aload_n 0, 1) := by decide +kernel
theorem dX9_open_13 : decode cX9_open 13 = .ok (.getfield 139, 3) := by decide +kernel
theorem dX9_open_16 : decode cX9_open 16 = .ok (.iconst 1, 1) := by decide +kernel
theorem dX9_open_17 : decode cX9_open 17 = .ok (.isub, 1) := by decide +kernel
theorem dX9_open_18 : decode cX9_open 18 = .ok (.invokestatic 69, 3) := by decide +kernel
theorem dX9_open_21 : decode cX9_open 21 = .ok (.ifCond .ne 13, 3) := by decide +kernel
theorem dX9_open_24 : decode cX9_open 24 = .ok (.new 73, 3) := by decide +kernel
theorem dX9_open_27 : decode cX9_open 27 = .ok (.dup, 1) := by decide +kernel
theorem dX9_open_28 : decode cX9_open 28 = .ok (.ldc 166, 2) := by decide +kernel
theorem dX9_open_30 : decode cX9_open 30 = .ok (.invokespecial 77, 3) := by decide +kernel
theorem dX9_open_33 : decode cX9_open 33 = .ok (.athrow, 1) := by decide +kernel
theorem dX9_open_34 : decode cX9_open 34 = .ok (.iload_n 2, 1) := by decide +kernel
theorem dX9_open_35 : decode cX9_open 35 = .ok (.iconst 2, 1) := by decide +kernel
theorem dX9_open_36 : decode cX9_open 36 = .ok (.bipush 6, 2) := by decide +kernel
theorem dX9_open_38 : decode cX9_open 38 = .ok (.invokestatic 69, 3) := by decide +kernel
theorem dX9_open_41 : decode cX9_open 41 = .ok (.ifCond .eq 14, 3) := by decide +kernel
theorem dX9_open_44 : decode cX9_open 44 = .ok (.iload_n 3, 1) := by decide +kernel
theorem dX9_open_45 : decode cX9_open 45 = .ok (.iconst 1, 1) := by decide +kernel
theorem dX9_open_46 : decode cX9_open 46 = .ok (.iload_n 2, 1) := by decide +kernel
theorem dX9_open_47 : decode cX9_open 47 = .ok (.iconst 1, 1) := by decide +kernel
theorem dX9_open_48 : decode cX9_open 48 = .ok (.isub, 1) := by decide +kernel
theorem dX9_open_49 : decode cX9_open 49 = .ok (.invokestatic 69, 3) := by decide +kernel
theorem dX9_open_52 : decode cX9_open 52 = .ok (.ifCond .ne 13, 3) := by decide +kernel
theorem dX9_open_55 : decode cX9_open 55 = .ok (.new 80, 3) := by decide +kernel
theorem dX9_open_58 : decode cX9_open 58 = .ok (.dup, 1) := by decide +kernel
theorem dX9_open_59 : decode cX9_open 59 = .ok (.ldc 168, 2) := by decide +kernel
theorem dX9_open_61 : decode cX9_open 61 = .ok (.invokespecial 84, 3) := by decide +kernel
theorem dX9_open_64 : decode cX9_open 64 = .ok (.athrow, 1) := by decide +kernel
theorem dX9_open_65 : decode cX9_open 65 = .ok (.aload_n 0, 1) := by decide +kernel
theorem dX9_open_66 : decode cX9_open 66 = .ok (.getfield 150, 3) := by decide +kernel
theorem dX9_open_69 : decode cX9_open 69 = .ok (.bipush 8, 2) := by decide +kernel
theorem dX9_open_71 : decode cX9_open 71 = .ok (.if_icmp .lt 13, 3) := by decide +kernel
theorem dX9_open_74 : decode cX9_open 74 = .ok (.new 89, 3) := by decide +kernel
theorem dX9_open_77 : decode cX9_open 77 = .ok (.dup, 1) := by decide +kernel
theorem dX9_open_78 : decode cX9_open 78 = .ok (.ldc 170, 2) := by decide +kernel
theorem dX9_open_80 : decode cX9_open 80 = .ok (.invokespecial 93, 3) := by decide +kernel
theorem dX9_open_83 : decode cX9_open 83 = .ok (.athrow, 1) := by decide +kernel
theorem dX9_open_84 : decode cX9_open 84 = .ok (.aload_n 0, 1) := by decide +kernel
theorem dX9_open_85 : decode cX9_open 85 = .ok (.getfield 31, 3) := by decide +kernel
theorem dX9_open_88 : decode cX9_open 88 = .ok (.aload_n 0, 1) := by decide +kernel
theorem dX9_open_89 : decode cX9_open 89 = .ok (.getfield 150, 3) := by decide +kernel
theorem dX9_open_92 : decode cX9_open 92 = .ok (.aaload, 1) := by decide +kernel
theorem dX9_open_93 : decode cX9_open 93 = .ok (.iload_n 1, 1) := by decide +kernel
theorem dX9_open_94 : decode cX9_open 94 = .ok (.iload_n 2, 1) := by decide +kernel
theorem dX9_open_95 : decode cX9_open 95 = .ok (.iload_n 3, 1) := by decide +kernel
theorem dX9_open_96 : decode cX9_open 96 = .ok (.iload 4, 2) := by decide +kernel
theorem dX9_open_98 : decode cX9_open 98 = .ok (.invokevirtual 172, 3) := by decide +kernel
theorem dX9_open_101 : decode cX9_open 101 = .ok (.aload_n 0, 1) := by decide +kernel
theorem dX9_open_102 : decode cX9_open 102 = .ok (.dup, 1) := by decide +kernel
theorem dX9_open_103 : decode cX9_open 103 = .ok (.getfield 150, 3) := by decide +kernel
theorem dX9_open_106 : decode cX9_open 106 = .ok (.iconst 1, 1) := by decide +kernel
theorem dX9_open_107 : decode cX9_open 107 = .ok (.iadd, 1) := by decide +kernel
theorem dX9_open_108 : decode cX9_open 108 = .ok (.putfield 150, 3) := by decide +kernel
theorem dX9_open_111 : decode cX9_open 111 = .ok (.aload_n 0, 1) := by decide +kernel
theorem dX9_open_112 : decode cX9_open 112 = .ok (.getfield 150, 3) := by decide +kernel
theorem dX9_open_115 : decode cX9_open 115 = .ok (.iconst 1, 1) := by decide +kernel
theorem dX9_open_116 : decode cX9_open 116 = .ok (.isub, 1) := by decide +kernel
theorem dX9_open_117 : decode cX9_open 117 = .ok (.ireturn, 1) := by decide +kernel
theorem dX9_needVote_0 : decode cX9_needVote 0 = .ok (.iload_n 1, 1) := by decide +kernel
theorem dX9_needVote_1 : decode cX9_needVote 1 = .ok (.iconst 0, 1) := by decide +kernel
theorem dX9_needVote_2 : decode cX9_needVote 2 = .ok (.aload_n 0, 1) := by decide +kernel
theorem dX9_needVote_3 : decode cX9_needVote 3 = .ok (.getfield 150, 3) := by decide +kernel
theorem dX9_needVote_6 : decode cX9_needVote 6 = .ok (.iconst 1, 1) := by decide +kernel
theorem dX9_needVote_7 : decode cX9_needVote 7 = .ok (.isub, 1) := by decide +kernel
theorem dX9_needVote_8 : decode cX9_needVote 8 = .ok (.invokestatic 69, 3) := by decide +kernel
theorem dX9_needVote_11 : decode cX9_needVote 11 = .ok (.ifCond .ne 14, 3) := by decide +kernel
theorem dX9_needVote_14 : decode cX9_needVote 14 = .ok (.new 73, 3) := by decide +kernel
theorem dX9_needVote_17 : decode cX9_needVote 17 = .ok (.dup, 1) := by decide +kernel
theorem dX9_needVote_18 : decode cX9_needVote 18 = .ok (.ldc_w 304, 3) := by decide +kernel
theorem dX9_needVote_21 : decode cX9_needVote 21 = .ok (.invokespecial 77, 3) := by decide +kernel
theorem dX9_needVote_24 : decode cX9_needVote 24 = .ok (.athrow, 1) := by decide +kernel
theorem dX9_needVote_25 : decode cX9_needVote 25 = .ok (.return_, 1) := by decide +kernel
theorem dX9_close_0 : decode cX9_close 0 = .ok (.aload_n 0, 1) := by decide +kernel
theorem dX9_close_1 : decode cX9_close 1 = .ok (.iload_n 1, 1) := by decide +kernel
theorem dX9_close_2 : decode cX9_close 2 = .ok (.invokevirtual 176, 3) := by decide +kernel
theorem dX9_close_5 : decode cX9_close 5 = .ok (.aload_n 0, 1) := by decide +kernel
theorem dX9_close_6 : decode cX9_close 6 = .ok (.getfield 31, 3) := by decide +kernel
theorem dX9_close_9 : decode cX9_close 9 = .ok (.iload_n 1, 1) := by decide +kernel
theorem dX9_close_10 : decode cX9_close 10 = .ok (.aaload, 1) := by decide +kernel
theorem dX9_close_11 : decode cX9_close 11 = .ok (.getfield 180, 3) := by decide +kernel
theorem dX9_close_14 : decode cX9_close 14 = .ok (.ifCond .eq 13, 3) := by decide +kernel
theorem dX9_close_17 : decode cX9_close 17 = .ok (.new 89, 3) := by decide +kernel
theorem dX9_close_20 : decode cX9_close 20 = .ok (.dup, 1) := by decide +kernel
theorem dX9_close_21 : decode cX9_close 21 = .ok (.ldc 184, 2) := by decide +kernel
theorem dX9_close_23 : decode cX9_close 23 = .ok (.invokespecial 93, 3) := by decide +kernel
theorem dX9_close_26 : decode cX9_close 26 = .ok (.athrow, 1) := by decide +kernel
theorem dX9_close_27 : decode cX9_close 27 = .ok (.aload_n 0, 1) := by decide +kernel
theorem dX9_close_28 : decode cX9_close 28 = .ok (.getfield 31, 3) := by decide +kernel
theorem dX9_close_31 : decode cX9_close 31 = .ok (.iload_n 1, 1) := by decide +kernel
theorem dX9_close_32 : decode cX9_close 32 = .ok (.aaload, 1) := by decide +kernel
theorem dX9_close_33 : decode cX9_close 33 = .ok (.iconst 1, 1) := by decide +kernel
theorem dX9_close_34 : decode cX9_close 34 = .ok (.putfield 180, 3) := by decide +kernel
theorem dX9_close_37 : decode cX9_close 37 = .ok (.aload_n 0, 1) := by decide +kernel
theorem dX9_close_38 : decode cX9_close 38 = .ok (.getfield 47, 3) := by decide +kernel
theorem dX9_close_41 : decode cX9_close 41 = .ok (.iload_n 1, 1) := by decide +kernel
theorem dX9_close_42 : decode cX9_close 42 = .ok (.invokevirtual 186, 3) := by decide +kernel
theorem dX9_close_45 : decode cX9_close 45 = .ok (.aload_n 0, 1) := by decide +kernel
theorem dX9_close_46 : decode cX9_close 46 = .ok (.getfield 47, 3) := by decide +kernel
theorem dX9_close_49 : decode cX9_close 49 = .ok (.getfield 189, 3) := by decide +kernel
theorem dX9_close_52 : decode cX9_close 52 = .ok (.ireturn, 1) := by decide +kernel
theorem dX6_has_0 : decode cX6_has 0 = .ok (.iconst 0, 1) := by decide +kernel
theorem dX6_has_1 : decode cX6_has 1 = .ok (.istore_n 2, 1) := by decide +kernel
theorem dX6_has_2 : decode cX6_has 2 = .ok (.iload_n 2, 1) := by decide +kernel
theorem dX6_has_3 : decode cX6_has 3 = .ok (.aload_n 0, 1) := by decide +kernel
theorem dX6_has_4 : decode cX6_has 4 = .ok (.getfield 15, 3) := by decide +kernel
theorem dX6_has_7 : decode cX6_has 7 = .ok (.if_icmp .ge 21, 3) := by decide +kernel
theorem dX6_has_10 : decode cX6_has 10 = .ok (.aload_n 0, 1) := by decide +kernel
theorem dX6_has_11 : decode cX6_has 11 = .ok (.getfield 9, 3) := by decide +kernel
theorem dX6_has_14 : decode cX6_has 14 = .ok (.iload_n 2, 1) := by decide +kernel
theorem dX6_has_15 : decode cX6_has 15 = .ok (.iaload, 1) := by decide +kernel
theorem dX6_has_16 : decode cX6_has 16 = .ok (.iload_n 1, 1) := by decide +kernel
theorem dX6_has_17 : decode cX6_has 17 = .ok (.if_icmp .ne 5, 3) := by decide +kernel
theorem dX6_has_20 : decode cX6_has 20 = .ok (.iconst 1, 1) := by decide +kernel
theorem dX6_has_21 : decode cX6_has 21 = .ok (.ireturn, 1) := by decide +kernel
theorem dX6_has_22 : decode cX6_has 22 = .ok (.iinc 2 1, 3) := by decide +kernel
theorem dX6_has_25 : decode cX6_has 25 = .ok (.goto (-23), 3) := by decide +kernel
theorem dX6_has_28 : decode cX6_has 28 = .ok (.iconst 0, 1) := by decide +kernel
theorem dX6_has_29 : decode cX6_has 29 = .ok (.ireturn, 1) := by decide +kernel
theorem dX6_add_0 : decode cX6_add 0 = .ok (.aload_n 0, 1) := by decide +kernel
theorem dX6_add_1 : decode cX6_add 1 = .ok (.getfield 15, 3) := by decide +kernel
theorem dX6_add_4 : decode cX6_add 4 = .ok (.bipush 6, 2) := by decide +kernel
theorem dX6_add_6 : decode cX6_add 6 = .ok (.if_icmp .ge 23, 3) := by decide +kernel
theorem dX6_add_9 : decode cX6_add 9 = .ok (.aload_n 0, 1) := by decide +kernel
theorem dX6_add_10 : decode cX6_add 10 = .ok (.getfield 9, 3) := by decide +kernel
theorem dX6_add_13 : decode cX6_add 13 = .ok (.aload_n 0, 1) := by decide +kernel
theorem dX6_add_14 : decode cX6_add 14 = .ok (.getfield 15, 3) := by decide +kernel
theorem dX6_add_17 : decode cX6_add 17 = .ok (.iload_n 1, 1) := by decide +kernel
theorem dX6_add_18 : decode cX6_add 18 = .ok (.iastore, 1) := by decide +kernel
theorem dX6_add_19 : decode cX6_add 19 = .ok (.aload_n 0, 1) := by decide +kernel
theorem dX6_add_20 : decode cX6_add 20 = .ok (.dup, 1) := by decide +kernel
theorem dX6_add_21 : decode cX6_add 21 = .ok (.getfield 15, 3) := by decide +kernel
theorem dX6_add_24 : decode cX6_add 24 = .ok (.iconst 1, 1) := by decide +kernel
theorem dX6_add_25 : decode cX6_add 25 = .ok (.iadd, 1) := by decide +kernel
theorem dX6_add_26 : decode cX6_add 26 = .ok (.putfield 15, 3) := by decide +kernel
theorem dX6_add_29 : decode cX6_add 29 = .ok (.aload_n 0, 1) := by decide +kernel
theorem dX6_add_30 : decode cX6_add 30 = .ok (.getfield 15, 3) := by decide +kernel
theorem dX6_add_33 : decode cX6_add 33 = .ok (.ireturn, 1) := by decide +kernel
theorem dX9_mark_0 : decode cX9_mark 0 = .ok (.iload_n 1, 1) := by decide +kernel
theorem dX9_mark_1 : decode cX9_mark 1 = .ok (.iconst 0, 1) := by decide +kernel
theorem dX9_mark_2 : decode cX9_mark 2 = .ok (.iconst 5, 1) := by decide +kernel
theorem dX9_mark_3 : decode cX9_mark 3 = .ok (.invokestatic 69, 3) := by decide +kernel
theorem dX9_mark_6 : decode cX9_mark 6 = .ok (.ifCond .ne 13, 3) := by decide +kernel
theorem dX9_mark_9 : decode cX9_mark 9 = .ok (.new 73, 3) := by decide +kernel
theorem dX9_mark_12 : decode cX9_mark 12 = .ok (.dup, 1) := by decide +kernel
theorem dX9_mark_13 : decode cX9_mark 13 = .ok (.ldc 192, 2) := by decide +kernel
theorem dX9_mark_15 : decode cX9_mark 15 = .ok (.invokespecial 77, 3) := by decide +kernel
theorem dX9_mark_18 : decode cX9_mark 18 = .ok (.athrow, 1) := by decide +kernel
theorem dX9_mark_19 : decode cX9_mark 19 = .ok (.aload_n 0, 1) := by decide +kernel
theorem dX9_mark_20 : decode cX9_mark 20 = .ok (.getfield 38, 3) := by decide +kernel
theorem dX9_mark_23 : decode cX9_mark 23 = .ok (.iload_n 1, 1) := by decide +kernel
theorem dX9_mark_24 : decode cX9_mark 24 = .ok (.invokevirtual 194, 3) := by decide +kernel
theorem dX9_mark_27 : decode cX9_mark 27 = .ok (.ifCond .eq 13, 3) := by decide +kernel
theorem dX9_mark_30 : decode cX9_mark 30 = .ok (.new 89, 3) := by decide +kernel
theorem dX9_mark_33 : decode cX9_mark 33 = .ok (.dup, 1) := by decide +kernel
theorem dX9_mark_34 : decode cX9_mark 34 = .ok (.ldc 198, 2) := by decide +kernel
theorem dX9_mark_36 : decode cX9_mark 36 = .ok (.invokespecial 93, 3) := by decide +kernel
theorem dX9_mark_39 : decode cX9_mark 39 = .ok (.athrow, 1) := by decide +kernel
theorem dX9_mark_40 : decode cX9_mark 40 = .ok (.aload_n 0, 1) := by decide +kernel
theorem dX9_mark_41 : decode cX9_mark 41 = .ok (.getfield 38, 3) := by decide +kernel
theorem dX9_mark_44 : decode cX9_mark 44 = .ok (.iload_n 1, 1) := by decide +kernel
theorem dX9_mark_45 : decode cX9_mark 45 = .ok (.invokevirtual 200, 3) := by decide +kernel
theorem dX9_mark_48 : decode cX9_mark 48 = .ok (.ireturn, 1) := by decide +kernel
theorem dX6_highest_0 : decode cX6_highest 0 = .ok (.iconst (-1), 1) := by decide +kernel
theorem dX6_highest_1 : decode cX6_highest 1 = .ok (.istore_n 1, 1) := by decide +kernel
theorem dX6_highest_2 : decode cX6_highest 2 = .ok (.iconst 0, 1) := by decide +kernel
theorem dX6_highest_3 : decode cX6_highest 3 = .ok (.istore_n 2, 1) := by decide +kernel
theorem dX6_highest_4 : decode cX6_highest 4 = .ok (.iload_n 2, 1) := by decide +kernel
theorem dX6_highest_5 : decode cX6_highest 5 = .ok (.aload_n 0, 1) := by decide +kernel
theorem dX6_highest_6 : decode cX6_highest 6 = .ok (.getfield 15, 3) := by decide +kernel
theorem dX6_highest_9 : decode cX6_highest 9 = .ok (.if_icmp .ge 20, 3) := by decide +kernel
theorem dX6_highest_12 : decode cX6_highest 12 = .ok (.iload_n 1, 1) := by decide +kernel
theorem dX6_highest_13 : decode cX6_highest 13 = .ok (.aload_n 0, 1) := by decide +kernel
theorem dX6_highest_14 : decode cX6_highest 14 = .ok (.getfield 9, 3) := by decide +kernel
theorem dX6_highest_17 : decode cX6_highest 17 = .ok (.iload_n 2, 1) := by decide +kernel
theorem dX6_highest_18 : decode cX6_highest 18 = .ok (.iaload, 1) := by decide +kernel
theorem dX6_highest_19 : decode cX6_highest 19 = .ok (.invokestatic 19, 3) := by decide +kernel
theorem dX6_highest_22 : decode cX6_highest 22 = .ok (.istore_n 1, 1) := by decide +kernel
theorem dX6_highest_23 : decode cX6_highest 23 = .ok (.iinc 2 1, 3) := by decide +kernel
theorem dX6_highest_26 : decode cX6_highest 26 = .ok (.goto (-22), 3) := by decide +kernel
theorem dX6_highest_29 : decode cX6_highest 29 = .ok (.iload_n 1, 1) := by decide +kernel
theorem dX6_highest_30 : decode cX6_highest 30 = .ok (.ireturn, 1) := by decide +kernel
theorem dX0_add_0 : decode cX0_add 0 = .ok (.aload_n 0, 1) := by decide +kernel
theorem dX0_add_1 : decode cX0_add 1 = .ok (.getfield 41, 3) := by decide +kernel
theorem dX0_add_4 : decode cX0_add 4 = .ok (.bipush 100, 2) := by decide +kernel
theorem dX0_add_6 : decode cX0_add 6 = .ok (.if_icmp .ge 110, 3) := by decide +kernel
theorem dX0_add_9 : decode cX0_add 9 = .ok (.aload_n 0, 1) := by decide +kernel
theorem dX0_add_10 : decode cX0_add 10 = .ok (.getfield 9, 3) := by decide +kernel
theorem dX0_add_13 : decode cX0_add 13 = .ok (.aload_n 0, 1) := by decide +kernel
theorem dX0_add_14 : decode cX0_add 14 = .ok (.getfield 41, 3) := by decide +kernel
theorem dX0_add_17 : decode cX0_add 17 = .ok (.iload_n 1, 1) := by decide +kernel
theorem dX0_add_18 : decode cX0_add 18 = .ok (.iastore, 1) := by decide +kernel
theorem dX0_add_19 : decode cX0_add 19 = .ok (.aload_n 0, 1) := by decide +kernel
theorem dX0_add_20 : decode cX0_add 20 = .ok (.getfield 15, 3) := by decide +kernel
theorem dX0_add_23 : decode cX0_add 23 = .ok (.aload_n 0, 1) := by decide +kernel
theorem dX0_add_24 : decode cX0_add 24 = .ok (.getfield 41, 3) := by decide +kernel
theorem dX0_add_27 : decode cX0_add 27 = .ok (.iload_n 2, 1) := by decide +kernel
theorem dX0_add_28 : decode cX0_add 28 = .ok (.iastore, 1) := by decide +kernel
theorem dX0_add_29 : decode cX0_add 29 = .ok (.aload_n 0, 1) := by decide +kernel
theorem dX0_add_30 : decode cX0_add 30 = .ok (.getfield 18, 3) := by decide +kernel
theorem dX0_add_33 : decode cX0_add 33 = .ok (.aload_n 0, 1) := by decide +kernel
theorem dX0_add_34 : decode cX0_add 34 = .ok (.getfield 41, 3) := by decide +kernel
theorem dX0_add_37 : decode cX0_add 37 = .ok (.iload_n 3, 1) := by decide +kernel
theorem dX0_add_38 : decode cX0_add 38 = .ok (.iastore, 1) := by decide +kernel
theorem dX0_add_39 : decode cX0_add 39 = .ok (.aload_n 0, 1) := by decide +kernel
theorem dX0_add_40 : decode cX0_add 40 = .ok (.getfield 21, 3) := by decide +kernel
theorem dX0_add_43 : decode cX0_add 43 = .ok (.aload_n 0, 1) := by decide +kernel
theorem dX0_add_44 : decode cX0_add 44 = .ok (.getfield 41, 3) := by decide +kernel
theorem dX0_add_47 : decode cX0_add 47 = .ok (.iload 4, 2) := by decide +kernel
theorem dX0_add_49 : decode cX0_add 49 = .ok (.iastore, 1) := by decide +kernel
theorem dX0_add_50 : decode cX0_add 50 = .ok (.aload_n 0, 1) := by decide +kernel
theorem dX0_add_51 : decode cX0_add 51 = .ok (.getfield 24, 3) := by decide +kernel
theorem dX0_add_54 : decode cX0_add 54 = .ok (.aload_n 0, 1) := by decide +kernel
theorem dX0_add_55 : decode cX0_add 55 = .ok (.getfield 41, 3) := by decide +kernel
theorem dX0_add_58 : decode cX0_add 58 = .ok (.aload 5, 2) := by decide +kernel
theorem dX0_add_60 : decode cX0_add 60 = .ok (.getfield 45, 3) := by decide +kernel
theorem dX0_add_63 : decode cX0_add 63 = .ok (.iastore, 1) := by decide +kernel
theorem dX0_add_64 : decode cX0_add 64 = .ok (.iconst 0, 1) := by decide +kernel
theorem dX0_add_65 : decode cX0_add 65 = .ok (.istore 6, 2) := by decide +kernel
theorem dX0_add_67 : decode cX0_add 67 = .ok (.iload 6, 2) := by decide +kernel
theorem dX0_add_69 : decode cX0_add 69 = .ok (.aload 5, 2) := by decide +kernel
theorem dX0_add_71 : decode cX0_add 71 = .ok (.getfield 45, 3) := by decide +kernel
theorem dX0_add_74 : decode cX0_add 74 = .ok (.if_icmp .ge 32, 3) := by decide +kernel
theorem dX0_add_77 : decode cX0_add 77 = .ok (.aload_n 0, 1) := by decide +kernel
theorem dX0_add_78 : decode cX0_add 78 = .ok (.getfield 27, 3) := by decide +kernel
theorem dX0_add_81 : decode cX0_add 81 = .ok (.aload_n 0, 1) := by decide +kernel
theorem dX0_add_82 : decode cX0_add 82 = .ok (.getfield 41, 3) := by decide +kernel
theorem dX0_add_85 : decode cX0_add 85 = .ok (.bipush 6, 2) := by decide +kernel
theorem dX0_add_87 : decode cX0_add 87 = .ok (.imul, 1) := by decide +kernel
theorem dX0_add_88 : decode cX0_add 88 = .ok (.iload 6, 2) := by decide +kernel
theorem dX0_add_90 : decode cX0_add 90 = .ok (.iadd, 1) := by decide +kernel
theorem dX0_add_91 : decode cX0_add 91 = .ok (.aload 5, 2) := by decide +kernel
theorem dX0_add_93 : decode cX0_add 93 = .ok (.getfield 48, 3) := by decide +kernel
theorem dX0_add_96 : decode cX0_add 96 = .ok (.iload 6, 2) := by decide +kernel
theorem dX0_add_98 : decode cX0_add 98 = .ok (.iaload, 1) := by decide +kernel
theorem dX0_add_99 : decode cX0_add 99 = .ok (.iastore, 1) := by decide +kernel
theorem dX0_add_100 : decode cX0_add 100 = .ok (.iinc 6 1, 3) := by decide +kernel
theorem dX0_add_103 : decode cX0_add 103 = .ok (.goto (-36), 3) := by decide +kernel
theorem dX0_add_106 : decode cX0_add 106 = .ok (.aload_n 0, 1) := by decide +kernel
theorem dX0_add_107 : decode cX0_add 107 = .ok (.dup, 1) := by decide +kernel
theorem dX0_add_108 : decode cX0_add 108 = .ok (.getfield 41, 3) := by decide +kernel
theorem dX0_add_111 : decode cX0_add 111 = .ok (.iconst 1, 1) := by decide +kernel
theorem dX0_add_112 : decode cX0_add 112 = .ok (.iadd, 1) := by decide +kernel
theorem dX0_add_113 : decode cX0_add 113 = .ok (.putfield 41, 3) := by decide +kernel
theorem dX0_add_116 : decode cX0_add 116 = .ok (.aload_n 0, 1) := by decide +kernel
theorem dX0_add_117 : decode cX0_add 117 = .ok (.getfield 41, 3) := by decide +kernel
theorem dX0_add_120 : decode cX0_add 120 = .ok (.iconst 1, 1) := by decide +kernel
theorem dX0_add_121 : decode cX0_add 121 = .ok (.isub, 1) := by decide +kernel
theorem dX0_add_122 : decode cX0_add 122 = .ok (.ireturn, 1) := by decide +kernel
theorem dX9_cast_0 : decode cX9_cast 0 = .ok (.aload_n 0, 1) := by decide +kernel
theorem dX9_cast_1 : decode cX9_cast 1 = .ok (.iload_n 1, 1) := by decide +kernel
theorem dX9_cast_2 : decode cX9_cast 2 = .ok (.invokevirtual 176, 3) := by decide +kernel
theorem dX9_cast_5 : decode cX9_cast 5 = .ok (.iload_n 2, 1) := by decide +kernel
theorem dX9_cast_6 : decode cX9_cast 6 = .ok (.iconst 0, 1) := by decide +kernel
theorem dX9_cast_7 : decode cX9_cast 7 = .ok (.bipush 19, 2) := by decide +kernel
theorem dX9_cast_9 : decode cX9_cast 9 = .ok (.invokestatic 69, 3) := by decide +kernel
theorem dX9_cast_12 : decode cX9_cast 12 = .ok (.ifCond .ne 13, 3) := by decide +kernel
theorem dX9_cast_15 : decode cX9_cast 15 = .ok (.new 73, 3) := by decide +kernel
theorem dX9_cast_18 : decode cX9_cast 18 = .ok (.dup, 1) := by decide +kernel
theorem dX9_cast_19 : decode cX9_cast 19 = .ok (.ldc 203, 2) := by decide +kernel
theorem dX9_cast_21 : decode cX9_cast 21 = .ok (.invokespecial 77, 3) := by decide +kernel
theorem dX9_cast_24 : decode cX9_cast 24 = .ok (.athrow, 1) := by decide +kernel
theorem dX9_cast_25 : decode cX9_cast 25 = .ok (.aload_n 0, 1) := by decide +kernel
theorem dX9_cast_26 : decode cX9_cast 26 = .ok (.getfield 31, 3) := by decide +kernel
theorem dX9_cast_29 : decode cX9_cast 29 = .ok (.iload_n 1, 1) := by decide +kernel
theorem dX9_cast_30 : decode cX9_cast 30 = .ok (.aaload, 1) := by decide +kernel
theorem dX9_cast_31 : decode cX9_cast 31 = .ok (.getfield 180, 3) := by decide +kernel
theorem dX9_cast_34 : decode cX9_cast 34 = .ok (.ifCond .ne 44, 3) := by decide +kernel
theorem dX9_cast_37 : decode cX9_cast 37 = .ok (.aload_n 0, 1) := by decide +kernel
theorem dX9_cast_38 : decode cX9_cast 38 = .ok (.getfield 38, 3) := by decide +kernel
theorem dX9_cast_41 : decode cX9_cast 41 = .ok (.getfield 205, 3) := by decide +kernel
theorem dX9_cast_44 : decode cX9_cast 44 = .ok (.ifCond .eq 34, 3) := by decide +kernel
theorem dX9_cast_47 : decode cX9_cast 47 = .ok (.aload_n 0, 1) := by decide +kernel
theorem dX9_cast_48 : decode cX9_cast 48 = .ok (.getfield 38, 3) := by decide +kernel
theorem dX9_cast_51 : decode cX9_cast 51 = .ok (.invokevirtual 206, 3) := by decide +kernel
theorem dX9_cast_54 : decode cX9_cast 54 = .ok (.aload_n 0, 1) := by decide +kernel
theorem dX9_cast_55 : decode cX9_cast 55 = .ok (.getfield 31, 3) := by decide +kernel
theorem dX9_cast_58 : decode cX9_cast 58 = .ok (.iload_n 1, 1) := by decide +kernel
theorem dX9_cast_59 : decode cX9_cast 59 = .ok (.aaload, 1) := by decide +kernel
theorem dX9_cast_60 : decode cX9_cast 60 = .ok (.getfield 209, 3) := by decide +kernel
theorem dX9_cast_63 : decode cX9_cast 63 = .ok (.if_icmp .ge 15, 3) := by decide +kernel
theorem dX9_cast_66 : decode cX9_cast 66 = .ok (.aload_n 0, 1) := by decide +kernel
theorem dX9_cast_67 : decode cX9_cast 67 = .ok (.getfield 47, 3) := by decide +kernel
theorem dX9_cast_70 : decode cX9_cast 70 = .ok (.getfield 212, 3) := by decide +kernel
theorem dX9_cast_73 : decode cX9_cast 73 = .ok (.bipush 100, 2) := by decide +kernel
theorem dX9_cast_75 : decode cX9_cast 75 = .ok (.if_icmp .lt 13, 3) := by decide +kernel
theorem dX9_cast_78 : decode cX9_cast 78 = .ok (.new 89, 3) := by decide +kernel
theorem dX9_cast_81 : decode cX9_cast 81 = .ok (.dup, 1) := by decide +kernel
theorem dX9_cast_82 : decode cX9_cast 82 = .ok (.ldc 213, 2) := by decide +kernel
theorem dX9_cast_84 : decode cX9_cast 84 = .ok (.invokespecial 93, 3) := by decide +kernel
theorem dX9_cast_87 : decode cX9_cast 87 = .ok (.athrow, 1) := by decide +kernel
theorem dX9_cast_88 : decode cX9_cast 88 = .ok (.aload_n 0, 1) := by decide +kernel
theorem dX9_cast_89 : decode cX9_cast 89 = .ok (.getfield 47, 3) := by decide +kernel
theorem dX9_cast_92 : decode cX9_cast 92 = .ok (.iload_n 1, 1) := by decide +kernel
theorem dX9_cast_93 : decode cX9_cast 93 = .ok (.aload_n 0, 1) := by decide +kernel
theorem dX9_cast_94 : decode cX9_cast 94 = .ok (.getfield 31, 3) := by decide +kernel
theorem dX9_cast_97 : decode cX9_cast 97 = .ok (.iload_n 1, 1) := by decide +kernel
theorem dX9_cast_98 : decode cX9_cast 98 = .ok (.aaload, 1) := by decide +kernel
theorem dX9_cast_99 : decode cX9_cast 99 = .ok (.getfield 215, 3) := by decide +kernel
theorem dX9_cast_102 : decode cX9_cast 102 = .ok (.iload_n 2, 1) := by decide +kernel
theorem dX9_cast_103 : decode cX9_cast 103 = .ok (.aload_n 0, 1) := by decide +kernel
theorem dX9_cast_104 : decode cX9_cast 104 = .ok (.getfield 117, 3) := by decide +kernel
theorem dX9_cast_107 : decode cX9_cast 107 = .ok (.aload_n 0, 1) := by decide +kernel
theorem dX9_cast_108 : decode cX9_cast 108 = .ok (.getfield 38, 3) := by decide +kernel
theorem dX9_cast_111 : decode cX9_cast 111 = .ok (.invokevirtual 218, 3) := by decide +kernel
theorem dX9_cast_114 : decode cX9_cast 114 = .ok (.istore_n 3, 1) := by decide +kernel
theorem dX9_cast_115 : decode cX9_cast 115 = .ok (.aload_n 0, 1) := by decide +kernel
theorem dX9_cast_116 : decode cX9_cast 116 = .ok (.getfield 38, 3) := by decide +kernel
theorem dX9_cast_119 : decode cX9_cast 119 = .ok (.iconst 0, 1) := by decide +kernel
theorem dX9_cast_120 : decode cX9_cast 120 = .ok (.putfield 205, 3) := by decide +kernel
theorem dX9_cast_123 : decode cX9_cast 123 = .ok (.iload_n 3, 1) := by decide +kernel
theorem dX9_cast_124 : decode cX9_cast 124 = .ok (.ireturn, 1) := by decide +kernel
theorem dX9_needBallot_0 : decode cX9_needBallot 0 = .ok (.iload_n 1, 1) := by decide +kernel
theorem dX9_needBallot_1 : decode cX9_needBallot 1 = .ok (.iconst 0, 1) := by decide +kernel
theorem dX9_needBallot_2 : decode cX9_needBallot 2 = .ok (.aload_n 0, 1) := by decide +kernel
theorem dX9_needBallot_3 : decode cX9_needBallot 3 = .ok (.getfield 47, 3) := by decide +kernel
theorem dX9_needBallot_6 : decode cX9_needBallot 6 = .ok (.getfield 212, 3) := by decide +kernel
theorem dX9_needBallot_9 : decode cX9_needBallot 9 = .ok (.iconst 1, 1) := by decide +kernel
theorem dX9_needBallot_10 : decode cX9_needBallot 10 = .ok (.isub, 1) := by decide +kernel
theorem dX9_needBallot_11 : decode cX9_needBallot 11 = .ok (.invokestatic 69, 3) := by decide +kernel
theorem dX9_needBallot_14 : decode cX9_needBallot 14 = .ok (.ifCond .ne 14, 3) := by decide +kernel
theorem dX9_needBallot_17 : decode cX9_needBallot 17 = .ok (.new 73, 3) := by decide +kernel
theorem dX9_needBallot_20 : decode cX9_needBallot 20 = .ok (.dup, 1) := by decide +kernel
theorem dX9_needBallot_21 : decode cX9_needBallot 21 = .ok (.ldc_w 306, 3) := by decide +kernel
theorem dX9_needBallot_24 : decode cX9_needBallot 24 = .ok (.invokespecial 77, 3) := by decide +kernel
theorem dX9_needBallot_27 : decode cX9_needBallot 27 = .ok (.athrow, 1) := by decide +kernel
theorem dX9_needBallot_28 : decode cX9_needBallot 28 = .ok (.return_, 1) := by decide +kernel
theorem dX9_why_0 : decode cX9_why 0 = .ok (.aload_n 0, 1) := by decide +kernel
theorem dX9_why_1 : decode cX9_why 1 = .ok (.iload_n 1, 1) := by decide +kernel
theorem dX9_why_2 : decode cX9_why 2 = .ok (.invokevirtual 221, 3) := by decide +kernel
theorem dX9_why_5 : decode cX9_why 5 = .ok (.aload_n 0, 1) := by decide +kernel
theorem dX9_why_6 : decode cX9_why 6 = .ok (.getfield 47, 3) := by decide +kernel
theorem dX9_why_9 : decode cX9_why 9 = .ok (.iload_n 1, 1) := by decide +kernel
theorem dX9_why_10 : decode cX9_why 10 = .ok (.invokevirtual 224, 3) := by decide +kernel
theorem dX9_why_13 : decode cX9_why 13 = .ok (.ireturn, 1) := by decide +kernel
theorem dX9_read_0 : decode cX9_read 0 = .ok (.aload_n 0, 1) := by decide +kernel
theorem dX9_read_1 : decode cX9_read 1 = .ok (.iload_n 1, 1) := by decide +kernel
theorem dX9_read_2 : decode cX9_read 2 = .ok (.invokevirtual 221, 3) := by decide +kernel
theorem dX9_read_5 : decode cX9_read 5 = .ok (.iload_n 2, 1) := by decide +kernel
theorem dX9_read_6 : decode cX9_read 6 = .ok (.iconst 0, 1) := by decide +kernel
theorem dX9_read_7 : decode cX9_read 7 = .ok (.iconst 5, 1) := by decide +kernel
theorem dX9_read_8 : decode cX9_read 8 = .ok (.invokestatic 69, 3) := by decide +kernel
theorem dX9_read_11 : decode cX9_read 11 = .ok (.ifCond .ne 13, 3) := by decide +kernel
theorem dX9_read_14 : decode cX9_read 14 = .ok (.new 73, 3) := by decide +kernel
theorem dX9_read_17 : decode cX9_read 17 = .ok (.dup, 1) := by decide +kernel
theorem dX9_read_18 : decode cX9_read 18 = .ok (.ldc 227, 2) := by decide +kernel
theorem dX9_read_20 : decode cX9_read 20 = .ok (.invokespecial 77, 3) := by decide +kernel
theorem dX9_read_23 : decode cX9_read 23 = .ok (.athrow, 1) := by decide +kernel
theorem dX9_read_24 : decode cX9_read 24 = .ok (.aload_n 0, 1) := by decide +kernel
theorem dX9_read_25 : decode cX9_read 25 = .ok (.getfield 47, 3) := by decide +kernel
theorem dX9_read_28 : decode cX9_read 28 = .ok (.iload_n 1, 1) := by decide +kernel
theorem dX9_read_29 : decode cX9_read 29 = .ok (.iload_n 2, 1) := by decide +kernel
theorem dX9_read_30 : decode cX9_read 30 = .ok (.invokevirtual 229, 3) := by decide +kernel
theorem dX9_read_33 : decode cX9_read 33 = .ok (.ireturn, 1) := by decide +kernel
theorem dX9_misread_0 : decode cX9_misread 0 = .ok (.aload_n 0, 1) := by decide +kernel
theorem dX9_misread_1 : decode cX9_misread 1 = .ok (.iload_n 1, 1) := by decide +kernel
theorem dX9_misread_2 : decode cX9_misread 2 = .ok (.invokevirtual 221, 3) := by decide +kernel
theorem dX9_misread_5 : decode cX9_misread 5 = .ok (.aload_n 0, 1) := by decide +kernel
theorem dX9_misread_6 : decode cX9_misread 6 = .ok (.getfield 47, 3) := by decide +kernel
theorem dX9_misread_9 : decode cX9_misread 9 = .ok (.getfield 233, 3) := by decide +kernel
theorem dX9_misread_12 : decode cX9_misread 12 = .ok (.iload_n 1, 1) := by decide +kernel
theorem dX9_misread_13 : decode cX9_misread 13 = .ok (.baload, 1) := by decide +kernel
theorem dX9_misread_14 : decode cX9_misread 14 = .ok (.ifCond .ne 16, 3) := by decide +kernel
theorem dX9_misread_17 : decode cX9_misread 17 = .ok (.aload_n 0, 1) := by decide +kernel
theorem dX9_misread_18 : decode cX9_misread 18 = .ok (.getfield 47, 3) := by decide +kernel
theorem dX9_misread_21 : decode cX9_misread 21 = .ok (.getfield 236, 3) := by decide +kernel
theorem dX9_misread_24 : decode cX9_misread 24 = .ok (.iload_n 1, 1) := by decide +kernel
theorem dX9_misread_25 : decode cX9_misread 25 = .ok (.iaload, 1) := by decide +kernel
theorem dX9_misread_26 : decode cX9_misread 26 = .ok (.iconst 2, 1) := by decide +kernel
theorem dX9_misread_27 : decode cX9_misread 27 = .ok (.if_icmp .ge 13, 3) := by decide +kernel
theorem dX9_misread_30 : decode cX9_misread 30 = .ok (.new 89, 3) := by decide +kernel
theorem dX9_misread_33 : decode cX9_misread 33 = .ok (.dup, 1) := by decide +kernel
theorem dX9_misread_34 : decode cX9_misread 34 = .ok (.ldc 240, 2) := by decide +kernel
theorem dX9_misread_36 : decode cX9_misread 36 = .ok (.invokespecial 93, 3) := by decide +kernel
theorem dX9_misread_39 : decode cX9_misread 39 = .ok (.athrow, 1) := by decide +kernel
theorem dX9_misread_40 : decode cX9_misread 40 = .ok (.aload_n 0, 1) := by decide +kernel
theorem dX9_misread_41 : decode cX9_misread 41 = .ok (.getfield 47, 3) := by decide +kernel
theorem dX9_misread_44 : decode cX9_misread 44 = .ok (.getfield 233, 3) := by decide +kernel
theorem dX9_misread_47 : decode cX9_misread 47 = .ok (.iload_n 1, 1) := by decide +kernel
theorem dX9_misread_48 : decode cX9_misread 48 = .ok (.iconst 1, 1) := by decide +kernel
theorem dX9_misread_49 : decode cX9_misread 49 = .ok (.bastore, 1) := by decide +kernel
theorem dX9_misread_50 : decode cX9_misread 50 = .ok (.return_, 1) := by decide +kernel
theorem dX0_putRight_0 : decode cX0_putRight 0 = .ok (.aload_n 0, 1) := by decide +kernel
theorem dX0_putRight_1 : decode cX0_putRight 1 = .ok (.getfield 30, 3) := by decide +kernel
theorem dX0_putRight_4 : decode cX0_putRight 4 = .ok (.iload_n 1, 1) := by decide +kernel
theorem dX0_putRight_5 : decode cX0_putRight 5 = .ok (.baload, 1) := by decide +kernel
theorem dX0_putRight_6 : decode cX0_putRight 6 = .ok (.istore_n 2, 1) := by decide +kernel
theorem dX0_putRight_7 : decode cX0_putRight 7 = .ok (.aload_n 0, 1) := by decide +kernel
theorem dX0_putRight_8 : decode cX0_putRight 8 = .ok (.getfield 30, 3) := by decide +kernel
theorem dX0_putRight_11 : decode cX0_putRight 11 = .ok (.iload_n 1, 1) := by decide +kernel
theorem dX0_putRight_12 : decode cX0_putRight 12 = .ok (.iconst 0, 1) := by decide +kernel
theorem dX0_putRight_13 : decode cX0_putRight 13 = .ok (.bastore, 1) := by decide +kernel
theorem dX0_putRight_14 : decode cX0_putRight 14 = .ok (.iload_n 2, 1) := by decide +kernel
theorem dX0_putRight_15 : decode cX0_putRight 15 = .ok (.ireturn, 1) := by decide +kernel
theorem dX9_sample_0 : decode cX9_sample 0 = .ok (.aload_n 0, 1) := by decide +kernel
theorem dX9_sample_1 : decode cX9_sample 1 = .ok (.iload_n 1, 1) := by decide +kernel
theorem dX9_sample_2 : decode cX9_sample 2 = .ok (.invokevirtual 176, 3) := by decide +kernel
theorem dX9_sample_5 : decode cX9_sample 5 = .ok (.iload_n 2, 1) := by decide +kernel
theorem dX9_sample_6 : decode cX9_sample 6 = .ok (.iconst 0, 1) := by decide +kernel
theorem dX9_sample_7 : decode cX9_sample 7 = .ok (.sipush 9999, 3) := by decide +kernel
theorem dX9_sample_10 : decode cX9_sample 10 = .ok (.invokestatic 69, 3) := by decide +kernel
theorem dX9_sample_13 : decode cX9_sample 13 = .ok (.ifCond .eq 13, 3) := by decide +kernel
theorem dX9_sample_16 : decode cX9_sample 16 = .ok (.iload_n 3, 1) := by decide +kernel
theorem dX9_sample_17 : decode cX9_sample 17 = .ok (.iconst 1, 1) := by decide +kernel
theorem dX9_sample_18 : decode cX9_sample 18 = .ok (.bipush 20, 2) := by decide +kernel
theorem dX9_sample_20 : decode cX9_sample 20 = .ok (.invokestatic 69, 3) := by decide +kernel
theorem dX9_sample_23 : decode cX9_sample 23 = .ok (.ifCond .ne 13, 3) := by decide +kernel
theorem dX9_sample_26 : decode cX9_sample 26 = .ok (.new 80, 3) := by decide +kernel
theorem dX9_sample_29 : decode cX9_sample 29 = .ok (.dup, 1) := by decide +kernel
theorem dX9_sample_30 : decode cX9_sample 30 = .ok (.ldc 242, 2) := by decide +kernel
theorem dX9_sample_32 : decode cX9_sample 32 = .ok (.invokespecial 84, 3) := by decide +kernel
theorem dX9_sample_35 : decode cX9_sample 35 = .ok (.athrow, 1) := by decide +kernel
theorem dX9_sample_36 : decode cX9_sample 36 = .ok (.aload_n 0, 1) := by decide +kernel
theorem dX9_sample_37 : decode cX9_sample 37 = .ok (.getfield 47, 3) := by decide +kernel
theorem dX9_sample_40 : decode cX9_sample 40 = .ok (.iload_n 1, 1) := by decide +kernel
theorem dX9_sample_41 : decode cX9_sample 41 = .ok (.invokevirtual 186, 3) := by decide +kernel
theorem dX9_sample_44 : decode cX9_sample 44 = .ok (.aload_n 0, 1) := by decide +kernel
theorem dX9_sample_45 : decode cX9_sample 45 = .ok (.getfield 47, 3) := by decide +kernel
theorem dX9_sample_48 : decode cX9_sample 48 = .ok (.getfield 189, 3) := by decide +kernel
theorem dX9_sample_51 : decode cX9_sample 51 = .ok (.ifCond .gt 13, 3) := by decide +kernel
theorem dX9_sample_54 : decode cX9_sample 54 = .ok (.new 89, 3) := by decide +kernel
theorem dX9_sample_57 : decode cX9_sample 57 = .ok (.dup, 1) := by decide +kernel
theorem dX9_sample_58 : decode cX9_sample 58 = .ok (.ldc 244, 2) := by decide +kernel
theorem dX9_sample_60 : decode cX9_sample 60 = .ok (.invokespecial 93, 3) := by decide +kernel
theorem dX9_sample_63 : decode cX9_sample 63 = .ok (.athrow, 1) := by decide +kernel
theorem dX9_sample_64 : decode cX9_sample 64 = .ok (.iload_n 2, 1) := by decide +kernel
theorem dX9_sample_65 : decode cX9_sample 65 = .ok (.istore 4, 2) := by decide +kernel
theorem dX9_sample_67 : decode cX9_sample 67 = .ok (.iconst 0, 1) := by decide +kernel
theorem dX9_sample_68 : decode cX9_sample 68 = .ok (.istore 5, 2) := by decide +kernel
theorem dX9_sample_70 : decode cX9_sample 70 = .ok (.iconst 0, 1) := by decide +kernel
theorem dX9_sample_71 : decode cX9_sample 71 = .ok (.istore 6, 2) := by decide +kernel
theorem dX9_sample_73 : decode cX9_sample 73 = .ok (.iload 6, 2) := by decide +kernel
theorem dX9_sample_75 : decode cX9_sample 75 = .ok (.iload_n 3, 1) := by decide +kernel
theorem dX9_sample_76 : decode cX9_sample 76 = .ok (.if_icmp .ge 55, 3) := by decide +kernel
theorem dX9_sample_79 : decode cX9_sample 79 = .ok (.sipush 1103, 3) := by decide +kernel
theorem dX9_sample_82 : decode cX9_sample 82 = .ok (.iload 4, 2) := by decide +kernel
theorem dX9_sample_84 : decode cX9_sample 84 = .ok (.imul, 1) := by decide +kernel
theorem dX9_sample_85 : decode cX9_sample 85 = .ok (.sipush 12345, 3) := by decide +kernel
theorem dX9_sample_88 : decode cX9_sample 88 = .ok (.iadd, 1) := by decide +kernel
theorem dX9_sample_89 : decode cX9_sample 89 = .ok (.ldc 246, 2) := by decide +kernel
theorem dX9_sample_91 : decode cX9_sample 91 = .ok (.irem, 1) := by decide +kernel
theorem dX9_sample_92 : decode cX9_sample 92 = .ok (.istore 4, 2) := by decide +kernel
theorem dX9_sample_94 : decode cX9_sample 94 = .ok (.aload_n 0, 1) := by decide +kernel
theorem dX9_sample_95 : decode cX9_sample 95 = .ok (.getfield 47, 3) := by decide +kernel
theorem dX9_sample_98 : decode cX9_sample 98 = .ok (.aload_n 0, 1) := by decide +kernel
theorem dX9_sample_99 : decode cX9_sample 99 = .ok (.getfield 47, 3) := by decide +kernel
theorem dX9_sample_102 : decode cX9_sample 102 = .ok (.getfield 247, 3) := by decide +kernel
theorem dX9_sample_105 : decode cX9_sample 105 = .ok (.iload 4, 2) := by decide +kernel
theorem dX9_sample_107 : decode cX9_sample 107 = .ok (.aload_n 0, 1) := by decide +kernel
theorem dX9_sample_108 : decode cX9_sample 108 = .ok (.getfield 47, 3) := by decide +kernel
theorem dX9_sample_111 : decode cX9_sample 111 = .ok (.getfield 189, 3) := by decide +kernel
theorem dX9_sample_114 : decode cX9_sample 114 = .ok (.irem, 1) := by decide +kernel
theorem dX9_sample_115 : decode cX9_sample 115 = .ok (.iaload, 1) := by decide +kernel
theorem dX9_sample_116 : decode cX9_sample 116 = .ok (.invokevirtual 250, 3) := by decide +kernel
theorem dX9_sample_119 : decode cX9_sample 119 = .ok (.ifCond .eq 6, 3) := by decide +kernel
theorem dX9_sample_122 : decode cX9_sample 122 = .ok (.iinc 5 1, 3) := by decide +kernel
theorem dX9_sample_125 : decode cX9_sample 125 = .ok (.iinc 6 1, 3) := by decide +kernel
theorem dX9_sample_128 : decode cX9_sample 128 = .ok (.goto (-55), 3) := by decide +kernel
theorem dX9_sample_131 : decode cX9_sample 131 = .ok (.aload_n 0, 1) := by decide +kernel
theorem dX9_sample_132 : decode cX9_sample 132 = .ok (.getfield 31, 3) := by decide +kernel
theorem dX9_sample_135 : decode cX9_sample 135 = .ok (.iload_n 1, 1) := by decide +kernel
theorem dX9_sample_136 : decode cX9_sample 136 = .ok (.aaload, 1) := by decide +kernel
theorem dX9_sample_137 : decode cX9_sample 137 = .ok (.dup, 1) := by decide +kernel
theorem dX9_sample_138 : decode cX9_sample 138 = .ok (.getfield 253, 3) := by decide +kernel
theorem dX9_sample_141 : decode cX9_sample 141 = .ok (.iload_n 3, 1) := by decide +kernel
theorem dX9_sample_142 : decode cX9_sample 142 = .ok (.iadd, 1) := by decide +kernel
theorem dX9_sample_143 : decode cX9_sample 143 = .ok (.putfield 253, 3) := by decide +kernel
theorem dX9_sample_146 : decode cX9_sample 146 = .ok (.aload_n 0, 1) := by decide +kernel
theorem dX9_sample_147 : decode cX9_sample 147 = .ok (.getfield 31, 3) := by decide +kernel
theorem dX9_sample_150 : decode cX9_sample 150 = .ok (.iload_n 1, 1) := by decide +kernel
theorem dX9_sample_151 : decode cX9_sample 151 = .ok (.aaload, 1) := by decide +kernel
theorem dX9_sample_152 : decode cX9_sample 152 = .ok (.dup, 1) := by decide +kernel
theorem dX9_sample_153 : decode cX9_sample 153 = .ok (.getfield 256, 3) := by decide +kernel
theorem dX9_sample_156 : decode cX9_sample 156 = .ok (.iload 5, 2) := by decide +kernel
theorem dX9_sample_158 : decode cX9_sample 158 = .ok (.iadd, 1) := by decide +kernel
theorem dX9_sample_159 : decode cX9_sample 159 = .ok (.putfield 256, 3) := by decide +kernel
theorem dX9_sample_162 : decode cX9_sample 162 = .ok (.iload 5, 2) := by decide +kernel
theorem dX9_sample_164 : decode cX9_sample 164 = .ok (.ireturn, 1) := by decide +kernel
theorem dX9_recount_0 : decode cX9_recount 0 = .ok (.aload_n 0, 1) := by decide +kernel
theorem dX9_recount_1 : decode cX9_recount 1 = .ok (.iload_n 1, 1) := by decide +kernel
theorem dX9_recount_2 : decode cX9_recount 2 = .ok (.invokevirtual 176, 3) := by decide +kernel
theorem dX9_recount_5 : decode cX9_recount 5 = .ok (.iconst 0, 1) := by decide +kernel
theorem dX9_recount_6 : decode cX9_recount 6 = .ok (.istore_n 2, 1) := by decide +kernel
theorem dX9_recount_7 : decode cX9_recount 7 = .ok (.iconst 0, 1) := by decide +kernel
theorem dX9_recount_8 : decode cX9_recount 8 = .ok (.istore_n 3, 1) := by decide +kernel
theorem dX9_recount_9 : decode cX9_recount 9 = .ok (.iload_n 3, 1) := by decide +kernel
theorem dX9_recount_10 : decode cX9_recount 10 = .ok (.aload_n 0, 1) := by decide +kernel
theorem dX9_recount_11 : decode cX9_recount 11 = .ok (.getfield 47, 3) := by decide +kernel
theorem dX9_recount_14 : decode cX9_recount 14 = .ok (.getfield 212, 3) := by decide +kernel
theorem dX9_recount_17 : decode cX9_recount 17 = .ok (.if_icmp .ge 36, 3) := by decide +kernel
theorem dX9_recount_20 : decode cX9_recount 20 = .ok (.aload_n 0, 1) := by decide +kernel
theorem dX9_recount_21 : decode cX9_recount 21 = .ok (.getfield 47, 3) := by decide +kernel
theorem dX9_recount_24 : decode cX9_recount 24 = .ok (.getfield 259, 3) := by decide +kernel
theorem dX9_recount_27 : decode cX9_recount 27 = .ok (.iload_n 3, 1) := by decide +kernel
theorem dX9_recount_28 : decode cX9_recount 28 = .ok (.iaload, 1) := by decide +kernel
theorem dX9_recount_29 : decode cX9_recount 29 = .ok (.iload_n 1, 1) := by decide +kernel
theorem dX9_recount_30 : decode cX9_recount 30 = .ok (.if_icmp .ne 17, 3) := by decide +kernel
theorem dX9_recount_33 : decode cX9_recount 33 = .ok (.aload_n 0, 1) := by decide +kernel
theorem dX9_recount_34 : decode cX9_recount 34 = .ok (.getfield 47, 3) := by decide +kernel
theorem dX9_recount_37 : decode cX9_recount 37 = .ok (.iload_n 3, 1) := by decide +kernel
theorem dX9_recount_38 : decode cX9_recount 38 = .ok (.invokevirtual 250, 3) := by decide +kernel
theorem dX9_recount_41 : decode cX9_recount 41 = .ok (.ifCond .eq 6, 3) := by decide +kernel
theorem dX9_recount_44 : decode cX9_recount 44 = .ok (.iinc 2 1, 3) := by decide +kernel
theorem dX9_recount_47 : decode cX9_recount 47 = .ok (.iinc 3 1, 3) := by decide +kernel
theorem dX9_recount_50 : decode cX9_recount 50 = .ok (.goto (-41), 3) := by decide +kernel
theorem dX9_recount_53 : decode cX9_recount 53 = .ok (.iload_n 2, 1) := by decide +kernel
theorem dX9_recount_54 : decode cX9_recount 54 = .ok (.ireturn, 1) := by decide +kernel
theorem dX9_doubt_0 : decode cX9_doubt 0 = .ok (.aload_n 0, 1) := by decide +kernel
theorem dX9_doubt_1 : decode cX9_doubt 1 = .ok (.iload_n 1, 1) := by decide +kernel
theorem dX9_doubt_2 : decode cX9_doubt 2 = .ok (.invokevirtual 176, 3) := by decide +kernel
theorem dX9_doubt_5 : decode cX9_doubt 5 = .ok (.aload_n 0, 1) := by decide +kernel
theorem dX9_doubt_6 : decode cX9_doubt 6 = .ok (.getfield 31, 3) := by decide +kernel
theorem dX9_doubt_9 : decode cX9_doubt 9 = .ok (.iload_n 1, 1) := by decide +kernel
theorem dX9_doubt_10 : decode cX9_doubt 10 = .ok (.aaload, 1) := by decide +kernel
theorem dX9_doubt_11 : decode cX9_doubt 11 = .ok (.getfield 253, 3) := by decide +kernel
theorem dX9_doubt_14 : decode cX9_doubt 14 = .ok (.ifCond .gt 7, 3) := by decide +kernel
theorem dX9_doubt_17 : decode cX9_doubt 17 = .ok (.iconst 0, 1) := by decide +kernel
theorem dX9_doubt_18 : decode cX9_doubt 18 = .ok (.goto 25, 3) := by decide +kernel
theorem dX9_doubt_21 : decode cX9_doubt 21 = .ok (.bipush 100, 2) := by decide +kernel
theorem dX9_doubt_23 : decode cX9_doubt 23 = .ok (.aload_n 0, 1) := by decide +kernel
theorem dX9_doubt_24 : decode cX9_doubt 24 = .ok (.getfield 31, 3) := by decide +kernel
theorem dX9_doubt_27 : decode cX9_doubt 27 = .ok (.iload_n 1, 1) := by decide +kernel
theorem dX9_doubt_28 : decode cX9_doubt 28 = .ok (.aaload, 1) := by decide +kernel
theorem dX9_doubt_29 : decode cX9_doubt 29 = .ok (.getfield 256, 3) := by decide +kernel
theorem dX9_doubt_32 : decode cX9_doubt 32 = .ok (.imul, 1) := by decide +kernel
theorem dX9_doubt_33 : decode cX9_doubt 33 = .ok (.aload_n 0, 1) := by decide +kernel
theorem dX9_doubt_34 : decode cX9_doubt 34 = .ok (.getfield 31, 3) := by decide +kernel
theorem dX9_doubt_37 : decode cX9_doubt 37 = .ok (.iload_n 1, 1) := by decide +kernel
theorem dX9_doubt_38 : decode cX9_doubt 38 = .ok (.aaload, 1) := by decide +kernel
theorem dX9_doubt_39 : decode cX9_doubt 39 = .ok (.getfield 253, 3) := by decide +kernel
theorem dX9_doubt_42 : decode cX9_doubt 42 = .ok (.idiv, 1) := by decide +kernel
theorem dX9_doubt_43 : decode cX9_doubt 43 = .ok (.ireturn, 1) := by decide +kernel
theorem dX9_winners_0 : decode cX9_winners 0 = .ok (.aload_n 0, 1) := by decide +kernel
theorem dX9_winners_1 : decode cX9_winners 1 = .ok (.iload_n 1, 1) := by decide +kernel
theorem dX9_winners_2 : decode cX9_winners 2 = .ok (.invokevirtual 176, 3) := by decide +kernel
theorem dX9_winners_5 : decode cX9_winners 5 = .ok (.aload_n 0, 1) := by decide +kernel
theorem dX9_winners_6 : decode cX9_winners 6 = .ok (.iload_n 1, 1) := by decide +kernel
theorem dX9_winners_7 : decode cX9_winners 7 = .ok (.invokevirtual 153, 3) := by decide +kernel
theorem dX9_winners_10 : decode cX9_winners 10 = .ok (.getfield 157, 3) := by decide +kernel
theorem dX9_winners_13 : decode cX9_winners 13 = .ok (.ireturn, 1) := by decide +kernel
theorem dX2_givenBy_0 : decode cX2_givenBy 0 = .ok (.iconst 0, 1) := by decide +kernel
theorem dX2_givenBy_1 : decode cX2_givenBy 1 = .ok (.istore 4, 2) := by decide +kernel
theorem dX2_givenBy_3 : decode cX2_givenBy 3 = .ok (.iconst 0, 1) := by decide +kernel
theorem dX2_givenBy_4 : decode cX2_givenBy 4 = .ok (.istore 5, 2) := by decide +kernel
theorem dX2_givenBy_6 : decode cX2_givenBy 6 = .ok (.iload 5, 2) := by decide +kernel
theorem dX2_givenBy_8 : decode cX2_givenBy 8 = .ok (.aload_n 0, 1) := by decide +kernel
theorem dX2_givenBy_9 : decode cX2_givenBy 9 = .ok (.getfield 49, 3) := by decide +kernel
theorem dX2_givenBy_12 : decode cX2_givenBy 12 = .ok (.getfield 65, 3) := by decide +kernel
theorem dX2_givenBy_15 : decode cX2_givenBy 15 = .ok (.iload_n 1, 1) := by decide +kernel
theorem dX2_givenBy_16 : decode cX2_givenBy 16 = .ok (.iaload, 1) := by decide +kernel
theorem dX2_givenBy_17 : decode cX2_givenBy 17 = .ok (.if_icmp .ge 100, 3) := by decide +kernel
theorem dX2_givenBy_20 : decode cX2_givenBy 20 = .ok (.aload_n 0, 1) := by decide +kernel
theorem dX2_givenBy_21 : decode cX2_givenBy 21 = .ok (.getfield 49, 3) := by decide +kernel
theorem dX2_givenBy_24 : decode cX2_givenBy 24 = .ok (.iload_n 1, 1) := by decide +kernel
theorem dX2_givenBy_25 : decode cX2_givenBy 25 = .ok (.iload 5, 2) := by decide +kernel
theorem dX2_givenBy_27 : decode cX2_givenBy 27 = .ok (.invokevirtual 68, 3) := by decide +kernel
theorem dX2_givenBy_30 : decode cX2_givenBy 30 = .ok (.istore 6, 2) := by decide +kernel
theorem dX2_givenBy_32 : decode cX2_givenBy 32 = .ok (.iload 6, 2) := by decide +kernel
theorem dX2_givenBy_34 : decode cX2_givenBy 34 = .ok (.iload_n 3, 1) := by decide +kernel
theorem dX2_givenBy_35 : decode cX2_givenBy 35 = .ok (.if_icmp .eq 30, 3) := by decide +kernel
theorem dX2_givenBy_38 : decode cX2_givenBy 38 = .ok (.iload 4, 2) := by decide +kernel
theorem dX2_givenBy_40 : decode cX2_givenBy 40 = .ok (.aload_n 0, 1) := by decide +kernel
theorem dX2_givenBy_41 : decode cX2_givenBy 41 = .ok (.getfield 15, 3) := by decide +kernel
theorem dX2_givenBy_44 : decode cX2_givenBy 44 = .ok (.iload_n 2, 1) := by decide +kernel
theorem dX2_givenBy_45 : decode cX2_givenBy 45 = .ok (.iaload, 1) := by decide +kernel
theorem dX2_givenBy_46 : decode cX2_givenBy 46 = .ok (.iload 6, 2) := by decide +kernel
theorem dX2_givenBy_48 : decode cX2_givenBy 48 = .ok (.invokestatic 72, 3) := by decide +kernel
theorem dX2_givenBy_51 : decode cX2_givenBy 51 = .ok (.ifCond .eq 7, 3) := by decide +kernel
theorem dX2_givenBy_54 : decode cX2_givenBy 54 = .ok (.iconst 1, 1) := by decide +kernel
theorem dX2_givenBy_55 : decode cX2_givenBy 55 = .ok (.goto 4, 3) := by decide +kernel
theorem dX2_givenBy_58 : decode cX2_givenBy 58 = .ok (.iconst 0, 1) := by decide +kernel
theorem dX2_givenBy_59 : decode cX2_givenBy 59 = .ok (.iadd, 1) := by decide +kernel
theorem dX2_givenBy_60 : decode cX2_givenBy 60 = .ok (.istore 4, 2) := by decide +kernel
theorem dX2_givenBy_62 : decode cX2_givenBy 62 = .ok (.goto 49, 3) := by decide +kernel
theorem dX2_givenBy_65 : decode cX2_givenBy 65 = .ok (.aload_n 0, 1) := by decide +kernel
theorem dX2_givenBy_66 : decode cX2_givenBy 66 = .ok (.getfield 9, 3) := by decide +kernel
theorem dX2_givenBy_69 : decode cX2_givenBy 69 = .ok (.iload_n 2, 1) := by decide +kernel
theorem dX2_givenBy_70 : decode cX2_givenBy 70 = .ok (.caload, 1) := by decide +kernel
theorem dX2_givenBy_71 : decode cX2_givenBy 71 = .ok (.bipush 98, 2) := by decide +kernel
theorem dX2_givenBy_73 : decode cX2_givenBy 73 = .ok (.if_icmp .ne 16, 3) := by decide +kernel
theorem dX2_givenBy_76 : decode cX2_givenBy 76 = .ok (.aload_n 0, 1) := by decide +kernel
theorem dX2_givenBy_77 : decode cX2_givenBy 77 = .ok (.getfield 15, 3) := by decide +kernel
theorem dX2_givenBy_80 : decode cX2_givenBy 80 = .ok (.iload_n 2, 1) := by decide +kernel
theorem dX2_givenBy_81 : decode cX2_givenBy 81 = .ok (.iaload, 1) := by decide +kernel
theorem dX2_givenBy_82 : decode cX2_givenBy 82 = .ok (.invokestatic 76, 3) := by decide +kernel
theorem dX2_givenBy_85 : decode cX2_givenBy 85 = .ok (.iload 4, 2) := by decide +kernel
theorem dX2_givenBy_87 : decode cX2_givenBy 87 = .ok (.isub, 1) := by decide +kernel
theorem dX2_givenBy_88 : decode cX2_givenBy 88 = .ok (.ireturn, 1) := by decide +kernel
theorem dX2_givenBy_89 : decode cX2_givenBy 89 = .ok (.aload_n 0, 1) := by decide +kernel
theorem dX2_givenBy_90 : decode cX2_givenBy 90 = .ok (.getfield 9, 3) := by decide +kernel
theorem dX2_givenBy_93 : decode cX2_givenBy 93 = .ok (.iload_n 2, 1) := by decide +kernel
theorem dX2_givenBy_94 : decode cX2_givenBy 94 = .ok (.caload, 1) := by decide +kernel
theorem dX2_givenBy_95 : decode cX2_givenBy 95 = .ok (.bipush 97, 2) := by decide +kernel
theorem dX2_givenBy_97 : decode cX2_givenBy 97 = .ok (.if_icmp .eq 8, 3) := by decide +kernel
theorem dX2_givenBy_100 : decode cX2_givenBy 100 = .ok (.iload 4, 2) := by decide +kernel
theorem dX2_givenBy_102 : decode cX2_givenBy 102 = .ok (.ifCond .ne 7, 3) := by decide +kernel
theorem dX2_givenBy_105 : decode cX2_givenBy 105 = .ok (.iconst 1, 1) := by decide +kernel
theorem dX2_givenBy_106 : decode cX2_givenBy 106 = .ok (.goto 4, 3) := by decide +kernel
theorem dX2_givenBy_109 : decode cX2_givenBy 109 = .ok (.iconst 0, 1) := by decide +kernel
theorem dX2_givenBy_110 : decode cX2_givenBy 110 = .ok (.ireturn, 1) := by decide +kernel
theorem dX2_givenBy_111 : decode cX2_givenBy 111 = .ok (.iinc 5 1, 3) := by decide +kernel
theorem dX2_givenBy_114 : decode cX2_givenBy 114 = .ok (.goto (-108), 3) := by decide +kernel
theorem dX2_givenBy_117 : decode cX2_givenBy 117 = .ok (.iconst 0, 1) := by decide +kernel
theorem dX2_givenBy_118 : decode cX2_givenBy 118 = .ok (.ireturn, 1) := by decide +kernel
theorem dX2_votesIn_0 : decode cX2_votesIn 0 = .ok (.iload_n 1, 1) := by decide +kernel
theorem dX2_votesIn_1 : decode cX2_votesIn 1 = .ok (.ifCond .ge 5, 3) := by decide +kernel
theorem dX2_votesIn_4 : decode cX2_votesIn 4 = .ok (.iconst 0, 1) := by decide +kernel
theorem dX2_votesIn_5 : decode cX2_votesIn 5 = .ok (.ireturn, 1) := by decide +kernel
theorem dX2_votesIn_6 : decode cX2_votesIn 6 = .ok (.iconst 0, 1) := by decide +kernel
theorem dX2_votesIn_7 : decode cX2_votesIn 7 = .ok (.istore_n 3, 1) := by decide +kernel
theorem dX2_votesIn_8 : decode cX2_votesIn 8 = .ok (.iconst 0, 1) := by decide +kernel
theorem dX2_votesIn_9 : decode cX2_votesIn 9 = .ok (.istore 4, 2) := by decide +kernel
theorem dX2_votesIn_11 : decode cX2_votesIn 11 = .ok (.iload 4, 2) := by decide +kernel
theorem dX2_votesIn_13 : decode cX2_votesIn 13 = .ok (.aload_n 0, 1) := by decide +kernel
theorem dX2_votesIn_14 : decode cX2_votesIn 14 = .ok (.getfield 49, 3) := by decide +kernel
theorem dX2_votesIn_17 : decode cX2_votesIn 17 = .ok (.getfield 53, 3) := by decide +kernel
theorem dX2_votesIn_20 : decode cX2_votesIn 20 = .ok (.if_icmp .ge 28, 3) := by decide +kernel
theorem dX2_votesIn_23 : decode cX2_votesIn 23 = .ok (.iload_n 3, 1) := by decide +kernel
theorem dX2_votesIn_24 : decode cX2_votesIn 24 = .ok (.aload_n 0, 1) := by decide +kernel
theorem dX2_votesIn_25 : decode cX2_votesIn 25 = .ok (.aload_n 0, 1) := by decide +kernel
theorem dX2_votesIn_26 : decode cX2_votesIn 26 = .ok (.getfield 49, 3) := by decide +kernel
theorem dX2_votesIn_29 : decode cX2_votesIn 29 = .ok (.getfield 58, 3) := by decide +kernel
theorem dX2_votesIn_32 : decode cX2_votesIn 32 = .ok (.iload 4, 2) := by decide +kernel
theorem dX2_votesIn_34 : decode cX2_votesIn 34 = .ok (.iaload, 1) := by decide +kernel
theorem dX2_votesIn_35 : decode cX2_votesIn 35 = .ok (.iload_n 1, 1) := by decide +kernel
theorem dX2_votesIn_36 : decode cX2_votesIn 36 = .ok (.iload_n 2, 1) := by decide +kernel
theorem dX2_votesIn_37 : decode cX2_votesIn 37 = .ok (.invokevirtual 61, 3) := by decide +kernel
theorem dX2_votesIn_40 : decode cX2_votesIn 40 = .ok (.iadd, 1) := by decide +kernel
theorem dX2_votesIn_41 : decode cX2_votesIn 41 = .ok (.istore_n 3, 1) := by decide +kernel
theorem dX2_votesIn_42 : decode cX2_votesIn 42 = .ok (.iinc 4 1, 3) := by decide +kernel
theorem dX2_votesIn_45 : decode cX2_votesIn 45 = .ok (.goto (-34), 3) := by decide +kernel
theorem dX2_votesIn_48 : decode cX2_votesIn 48 = .ok (.iload_n 3, 1) := by decide +kernel
theorem dX2_votesIn_49 : decode cX2_votesIn 49 = .ok (.ireturn, 1) := by decide +kernel
theorem dX2_gaveSomething_0 : decode cX2_gaveSomething 0 = .ok (.iconst 0, 1) := by decide +kernel
theorem dX2_gaveSomething_1 : decode cX2_gaveSomething 1 = .ok (.istore_n 3, 1) := by decide +kernel
theorem dX2_gaveSomething_2 : decode cX2_gaveSomething 2 = .ok (.iload_n 3, 1) := by decide +kernel
theorem dX2_gaveSomething_3 : decode cX2_gaveSomething 3 = .ok (.aload_n 0, 1) := by decide +kernel
theorem dX2_gaveSomething_4 : decode cX2_gaveSomething 4 = .ok (.getfield 49, 3) := by decide +kernel
theorem dX2_gaveSomething_7 : decode cX2_gaveSomething 7 = .ok (.getfield 65, 3) := by decide +kernel
theorem dX2_gaveSomething_10 : decode cX2_gaveSomething 10 = .ok (.iload_n 1, 1) := by decide +kernel
theorem dX2_gaveSomething_11 : decode cX2_gaveSomething 11 = .ok (.iaload, 1) := by decide +kernel
theorem dX2_gaveSomething_12 : decode cX2_gaveSomething 12 = .ok (.if_icmp .ge 32, 3) := by decide +kernel
theorem dX2_gaveSomething_15 : decode cX2_gaveSomething 15 = .ok (.aload_n 0, 1) := by decide +kernel
theorem dX2_gaveSomething_16 : decode cX2_gaveSomething 16 = .ok (.getfield 15, 3) := by decide +kernel
theorem dX2_gaveSomething_19 : decode cX2_gaveSomething 19 = .ok (.iload_n 2, 1) := by decide +kernel
theorem dX2_gaveSomething_20 : decode cX2_gaveSomething 20 = .ok (.iaload, 1) := by decide +kernel
theorem dX2_gaveSomething_21 : decode cX2_gaveSomething 21 = .ok (.aload_n 0, 1) := by decide +kernel
theorem dX2_gaveSomething_22 : decode cX2_gaveSomething 22 = .ok (.getfield 49, 3) := by decide +kernel
theorem dX2_gaveSomething_25 : decode cX2_gaveSomething 25 = .ok (.iload_n 1, 1) := by decide +kernel
theorem dX2_gaveSomething_26 : decode cX2_gaveSomething 26 = .ok (.iload_n 3, 1) := by decide +kernel
theorem dX2_gaveSomething_27 : decode cX2_gaveSomething 27 = .ok (.invokevirtual 68, 3) := by decide +kernel
theorem dX2_gaveSomething_30 : decode cX2_gaveSomething 30 = .ok (.invokestatic 72, 3) := by decide +kernel
theorem dX2_gaveSomething_33 : decode cX2_gaveSomething 33 = .ok (.ifCond .eq 5, 3) := by decide +kernel
theorem dX2_gaveSomething_36 : decode cX2_gaveSomething 36 = .ok (.iconst 1, 1) := by decide +kernel
theorem dX2_gaveSomething_37 : decode cX2_gaveSomething 37 = .ok (.ireturn, 1) := by decide +kernel
theorem dX2_gaveSomething_38 : decode cX2_gaveSomething 38 = .ok (.iinc 3 1, 3) := by decide +kernel
theorem dX2_gaveSomething_41 : decode cX2_gaveSomething 41 = .ok (.goto (-39), 3) := by decide +kernel
theorem dX2_gaveSomething_44 : decode cX2_gaveSomething 44 = .ok (.iconst 0, 1) := by decide +kernel
theorem dX2_gaveSomething_45 : decode cX2_gaveSomething 45 = .ok (.ireturn, 1) := by decide +kernel
theorem dX2_weightOf_0 : decode cX2_weightOf 0 = .ok (.iload_n 1, 1) := by decide +kernel
theorem dX2_weightOf_1 : decode cX2_weightOf 1 = .ok (.ifCond .ge 5, 3) := by decide +kernel
theorem dX2_weightOf_4 : decode cX2_weightOf 4 = .ok (.iconst 0, 1) := by decide +kernel
theorem dX2_weightOf_5 : decode cX2_weightOf 5 = .ok (.ireturn, 1) := by decide +kernel
theorem dX2_weightOf_6 : decode cX2_weightOf 6 = .ok (.iconst 0, 1) := by decide +kernel
theorem dX2_weightOf_7 : decode cX2_weightOf 7 = .ok (.istore_n 2, 1) := by decide +kernel
theorem dX2_weightOf_8 : decode cX2_weightOf 8 = .ok (.iconst 0, 1) := by decide +kernel
theorem dX2_weightOf_9 : decode cX2_weightOf 9 = .ok (.istore_n 3, 1) := by decide +kernel
theorem dX2_weightOf_10 : decode cX2_weightOf 10 = .ok (.iload_n 3, 1) := by decide +kernel
theorem dX2_weightOf_11 : decode cX2_weightOf 11 = .ok (.aload_n 0, 1) := by decide +kernel
theorem dX2_weightOf_12 : decode cX2_weightOf 12 = .ok (.getfield 49, 3) := by decide +kernel
theorem dX2_weightOf_15 : decode cX2_weightOf 15 = .ok (.getfield 53, 3) := by decide +kernel
theorem dX2_weightOf_18 : decode cX2_weightOf 18 = .ok (.if_icmp .ge 29, 3) := by decide +kernel
theorem dX2_weightOf_21 : decode cX2_weightOf 21 = .ok (.aload_n 0, 1) := by decide +kernel
theorem dX2_weightOf_22 : decode cX2_weightOf 22 = .ok (.aload_n 0, 1) := by decide +kernel
theorem dX2_weightOf_23 : decode cX2_weightOf 23 = .ok (.getfield 49, 3) := by decide +kernel
theorem dX2_weightOf_26 : decode cX2_weightOf 26 = .ok (.getfield 58, 3) := by decide +kernel
theorem dX2_weightOf_29 : decode cX2_weightOf 29 = .ok (.iload_n 3, 1) := by decide +kernel
theorem dX2_weightOf_30 : decode cX2_weightOf 30 = .ok (.iaload, 1) := by decide +kernel
theorem dX2_weightOf_31 : decode cX2_weightOf 31 = .ok (.iload_n 1, 1) := by decide +kernel
theorem dX2_weightOf_32 : decode cX2_weightOf 32 = .ok (.invokevirtual 82, 3) := by decide +kernel
theorem dX2_weightOf_35 : decode cX2_weightOf 35 = .ok (.ifCond .eq 6, 3) := by decide +kernel
theorem dX2_weightOf_38 : decode cX2_weightOf 38 = .ok (.iinc 2 1, 3) := by decide +kernel
theorem dX2_weightOf_41 : decode cX2_weightOf 41 = .ok (.iinc 3 1, 3) := by decide +kernel
theorem dX2_weightOf_44 : decode cX2_weightOf 44 = .ok (.goto (-34), 3) := by decide +kernel
theorem dX2_weightOf_47 : decode cX2_weightOf 47 = .ok (.iload_n 2, 1) := by decide +kernel
theorem dX2_weightOf_48 : decode cX2_weightOf 48 = .ok (.ireturn, 1) := by decide +kernel
theorem dX2_makeTally_0 : decode cX2_makeTally 0 = .ok (.aload_n 0, 1) := by decide +kernel
theorem dX2_makeTally_1 : decode cX2_makeTally 1 = .ok (.getfield 46, 3) := by decide +kernel
theorem dX2_makeTally_4 : decode cX2_makeTally 4 = .ok (.sipush 156, 3) := by decide +kernel
theorem dX2_makeTally_7 : decode cX2_makeTally 7 = .ok (.if_icmp .ge 36, 3) := by decide +kernel
theorem dX2_makeTally_10 : decode cX2_makeTally 10 = .ok (.aload_n 0, 1) := by decide +kernel
theorem dX2_makeTally_11 : decode cX2_makeTally 11 = .ok (.getfield 9, 3) := by decide +kernel
theorem dX2_makeTally_14 : decode cX2_makeTally 14 = .ok (.aload_n 0, 1) := by decide +kernel
theorem dX2_makeTally_15 : decode cX2_makeTally 15 = .ok (.getfield 46, 3) := by decide +kernel
theorem dX2_makeTally_18 : decode cX2_makeTally 18 = .ok (.iload_n 1, 1) := by decide +kernel
theorem dX2_makeTally_19 : decode cX2_makeTally 19 = .ok (.castore, 1) := by decide +kernel
theorem dX2_makeTally_20 : decode cX2_makeTally 20 = .ok (.aload_n 0, 1) := by decide +kernel
theorem dX2_makeTally_21 : decode cX2_makeTally 21 = .ok (.getfield 15, 3) := by decide +kernel
theorem dX2_makeTally_24 : decode cX2_makeTally 24 = .ok (.aload_n 0, 1) := by decide +kernel
theorem dX2_makeTally_25 : decode cX2_makeTally 25 = .ok (.getfield 46, 3) := by decide +kernel
theorem dX2_makeTally_28 : decode cX2_makeTally 28 = .ok (.aload_n 0, 1) := by decide +kernel
theorem dX2_makeTally_29 : decode cX2_makeTally 29 = .ok (.getfield 39, 3) := by decide +kernel
theorem dX2_makeTally_32 : decode cX2_makeTally 32 = .ok (.iastore, 1) := by decide +kernel
theorem dX2_makeTally_33 : decode cX2_makeTally 33 = .ok (.aload_n 0, 1) := by decide +kernel
theorem dX2_makeTally_34 : decode cX2_makeTally 34 = .ok (.dup, 1) := by decide +kernel
theorem dX2_makeTally_35 : decode cX2_makeTally 35 = .ok (.getfield 46, 3) := by decide +kernel
theorem dX2_makeTally_38 : decode cX2_makeTally 38 = .ok (.iconst 1, 1) := by decide +kernel
theorem dX2_makeTally_39 : decode cX2_makeTally 39 = .ok (.iadd, 1) := by decide +kernel
theorem dX2_makeTally_40 : decode cX2_makeTally 40 = .ok (.putfield 46, 3) := by decide +kernel
theorem dX2_makeTally_43 : decode cX2_makeTally 43 = .ok (.return_, 1) := by decide +kernel
theorem dX2_doRow_0 : decode cX2_doRow 0 = .ok (.iload_n 3, 1) := by decide +kernel
theorem dX2_doRow_1 : decode cX2_doRow 1 = .ok (.bipush 24, 2) := by decide +kernel
theorem dX2_doRow_3 : decode cX2_doRow 3 = .ok (.if_icmp .le 8, 3) := by decide +kernel
theorem dX2_doRow_6 : decode cX2_doRow 6 = .ok (.aload_n 1, 1) := by decide +kernel
theorem dX2_doRow_7 : decode cX2_doRow 7 = .ok (.getfield 19, 3) := by decide +kernel
theorem dX2_doRow_10 : decode cX2_doRow 10 = .ok (.ireturn, 1) := by decide +kernel
theorem dX2_doRow_11 : decode cX2_doRow 11 = .ok (.iload_n 2, 1) := by decide +kernel
theorem dX2_doRow_12 : decode cX2_doRow 12 = .ok (.istore 4, 2) := by decide +kernel
theorem dX2_doRow_14 : decode cX2_doRow 14 = .ok (.iconst 0, 1) := by decide +kernel
theorem dX2_doRow_15 : decode cX2_doRow 15 = .ok (.istore 5, 2) := by decide +kernel
theorem dX2_doRow_17 : decode cX2_doRow 17 = .ok (.iload 5, 2) := by decide +kernel
theorem dX2_doRow_19 : decode cX2_doRow 19 = .ok (.bipush 24, 2) := by decide +kernel
theorem dX2_doRow_21 : decode cX2_doRow 21 = .ok (.if_icmp .ge 175, 3) := by decide +kernel
theorem dX2_doRow_24 : decode cX2_doRow 24 = .ok (.aload_n 0, 1) := by decide +kernel
theorem dX2_doRow_25 : decode cX2_doRow 25 = .ok (.getfield 25, 3) := by decide +kernel
theorem dX2_doRow_28 : decode cX2_doRow 28 = .ok (.ifCond .le 168, 3) := by decide +kernel
theorem dX2_doRow_31 : decode cX2_doRow 31 = .ok (.iload 4, 2) := by decide +kernel
theorem dX2_doRow_33 : decode cX2_doRow 33 = .ok (.aload_n 1, 1) := by decide +kernel
theorem dX2_doRow_34 : decode cX2_doRow 34 = .ok (.getfield 19, 3) := by decide +kernel
theorem dX2_doRow_37 : decode cX2_doRow 37 = .ok (.if_icmp .ge 15, 3) := by decide +kernel
theorem dX2_doRow_40 : decode cX2_doRow 40 = .ok (.aload_n 1, 1) := by decide +kernel
theorem dX2_doRow_41 : decode cX2_doRow 41 = .ok (.getfield 28, 3) := by decide +kernel
theorem dX2_doRow_44 : decode cX2_doRow 44 = .ok (.iload 4, 2) := by decide +kernel
theorem dX2_doRow_46 : decode cX2_doRow 46 = .ok (.caload, 1) := by decide +kernel
theorem dX2_doRow_47 : decode cX2_doRow 47 = .ok (.bipush 41, 2) := by decide +kernel
theorem dX2_doRow_49 : decode cX2_doRow 49 = .ok (.if_icmp .ne 6, 3) := by decide +kernel
theorem dX2_doRow_52 : decode cX2_doRow 52 = .ok (.iload 4, 2) := by decide +kernel
theorem dX2_doRow_54 : decode cX2_doRow 54 = .ok (.ireturn, 1) := by decide +kernel
theorem dX2_doRow_55 : decode cX2_doRow 55 = .ok (.aload_n 1, 1) := by decide +kernel
theorem dX2_doRow_56 : decode cX2_doRow 56 = .ok (.getfield 28, 3) := by decide +kernel
theorem dX2_doRow_59 : decode cX2_doRow 59 = .ok (.iload 4, 2) := by decide +kernel
theorem dX2_doRow_61 : decode cX2_doRow 61 = .ok (.caload, 1) := by decide +kernel
theorem dX2_doRow_62 : decode cX2_doRow 62 = .ok (.istore 6, 2) := by decide +kernel
theorem dX2_doRow_64 : decode cX2_doRow 64 = .ok (.iinc 4 1, 3) := by decide +kernel
theorem dX2_doRow_67 : decode cX2_doRow 67 = .ok (.iload 6, 2) := by decide +kernel
theorem dX2_doRow_69 : decode cX2_doRow 69 = .ok (.bipush 40, 2) := by decide +kernel
theorem dX2_doRow_71 : decode cX2_doRow 71 = .ok (.if_icmp .eq 66, 3) := by decide +kernel
theorem dX2_doRow_74 : decode cX2_doRow 74 = .ok (.iconst 0, 1) := by decide +kernel
theorem dX2_doRow_75 : decode cX2_doRow 75 = .ok (.istore 7, 2) := by decide +kernel
theorem dX2_doRow_77 : decode cX2_doRow 77 = .ok (.iload 4, 2) := by decide +kernel
theorem dX2_doRow_79 : decode cX2_doRow 79 = .ok (.aload_n 1, 1) := by decide +kernel
theorem dX2_doRow_80 : decode cX2_doRow 80 = .ok (.getfield 19, 3) := by decide +kernel
theorem dX2_doRow_83 : decode cX2_doRow 83 = .ok (.if_icmp .ge 40, 3) := by decide +kernel
theorem dX2_doRow_86 : decode cX2_doRow 86 = .ok (.aload_n 1, 1) := by decide +kernel
theorem dX2_doRow_87 : decode cX2_doRow 87 = .ok (.getfield 28, 3) := by decide +kernel
theorem dX2_doRow_90 : decode cX2_doRow 90 = .ok (.iload 4, 2) := by decide +kernel
theorem dX2_doRow_92 : decode cX2_doRow 92 = .ok (.caload, 1) := by decide +kernel
theorem dX2_doRow_93 : decode cX2_doRow 93 = .ok (.invokestatic 31, 3) := by decide +kernel
theorem dX2_doRow_96 : decode cX2_doRow 96 = .ok (.ifCond .eq 27, 3) := by decide +kernel
theorem dX2_doRow_99 : decode cX2_doRow 99 = .ok (.bipush 10, 2) := by decide +kernel
theorem dX2_doRow_101 : decode cX2_doRow 101 = .ok (.iload 7, 2) := by decide +kernel
theorem dX2_doRow_103 : decode cX2_doRow 103 = .ok (.imul, 1) := by decide +kernel
theorem dX2_doRow_104 : decode cX2_doRow 104 = .ok (.aload_n 1, 1) := by decide +kernel
theorem dX2_doRow_105 : decode cX2_doRow 105 = .ok (.getfield 28, 3) := by decide +kernel
theorem dX2_doRow_108 : decode cX2_doRow 108 = .ok (.iload 4, 2) := by decide +kernel
theorem dX2_doRow_110 : decode cX2_doRow 110 = .ok (.caload, 1) := by decide +kernel
theorem dX2_doRow_111 : decode cX2_doRow 111 = .ok (.bipush 48, 2) := by decide +kernel
theorem dX2_doRow_113 : decode cX2_doRow 113 = .ok (.isub, 1) := by decide +kernel
theorem dX2_doRow_114 : decode cX2_doRow 114 = .ok (.iadd, 1) := by decide +kernel
theorem dX2_doRow_115 : decode cX2_doRow 115 = .ok (.istore 7, 2) := by decide +kernel
theorem dX2_doRow_117 : decode cX2_doRow 117 = .ok (.iinc 4 1, 3) := by decide +kernel
theorem dX2_doRow_120 : decode cX2_doRow 120 = .ok (.goto (-43), 3) := by decide +kernel
theorem dX2_doRow_123 : decode cX2_doRow 123 = .ok (.iinc 4 1, 3) := by decide +kernel
theorem dX2_doRow_126 : decode cX2_doRow 126 = .ok (.aload_n 0, 1) := by decide +kernel
theorem dX2_doRow_127 : decode cX2_doRow 127 = .ok (.iload 6, 2) := by decide +kernel
theorem dX2_doRow_129 : decode cX2_doRow 129 = .ok (.iload 7, 2) := by decide +kernel
theorem dX2_doRow_131 : decode cX2_doRow 131 = .ok (.invokevirtual 35, 3) := by decide +kernel
theorem dX2_doRow_134 : decode cX2_doRow 134 = .ok (.goto 56, 3) := by decide +kernel
theorem dX2_doRow_137 : decode cX2_doRow 137 = .ok (.iload 4, 2) := by decide +kernel
theorem dX2_doRow_139 : decode cX2_doRow 139 = .ok (.istore 7, 2) := by decide +kernel
theorem dX2_doRow_141 : decode cX2_doRow 141 = .ok (.iconst (-1), 1) := by decide +kernel
theorem dX2_doRow_142 : decode cX2_doRow 142 = .ok (.istore 8, 2) := by decide +kernel
theorem dX2_doRow_144 : decode cX2_doRow 144 = .ok (.iconst 0, 1) := by decide +kernel
theorem dX2_doRow_145 : decode cX2_doRow 145 = .ok (.istore 9, 2) := by decide +kernel
theorem dX2_doRow_147 : decode cX2_doRow 147 = .ok (.iload 9, 2) := by decide +kernel
theorem dX2_doRow_149 : decode cX2_doRow 149 = .ok (.bipush 6, 2) := by decide +kernel
theorem dX2_doRow_151 : decode cX2_doRow 151 = .ok (.if_icmp .gt 36, 3) := by decide +kernel
theorem dX2_doRow_154 : decode cX2_doRow 154 = .ok (.iload 8, 2) := by decide +kernel
theorem dX2_doRow_156 : decode cX2_doRow 156 = .ok (.aload_n 0, 1) := by decide +kernel
theorem dX2_doRow_157 : decode cX2_doRow 157 = .ok (.getfield 39, 3) := by decide +kernel
theorem dX2_doRow_160 : decode cX2_doRow 160 = .ok (.if_icmp .eq 27, 3) := by decide +kernel
theorem dX2_doRow_163 : decode cX2_doRow 163 = .ok (.aload_n 0, 1) := by decide +kernel
theorem dX2_doRow_164 : decode cX2_doRow 164 = .ok (.getfield 39, 3) := by decide +kernel
theorem dX2_doRow_167 : decode cX2_doRow 167 = .ok (.istore 8, 2) := by decide +kernel
theorem dX2_doRow_169 : decode cX2_doRow 169 = .ok (.aload_n 0, 1) := by decide +kernel
theorem dX2_doRow_170 : decode cX2_doRow 170 = .ok (.aload_n 1, 1) := by decide +kernel
theorem dX2_doRow_171 : decode cX2_doRow 171 = .ok (.iload 7, 2) := by decide +kernel
theorem dX2_doRow_173 : decode cX2_doRow 173 = .ok (.iload_n 3, 1) := by decide +kernel
theorem dX2_doRow_174 : decode cX2_doRow 174 = .ok (.iconst 1, 1) := by decide +kernel
theorem dX2_doRow_175 : decode cX2_doRow 175 = .ok (.iadd, 1) := by decide +kernel
theorem dX2_doRow_176 : decode cX2_doRow 176 = .ok (.invokestatic 42, 3) := by decide +kernel
theorem dX2_doRow_179 : decode cX2_doRow 179 = .ok (.istore 4, 2) := by decide +kernel
theorem dX2_doRow_181 : decode cX2_doRow 181 = .ok (.iinc 9 1, 3) := by decide +kernel
theorem dX2_doRow_184 : decode cX2_doRow 184 = .ok (.goto (-37), 3) := by decide +kernel
theorem dX2_doRow_187 : decode cX2_doRow 187 = .ok (.iinc 4 1, 3) := by decide +kernel
theorem dX2_doRow_190 : decode cX2_doRow 190 = .ok (.iinc 5 1, 3) := by decide +kernel
theorem dX2_doRow_193 : decode cX2_doRow 193 = .ok (.goto (-176), 3) := by decide +kernel
theorem dX2_doRow_196 : decode cX2_doRow 196 = .ok (.iload 4, 2) := by decide +kernel
theorem dX2_doRow_198 : decode cX2_doRow 198 = .ok (.ireturn, 1) := by decide +kernel
theorem dX9_winnersByHand_0 : decode cX9_winnersByHand 0 = .ok (.aload_n 0, 1) := by decide +kernel
theorem dX9_winnersByHand_1 : decode cX9_winnersByHand 1 = .ok (.iload_n 1, 1) := by decide +kernel
theorem dX9_winnersByHand_2 : decode cX9_winnersByHand 2 = .ok (.invokevirtual 176, 3) := by decide +kernel
theorem dX9_winnersByHand_5 : decode cX9_winnersByHand 5 = .ok (.aload_n 0, 1) := by decide +kernel
theorem dX9_winnersByHand_6 : decode cX9_winnersByHand 6 = .ok (.getfield 47, 3) := by decide +kernel
theorem dX9_winnersByHand_9 : decode cX9_winnersByHand 9 = .ok (.iload_n 1, 1) := by decide +kernel
theorem dX9_winnersByHand_10 : decode cX9_winnersByHand 10 = .ok (.invokevirtual 186, 3) := by decide +kernel
theorem dX9_winnersByHand_13 : decode cX9_winnersByHand 13 = .ok (.aload_n 0, 1) := by decide +kernel
theorem dX9_winnersByHand_14 : decode cX9_winnersByHand 14 = .ok (.getfield 63, 3) := by decide +kernel
theorem dX9_winnersByHand_17 : decode cX9_winnersByHand 17 = .ok (.aload_n 0, 1) := by decide +kernel
theorem dX9_winnersByHand_18 : decode cX9_winnersByHand 18 = .ok (.getfield 31, 3) := by decide +kernel
theorem dX9_winnersByHand_21 : decode cX9_winnersByHand 21 = .ok (.iload_n 1, 1) := by decide +kernel
theorem dX9_winnersByHand_22 : decode cX9_winnersByHand 22 = .ok (.aaload, 1) := by decide +kernel
theorem dX9_winnersByHand_23 : decode cX9_winnersByHand 23 = .ok (.getfield 209, 3) := by decide +kernel
theorem dX9_winnersByHand_26 : decode cX9_winnersByHand 26 = .ok (.aload_n 0, 1) := by decide +kernel
theorem dX9_winnersByHand_27 : decode cX9_winnersByHand 27 = .ok (.getfield 31, 3) := by decide +kernel
theorem dX9_winnersByHand_30 : decode cX9_winnersByHand 30 = .ok (.iload_n 1, 1) := by decide +kernel
theorem dX9_winnersByHand_31 : decode cX9_winnersByHand 31 = .ok (.aaload, 1) := by decide +kernel
theorem dX9_winnersByHand_32 : decode cX9_winnersByHand 32 = .ok (.getfield 262, 3) := by decide +kernel
theorem dX9_winnersByHand_35 : decode cX9_winnersByHand 35 = .ok (.invokevirtual 265, 3) := by decide +kernel
theorem dX9_winnersByHand_38 : decode cX9_winnersByHand 38 = .ok (.aload_n 0, 1) := by decide +kernel
theorem dX9_winnersByHand_39 : decode cX9_winnersByHand 39 = .ok (.getfield 63, 3) := by decide +kernel
theorem dX9_winnersByHand_42 : decode cX9_winnersByHand 42 = .ok (.aload_n 0, 1) := by decide +kernel
theorem dX9_winnersByHand_43 : decode cX9_winnersByHand 43 = .ok (.getfield 25, 3) := by decide +kernel
theorem dX9_winnersByHand_46 : decode cX9_winnersByHand 46 = .ok (.aload_n 0, 1) := by decide +kernel
theorem dX9_winnersByHand_47 : decode cX9_winnersByHand 47 = .ok (.getfield 31, 3) := by decide +kernel
theorem dX9_winnersByHand_50 : decode cX9_winnersByHand 50 = .ok (.iload_n 1, 1) := by decide +kernel
theorem dX9_winnersByHand_51 : decode cX9_winnersByHand 51 = .ok (.aaload, 1) := by decide +kernel
theorem dX9_winnersByHand_52 : decode cX9_winnersByHand 52 = .ok (.getfield 268, 3) := by decide +kernel
theorem dX9_winnersByHand_55 : decode cX9_winnersByHand 55 = .ok (.aaload, 1) := by decide +kernel
theorem dX9_winnersByHand_56 : decode cX9_winnersByHand 56 = .ok (.iconst 0, 1) := by decide +kernel
theorem dX9_winnersByHand_57 : decode cX9_winnersByHand 57 = .ok (.iconst 0, 1) := by decide +kernel
theorem dX9_winnersByHand_58 : decode cX9_winnersByHand 58 = .ok (.invokestatic 271, 3) := by decide +kernel
theorem dX9_winnersByHand_61 : decode cX9_winnersByHand 61 = .ok (.pop, 1) := by decide +kernel
theorem dX9_winnersByHand_62 : decode cX9_winnersByHand 62 = .ok (.aload_n 0, 1) := by decide +kernel
theorem dX9_winnersByHand_63 : decode cX9_winnersByHand 63 = .ok (.getfield 63, 3) := by decide +kernel
theorem dX9_winnersByHand_66 : decode cX9_winnersByHand 66 = .ok (.getfield 275, 3) := by decide +kernel
theorem dX9_winnersByHand_69 : decode cX9_winnersByHand 69 = .ok (.ireturn, 1) := by decide +kernel
theorem dX9_tallies_0 : decode cX9_tallies 0 = .ok (.aload_n 0, 1) := by decide +kernel
theorem dX9_tallies_1 : decode cX9_tallies 1 = .ok (.iload_n 1, 1) := by decide +kernel
theorem dX9_tallies_2 : decode cX9_tallies 2 = .ok (.invokevirtual 176, 3) := by decide +kernel
theorem dX9_tallies_5 : decode cX9_tallies 5 = .ok (.aload_n 0, 1) := by decide +kernel
theorem dX9_tallies_6 : decode cX9_tallies 6 = .ok (.iload_n 1, 1) := by decide +kernel
theorem dX9_tallies_7 : decode cX9_tallies 7 = .ok (.invokevirtual 153, 3) := by decide +kernel
theorem dX9_tallies_10 : decode cX9_tallies 10 = .ok (.getfield 276, 3) := by decide +kernel
theorem dX9_tallies_13 : decode cX9_tallies 13 = .ok (.ireturn, 1) := by decide +kernel
theorem dX3_stoodIn_0 : decode cX3_stoodIn 0 = .ok (.iload_n 1, 1) := by decide +kernel
theorem dX3_stoodIn_1 : decode cX3_stoodIn 1 = .ok (.iconst 0, 1) := by decide +kernel
theorem dX3_stoodIn_2 : decode cX3_stoodIn 2 = .ok (.aload_n 0, 1) := by decide +kernel
theorem dX3_stoodIn_3 : decode cX3_stoodIn 3 = .ok (.getfield 55, 3) := by decide +kernel
theorem dX3_stoodIn_6 : decode cX3_stoodIn 6 = .ok (.iconst 1, 1) := by decide +kernel
theorem dX3_stoodIn_7 : decode cX3_stoodIn 7 = .ok (.isub, 1) := by decide +kernel
theorem dX3_stoodIn_8 : decode cX3_stoodIn 8 = .ok (.invokestatic 51, 3) := by decide +kernel
theorem dX3_stoodIn_11 : decode cX3_stoodIn 11 = .ok (.ifCond .eq 20, 3) := by decide +kernel
theorem dX3_stoodIn_14 : decode cX3_stoodIn 14 = .ok (.aload_n 0, 1) := by decide +kernel
theorem dX3_stoodIn_15 : decode cX3_stoodIn 15 = .ok (.getfield 15, 3) := by decide +kernel
theorem dX3_stoodIn_18 : decode cX3_stoodIn 18 = .ok (.iload_n 1, 1) := by decide +kernel
theorem dX3_stoodIn_19 : decode cX3_stoodIn 19 = .ok (.iaload, 1) := by decide +kernel
theorem dX3_stoodIn_20 : decode cX3_stoodIn 20 = .ok (.iload_n 2, 1) := by decide +kernel
theorem dX3_stoodIn_21 : decode cX3_stoodIn 21 = .ok (.invokestatic 86, 3) := by decide +kernel
theorem dX3_stoodIn_24 : decode cX3_stoodIn 24 = .ok (.ifCond .eq 7, 3) := by decide +kernel
theorem dX3_stoodIn_27 : decode cX3_stoodIn 27 = .ok (.iconst 1, 1) := by decide +kernel
theorem dX3_stoodIn_28 : decode cX3_stoodIn 28 = .ok (.goto 4, 3) := by decide +kernel
theorem dX3_stoodIn_31 : decode cX3_stoodIn 31 = .ok (.iconst 0, 1) := by decide +kernel
theorem dX3_stoodIn_32 : decode cX3_stoodIn 32 = .ok (.ireturn, 1) := by decide +kernel
theorem dX9_votes_0 : decode cX9_votes 0 = .ok (.aload_n 0, 1) := by decide +kernel
theorem dX9_votes_1 : decode cX9_votes 1 = .ok (.iload_n 1, 1) := by decide +kernel
theorem dX9_votes_2 : decode cX9_votes 2 = .ok (.invokevirtual 176, 3) := by decide +kernel
theorem dX9_votes_5 : decode cX9_votes 5 = .ok (.iload_n 3, 1) := by decide +kernel
theorem dX9_votes_6 : decode cX9_votes 6 = .ok (.iconst 0, 1) := by decide +kernel
theorem dX9_votes_7 : decode cX9_votes 7 = .ok (.aload_n 0, 1) := by decide +kernel
theorem dX9_votes_8 : decode cX9_votes 8 = .ok (.getfield 31, 3) := by decide +kernel
theorem dX9_votes_11 : decode cX9_votes 11 = .ok (.iload_n 1, 1) := by decide +kernel
theorem dX9_votes_12 : decode cX9_votes 12 = .ok (.aaload, 1) := by decide +kernel
theorem dX9_votes_13 : decode cX9_votes 13 = .ok (.getfield 209, 3) := by decide +kernel
theorem dX9_votes_16 : decode cX9_votes 16 = .ok (.iconst 1, 1) := by decide +kernel
theorem dX9_votes_17 : decode cX9_votes 17 = .ok (.isub, 1) := by decide +kernel
theorem dX9_votes_18 : decode cX9_votes 18 = .ok (.invokestatic 69, 3) := by decide +kernel
theorem dX9_votes_21 : decode cX9_votes 21 = .ok (.ifCond .eq 21, 3) := by decide +kernel
theorem dX9_votes_24 : decode cX9_votes 24 = .ok (.iload_n 2, 1) := by decide +kernel
theorem dX9_votes_25 : decode cX9_votes 25 = .ok (.iconst 0, 1) := by decide +kernel
theorem dX9_votes_26 : decode cX9_votes 26 = .ok (.aload_n 0, 1) := by decide +kernel
theorem dX9_votes_27 : decode cX9_votes 27 = .ok (.iload_n 1, 1) := by decide +kernel
theorem dX9_votes_28 : decode cX9_votes 28 = .ok (.invokevirtual 153, 3) := by decide +kernel
theorem dX9_votes_31 : decode cX9_votes 31 = .ok (.getfield 276, 3) := by decide +kernel
theorem dX9_votes_34 : decode cX9_votes 34 = .ok (.iconst 1, 1) := by decide +kernel
theorem dX9_votes_35 : decode cX9_votes 35 = .ok (.isub, 1) := by decide +kernel
theorem dX9_votes_36 : decode cX9_votes 36 = .ok (.invokestatic 69, 3) := by decide +kernel
theorem dX9_votes_39 : decode cX9_votes 39 = .ok (.ifCond .ne 14, 3) := by decide +kernel
theorem dX9_votes_42 : decode cX9_votes 42 = .ok (.new 73, 3) := by decide +kernel
theorem dX9_votes_45 : decode cX9_votes 45 = .ok (.dup, 1) := by decide +kernel
theorem dX9_votes_46 : decode cX9_votes 46 = .ok (.ldc_w 279, 3) := by decide +kernel
theorem dX9_votes_49 : decode cX9_votes 49 = .ok (.invokespecial 77, 3) := by decide +kernel
theorem dX9_votes_52 : decode cX9_votes 52 = .ok (.athrow, 1) := by decide +kernel
theorem dX9_votes_53 : decode cX9_votes 53 = .ok (.aload_n 0, 1) := by decide +kernel
theorem dX9_votes_54 : decode cX9_votes 54 = .ok (.getfield 56, 3) := by decide +kernel
theorem dX9_votes_57 : decode cX9_votes 57 = .ok (.iload_n 2, 1) := by decide +kernel
theorem dX9_votes_58 : decode cX9_votes 58 = .ok (.iload_n 3, 1) := by decide +kernel
theorem dX9_votes_59 : decode cX9_votes 59 = .ok (.invokevirtual 281, 3) := by decide +kernel
theorem dX9_votes_62 : decode cX9_votes 62 = .ok (.ifCond .eq 15, 3) := by decide +kernel
theorem dX9_votes_65 : decode cX9_votes 65 = .ok (.aload_n 0, 1) := by decide +kernel
theorem dX9_votes_66 : decode cX9_votes 66 = .ok (.getfield 56, 3) := by decide +kernel
theorem dX9_votes_69 : decode cX9_votes 69 = .ok (.iload_n 2, 1) := by decide +kernel
theorem dX9_votes_70 : decode cX9_votes 70 = .ok (.iload_n 3, 1) := by decide +kernel
theorem dX9_votes_71 : decode cX9_votes 71 = .ok (.invokevirtual 285, 3) := by decide +kernel
theorem dX9_votes_74 : decode cX9_votes 74 = .ok (.goto 4, 3) := by decide +kernel
theorem dX9_votes_77 : decode cX9_votes 77 = .ok (.iconst (-1), 1) := by decide +kernel
theorem dX9_votes_78 : decode cX9_votes 78 = .ok (.ireturn, 1) := by decide +kernel
theorem dX9_ties_0 : decode cX9_ties 0 = .ok (.aload_n 0, 1) := by decide +kernel
theorem dX9_ties_1 : decode cX9_ties 1 = .ok (.iload_n 1, 1) := by decide +kernel
theorem dX9_ties_2 : decode cX9_ties 2 = .ok (.invokevirtual 176, 3) := by decide +kernel
theorem dX9_ties_5 : decode cX9_ties 5 = .ok (.aload_n 0, 1) := by decide +kernel
theorem dX9_ties_6 : decode cX9_ties 6 = .ok (.iload_n 1, 1) := by decide +kernel
theorem dX9_ties_7 : decode cX9_ties 7 = .ok (.invokevirtual 153, 3) := by decide +kernel
theorem dX9_ties_10 : decode cX9_ties 10 = .ok (.getfield 288, 3) := by decide +kernel
theorem dX9_ties_13 : decode cX9_ties 13 = .ok (.ireturn, 1) := by decide +kernel
theorem dX9_tied_0 : decode cX9_tied 0 = .ok (.aload_n 0, 1) := by decide +kernel
theorem dX9_tied_1 : decode cX9_tied 1 = .ok (.iload_n 1, 1) := by decide +kernel
theorem dX9_tied_2 : decode cX9_tied 2 = .ok (.invokevirtual 176, 3) := by decide +kernel
theorem dX9_tied_5 : decode cX9_tied 5 = .ok (.iload_n 2, 1) := by decide +kernel
theorem dX9_tied_6 : decode cX9_tied 6 = .ok (.iconst 0, 1) := by decide +kernel
theorem dX9_tied_7 : decode cX9_tied 7 = .ok (.aload_n 0, 1) := by decide +kernel
theorem dX9_tied_8 : decode cX9_tied 8 = .ok (.iload_n 1, 1) := by decide +kernel
theorem dX9_tied_9 : decode cX9_tied 9 = .ok (.invokevirtual 153, 3) := by decide +kernel
theorem dX9_tied_12 : decode cX9_tied 12 = .ok (.getfield 288, 3) := by decide +kernel
theorem dX9_tied_15 : decode cX9_tied 15 = .ok (.iconst 1, 1) := by decide +kernel
theorem dX9_tied_16 : decode cX9_tied 16 = .ok (.isub, 1) := by decide +kernel
theorem dX9_tied_17 : decode cX9_tied 17 = .ok (.invokestatic 69, 3) := by decide +kernel
theorem dX9_tied_20 : decode cX9_tied 20 = .ok (.ifCond .ne 14, 3) := by decide +kernel
theorem dX9_tied_23 : decode cX9_tied 23 = .ok (.new 73, 3) := by decide +kernel
theorem dX9_tied_26 : decode cX9_tied 26 = .ok (.dup, 1) := by decide +kernel
theorem dX9_tied_27 : decode cX9_tied 27 = .ok (.ldc_w 291, 3) := by decide +kernel
theorem dX9_tied_30 : decode cX9_tied 30 = .ok (.invokespecial 77, 3) := by decide +kernel
theorem dX9_tied_33 : decode cX9_tied 33 = .ok (.athrow, 1) := by decide +kernel
theorem dX9_tied_34 : decode cX9_tied 34 = .ok (.aload_n 0, 1) := by decide +kernel
theorem dX9_tied_35 : decode cX9_tied 35 = .ok (.getfield 56, 3) := by decide +kernel
theorem dX9_tied_38 : decode cX9_tied 38 = .ok (.getfield 293, 3) := by decide +kernel
theorem dX9_tied_41 : decode cX9_tied 41 = .ok (.iload_n 2, 1) := by decide +kernel
theorem dX9_tied_42 : decode cX9_tied 42 = .ok (.iaload, 1) := by decide +kernel
theorem dX9_tied_43 : decode cX9_tied 43 = .ok (.ireturn, 1) := by decide +kernel
theorem dX9_certify_0 : decode cX9_certify 0 = .ok (.aload_n 0, 1) := by decide +kernel
theorem dX9_certify_1 : decode cX9_certify 1 = .ok (.iload_n 1, 1) := by decide +kernel
theorem dX9_certify_2 : decode cX9_certify 2 = .ok (.invokevirtual 176, 3) := by decide +kernel
theorem dX9_certify_5 : decode cX9_certify 5 = .ok (.aload_n 0, 1) := by decide +kernel
theorem dX9_certify_6 : decode cX9_certify 6 = .ok (.getfield 31, 3) := by decide +kernel
theorem dX9_certify_9 : decode cX9_certify 9 = .ok (.iload_n 1, 1) := by decide +kernel
theorem dX9_certify_10 : decode cX9_certify 10 = .ok (.aaload, 1) := by decide +kernel
theorem dX9_certify_11 : decode cX9_certify 11 = .ok (.getfield 180, 3) := by decide +kernel
theorem dX9_certify_14 : decode cX9_certify 14 = .ok (.ifCond .ne 14, 3) := by decide +kernel
theorem dX9_certify_17 : decode cX9_certify 17 = .ok (.new 89, 3) := by decide +kernel
theorem dX9_certify_20 : decode cX9_certify 20 = .ok (.dup, 1) := by decide +kernel
theorem dX9_certify_21 : decode cX9_certify 21 = .ok (.ldc_w 296, 3) := by decide +kernel
theorem dX9_certify_24 : decode cX9_certify 24 = .ok (.invokespecial 93, 3) := by decide +kernel
theorem dX9_certify_27 : decode cX9_certify 27 = .ok (.athrow, 1) := by decide +kernel
theorem dX9_certify_28 : decode cX9_certify 28 = .ok (.aload_n 0, 1) := by decide +kernel
theorem dX9_certify_29 : decode cX9_certify 29 = .ok (.getfield 31, 3) := by decide +kernel
theorem dX9_certify_32 : decode cX9_certify 32 = .ok (.iload_n 1, 1) := by decide +kernel
theorem dX9_certify_33 : decode cX9_certify 33 = .ok (.aaload, 1) := by decide +kernel
theorem dX9_certify_34 : decode cX9_certify 34 = .ok (.aload_n 0, 1) := by decide +kernel
theorem dX9_certify_35 : decode cX9_certify 35 = .ok (.iload_n 1, 1) := by decide +kernel
theorem dX9_certify_36 : decode cX9_certify 36 = .ok (.invokevirtual 153, 3) := by decide +kernel
theorem dX9_certify_39 : decode cX9_certify 39 = .ok (.getfield 157, 3) := by decide +kernel
theorem dX9_certify_42 : decode cX9_certify 42 = .ok (.putfield 298, 3) := by decide +kernel
theorem dX9_certify_45 : decode cX9_certify 45 = .ok (.aload_n 0, 1) := by decide +kernel
theorem dX9_certify_46 : decode cX9_certify 46 = .ok (.getfield 31, 3) := by decide +kernel
theorem dX9_certify_49 : decode cX9_certify 49 = .ok (.iload_n 1, 1) := by decide +kernel
theorem dX9_certify_50 : decode cX9_certify 50 = .ok (.aaload, 1) := by decide +kernel
theorem dX9_certify_51 : decode cX9_certify 51 = .ok (.getfield 298, 3) := by decide +kernel
theorem dX9_certify_54 : decode cX9_certify 54 = .ok (.ireturn, 1) := by decide +kernel
theorem dX9_certified_0 : decode cX9_certified 0 = .ok (.aload_n 0, 1) := by decide +kernel
theorem dX9_certified_1 : decode cX9_certified 1 = .ok (.iload_n 1, 1) := by decide +kernel
theorem dX9_certified_2 : decode cX9_certified 2 = .ok (.invokevirtual 176, 3) := by decide +kernel
theorem dX9_certified_5 : decode cX9_certified 5 = .ok (.aload_n 0, 1) := by decide +kernel
theorem dX9_certified_6 : decode cX9_certified 6 = .ok (.getfield 31, 3) := by decide +kernel
theorem dX9_certified_9 : decode cX9_certified 9 = .ok (.iload_n 1, 1) := by decide +kernel
theorem dX9_certified_10 : decode cX9_certified 10 = .ok (.aaload, 1) := by decide +kernel
theorem dX9_certified_11 : decode cX9_certified 11 = .ok (.getfield 298, 3) := by decide +kernel
theorem dX9_certified_14 : decode cX9_certified 14 = .ok (.ireturn, 1) := by decide +kernel
theorem dX9_stale_0 : decode cX9_stale 0 = .ok (.iconst 0, 1) := by decide +kernel
theorem dX9_stale_1 : decode cX9_stale 1 = .ok (.istore_n 1, 1) := by decide +kernel
theorem dX9_stale_2 : decode cX9_stale 2 = .ok (.iconst 0, 1) := by decide +kernel
theorem dX9_stale_3 : decode cX9_stale 3 = .ok (.istore_n 2, 1) := by decide +kernel
theorem dX9_stale_4 : decode cX9_stale 4 = .ok (.iload_n 2, 1) := by decide +kernel
theorem dX9_stale_5 : decode cX9_stale 5 = .ok (.aload_n 0, 1) := by decide +kernel
theorem dX9_stale_6 : decode cX9_stale 6 = .ok (.getfield 150, 3) := by decide +kernel
theorem dX9_stale_9 : decode cX9_stale 9 = .ok (.if_icmp .ge 39, 3) := by decide +kernel
theorem dX9_stale_12 : decode cX9_stale 12 = .ok (.aload_n 0, 1) := by decide +kernel
theorem dX9_stale_13 : decode cX9_stale 13 = .ok (.getfield 31, 3) := by decide +kernel
theorem dX9_stale_16 : decode cX9_stale 16 = .ok (.iload_n 2, 1) := by decide +kernel
theorem dX9_stale_17 : decode cX9_stale 17 = .ok (.aaload, 1) := by decide +kernel
theorem dX9_stale_18 : decode cX9_stale 18 = .ok (.getfield 298, 3) := by decide +kernel
theorem dX9_stale_21 : decode cX9_stale 21 = .ok (.istore_n 3, 1) := by decide +kernel
theorem dX9_stale_22 : decode cX9_stale 22 = .ok (.iload_n 3, 1) := by decide +kernel
theorem dX9_stale_23 : decode cX9_stale 23 = .ok (.iconst (-1), 1) := by decide +kernel
theorem dX9_stale_24 : decode cX9_stale 24 = .ok (.if_icmp .eq 18, 3) := by decide +kernel
theorem dX9_stale_27 : decode cX9_stale 27 = .ok (.iload_n 3, 1) := by decide +kernel
theorem dX9_stale_28 : decode cX9_stale 28 = .ok (.aload_n 0, 1) := by decide +kernel
theorem dX9_stale_29 : decode cX9_stale 29 = .ok (.iload_n 2, 1) := by decide +kernel
theorem dX9_stale_30 : decode cX9_stale 30 = .ok (.invokevirtual 153, 3) := by decide +kernel
theorem dX9_stale_33 : decode cX9_stale 33 = .ok (.getfield 157, 3) := by decide +kernel
theorem dX9_stale_36 : decode cX9_stale 36 = .ok (.if_icmp .eq 6, 3) := by decide +kernel
theorem dX9_stale_39 : decode cX9_stale 39 = .ok (.iinc 1 1, 3) := by decide +kernel
theorem dX9_stale_42 : decode cX9_stale 42 = .ok (.iinc 2 1, 3) := by decide +kernel
theorem dX9_stale_45 : decode cX9_stale 45 = .ok (.goto (-41), 3) := by decide +kernel
theorem dX9_stale_48 : decode cX9_stale 48 = .ok (.iload_n 1, 1) := by decide +kernel
theorem dX9_stale_49 : decode cX9_stale 49 = .ok (.ireturn, 1) := by decide +kernel
