/-! the law's helpers: instructions and links -/
theorem dL_enter_0 : decode cL_enter 0 = .ok (.aload 5, 2) := by decide +kernel
theorem dL_enter_2 : decode cL_enter 2 = .ok (.iconst 0, 1) := by decide +kernel
theorem dL_enter_3 : decode cL_enter 3 = .ok (.aload_n 0, 1) := by decide +kernel
theorem dL_enter_4 : decode cL_enter 4 = .ok (.iload_n 1, 1) := by decide +kernel
theorem dL_enter_5 : decode cL_enter 5 = .ok (.iload_n 2, 1) := by decide +kernel
theorem dL_enter_6 : decode cL_enter 6 = .ok (.iload_n 3, 1) := by decide +kernel
theorem dL_enter_7 : decode cL_enter 7 = .ok (.iload 4, 2) := by decide +kernel
theorem dL_enter_9 : decode cL_enter 9 = .ok (.invokevirtual 7, 3) := by decide +kernel
theorem dL_enter_12 : decode cL_enter 12 = .ok (.i2l, 1) := by decide +kernel
theorem dL_enter_13 : decode cL_enter 13 = .ok (.lastore, 1) := by decide +kernel
theorem dL_enter_14 : decode cL_enter 14 = .ok (.goto 15, 3) := by decide +kernel
theorem dL_enter_17 : decode cL_enter 17 = .ok (.astore 6, 2) := by decide +kernel
theorem dL_enter_19 : decode cL_enter 19 = .ok (.iconst 1, 1) := by decide +kernel
theorem dL_enter_20 : decode cL_enter 20 = .ok (.ireturn, 1) := by decide +kernel
theorem dL_enter_21 : decode cL_enter 21 = .ok (.astore 6, 2) := by decide +kernel
theorem dL_enter_23 : decode cL_enter 23 = .ok (.iconst 2, 1) := by decide +kernel
theorem dL_enter_24 : decode cL_enter 24 = .ok (.ireturn, 1) := by decide +kernel
theorem dL_enter_25 : decode cL_enter 25 = .ok (.astore 6, 2) := by decide +kernel
theorem dL_enter_27 : decode cL_enter 27 = .ok (.iconst 3, 1) := by decide +kernel
theorem dL_enter_28 : decode cL_enter 28 = .ok (.ireturn, 1) := by decide +kernel
theorem dL_enter_29 : decode cL_enter 29 = .ok (.iconst 0, 1) := by decide +kernel
theorem dL_enter_30 : decode cL_enter 30 = .ok (.ireturn, 1) := by decide +kernel
theorem dL_strike_0 : decode cL_strike 0 = .ok (.aload_n 2, 1) := by decide +kernel
theorem dL_strike_1 : decode cL_strike 1 = .ok (.iconst 0, 1) := by decide +kernel
theorem dL_strike_2 : decode cL_strike 2 = .ok (.aload_n 0, 1) := by decide +kernel
theorem dL_strike_3 : decode cL_strike 3 = .ok (.iload_n 1, 1) := by decide +kernel
theorem dL_strike_4 : decode cL_strike 4 = .ok (.invokevirtual 19, 3) := by decide +kernel
theorem dL_strike_7 : decode cL_strike 7 = .ok (.i2l, 1) := by decide +kernel
theorem dL_strike_8 : decode cL_strike 8 = .ok (.lastore, 1) := by decide +kernel
theorem dL_strike_9 : decode cL_strike 9 = .ok (.goto 9, 3) := by decide +kernel
theorem dL_strike_12 : decode cL_strike 12 = .ok (.astore_n 3, 1) := by decide +kernel
theorem dL_strike_13 : decode cL_strike 13 = .ok (.iconst 1, 1) := by decide +kernel
theorem dL_strike_14 : decode cL_strike 14 = .ok (.ireturn, 1) := by decide +kernel
theorem dL_strike_15 : decode cL_strike 15 = .ok (.astore_n 3, 1) := by decide +kernel
theorem dL_strike_16 : decode cL_strike 16 = .ok (.iconst 2, 1) := by decide +kernel
theorem dL_strike_17 : decode cL_strike 17 = .ok (.ireturn, 1) := by decide +kernel
theorem dL_strike_18 : decode cL_strike 18 = .ok (.iconst 0, 1) := by decide +kernel
theorem dL_strike_19 : decode cL_strike 19 = .ok (.ireturn, 1) := by decide +kernel
theorem dL_isAllowed_0 : decode cL_isAllowed 0 = .ok (.aload 4, 2) := by decide +kernel
theorem dL_isAllowed_2 : decode cL_isAllowed 2 = .ok (.iconst 0, 1) := by decide +kernel
theorem dL_isAllowed_3 : decode cL_isAllowed 3 = .ok (.aload_n 0, 1) := by decide +kernel
theorem dL_isAllowed_4 : decode cL_isAllowed 4 = .ok (.iload_n 1, 1) := by decide +kernel
theorem dL_isAllowed_5 : decode cL_isAllowed 5 = .ok (.iload_n 2, 1) := by decide +kernel
theorem dL_isAllowed_6 : decode cL_isAllowed 6 = .ok (.iload_n 3, 1) := by decide +kernel
theorem dL_isAllowed_7 : decode cL_isAllowed 7 = .ok (.invokevirtual 23, 3) := by decide +kernel
theorem dL_isAllowed_10 : decode cL_isAllowed 10 = .ok (.ifCond .eq 7, 3) := by decide +kernel
theorem dL_isAllowed_13 : decode cL_isAllowed 13 = .ok (.lconst 1, 1) := by decide +kernel
theorem dL_isAllowed_14 : decode cL_isAllowed 14 = .ok (.goto 4, 3) := by decide +kernel
theorem dL_isAllowed_17 : decode cL_isAllowed 17 = .ok (.lconst 0, 1) := by decide +kernel
theorem dL_isAllowed_18 : decode cL_isAllowed 18 = .ok (.lastore, 1) := by decide +kernel
theorem dL_isAllowed_19 : decode cL_isAllowed 19 = .ok (.goto 11, 3) := by decide +kernel
theorem dL_isAllowed_22 : decode cL_isAllowed 22 = .ok (.astore 5, 2) := by decide +kernel
theorem dL_isAllowed_24 : decode cL_isAllowed 24 = .ok (.iconst 1, 1) := by decide +kernel
theorem dL_isAllowed_25 : decode cL_isAllowed 25 = .ok (.ireturn, 1) := by decide +kernel
theorem dL_isAllowed_26 : decode cL_isAllowed 26 = .ok (.astore 5, 2) := by decide +kernel
theorem dL_isAllowed_28 : decode cL_isAllowed 28 = .ok (.iconst 2, 1) := by decide +kernel
theorem dL_isAllowed_29 : decode cL_isAllowed 29 = .ok (.ireturn, 1) := by decide +kernel
theorem dL_isAllowed_30 : decode cL_isAllowed 30 = .ok (.iconst 0, 1) := by decide +kernel
theorem dL_isAllowed_31 : decode cL_isAllowed 31 = .ok (.ireturn, 1) := by decide +kernel
theorem dL_pass_0 : decode cL_pass 0 = .ok (.aload_n 2, 1) := by decide +kernel
theorem dL_pass_1 : decode cL_pass 1 = .ok (.iconst 0, 1) := by decide +kernel
theorem dL_pass_2 : decode cL_pass 2 = .ok (.aload_n 0, 1) := by decide +kernel
theorem dL_pass_3 : decode cL_pass 3 = .ok (.iload_n 1, 1) := by decide +kernel
theorem dL_pass_4 : decode cL_pass 4 = .ok (.invokevirtual 27, 3) := by decide +kernel
theorem dL_pass_7 : decode cL_pass 7 = .ok (.i2l, 1) := by decide +kernel
theorem dL_pass_8 : decode cL_pass 8 = .ok (.lastore, 1) := by decide +kernel
theorem dL_pass_9 : decode cL_pass 9 = .ok (.goto 9, 3) := by decide +kernel
theorem dL_pass_12 : decode cL_pass 12 = .ok (.astore_n 3, 1) := by decide +kernel
theorem dL_pass_13 : decode cL_pass 13 = .ok (.iconst 1, 1) := by decide +kernel
theorem dL_pass_14 : decode cL_pass 14 = .ok (.ireturn, 1) := by decide +kernel
theorem dL_pass_15 : decode cL_pass 15 = .ok (.astore_n 3, 1) := by decide +kernel
theorem dL_pass_16 : decode cL_pass 16 = .ok (.iconst 2, 1) := by decide +kernel
theorem dL_pass_17 : decode cL_pass 17 = .ok (.ireturn, 1) := by decide +kernel
theorem dL_pass_18 : decode cL_pass 18 = .ok (.iconst 0, 1) := by decide +kernel
theorem dL_pass_19 : decode cL_pass 19 = .ok (.ireturn, 1) := by decide +kernel
theorem dL_type_0 : decode cL_type 0 = .ok (.aload_n 2, 1) := by decide +kernel
theorem dL_type_1 : decode cL_type 1 = .ok (.iconst 0, 1) := by decide +kernel
theorem dL_type_2 : decode cL_type 2 = .ok (.aload_n 0, 1) := by decide +kernel
theorem dL_type_3 : decode cL_type 3 = .ok (.iload_n 1, 1) := by decide +kernel
theorem dL_type_4 : decode cL_type 4 = .ok (.invokevirtual 30, 3) := by decide +kernel
theorem dL_type_7 : decode cL_type 7 = .ok (.i2l, 1) := by decide +kernel
theorem dL_type_8 : decode cL_type 8 = .ok (.lastore, 1) := by decide +kernel
theorem dL_type_9 : decode cL_type 9 = .ok (.goto 9, 3) := by decide +kernel
theorem dL_type_12 : decode cL_type 12 = .ok (.astore_n 3, 1) := by decide +kernel
theorem dL_type_13 : decode cL_type 13 = .ok (.iconst 1, 1) := by decide +kernel
theorem dL_type_14 : decode cL_type 14 = .ok (.ireturn, 1) := by decide +kernel
theorem dL_type_15 : decode cL_type 15 = .ok (.astore_n 3, 1) := by decide +kernel
theorem dL_type_16 : decode cL_type 16 = .ok (.iconst 2, 1) := by decide +kernel
theorem dL_type_17 : decode cL_type 17 = .ok (.ireturn, 1) := by decide +kernel
theorem dL_type_18 : decode cL_type 18 = .ok (.iconst 0, 1) := by decide +kernel
theorem dL_type_19 : decode cL_type 19 = .ok (.ireturn, 1) := by decide +kernel
theorem dL_rule_0 : decode cL_rule 0 = .ok (.aload_n 1, 1) := by decide +kernel
theorem dL_rule_1 : decode cL_rule 1 = .ok (.iconst 0, 1) := by decide +kernel
theorem dL_rule_2 : decode cL_rule 2 = .ok (.aload_n 0, 1) := by decide +kernel
theorem dL_rule_3 : decode cL_rule 3 = .ok (.invokevirtual 34, 3) := by decide +kernel
theorem dL_rule_6 : decode cL_rule 6 = .ok (.i2l, 1) := by decide +kernel
theorem dL_rule_7 : decode cL_rule 7 = .ok (.lastore, 1) := by decide +kernel
theorem dL_rule_8 : decode cL_rule 8 = .ok (.goto 9, 3) := by decide +kernel
theorem dL_rule_11 : decode cL_rule 11 = .ok (.astore_n 2, 1) := by decide +kernel
theorem dL_rule_12 : decode cL_rule 12 = .ok (.iconst 1, 1) := by decide +kernel
theorem dL_rule_13 : decode cL_rule 13 = .ok (.ireturn, 1) := by decide +kernel
theorem dL_rule_14 : decode cL_rule 14 = .ok (.astore_n 2, 1) := by decide +kernel
theorem dL_rule_15 : decode cL_rule 15 = .ok (.iconst 2, 1) := by decide +kernel
theorem dL_rule_16 : decode cL_rule 16 = .ok (.ireturn, 1) := by decide +kernel
theorem dL_rule_17 : decode cL_rule 17 = .ok (.iconst 0, 1) := by decide +kernel
theorem dL_rule_18 : decode cL_rule 18 = .ok (.ireturn, 1) := by decide +kernel
theorem dL_mend_0 : decode cL_mend 0 = .ok (.aload_n 2, 1) := by decide +kernel
theorem dL_mend_1 : decode cL_mend 1 = .ok (.iconst 0, 1) := by decide +kernel
theorem dL_mend_2 : decode cL_mend 2 = .ok (.aload_n 0, 1) := by decide +kernel
theorem dL_mend_3 : decode cL_mend 3 = .ok (.iload_n 1, 1) := by decide +kernel
theorem dL_mend_4 : decode cL_mend 4 = .ok (.invokevirtual 38, 3) := by decide +kernel
theorem dL_mend_7 : decode cL_mend 7 = .ok (.i2l, 1) := by decide +kernel
theorem dL_mend_8 : decode cL_mend 8 = .ok (.lastore, 1) := by decide +kernel
theorem dL_mend_9 : decode cL_mend 9 = .ok (.goto 9, 3) := by decide +kernel
theorem dL_mend_12 : decode cL_mend 12 = .ok (.astore_n 3, 1) := by decide +kernel
theorem dL_mend_13 : decode cL_mend 13 = .ok (.iconst 1, 1) := by decide +kernel
theorem dL_mend_14 : decode cL_mend 14 = .ok (.ireturn, 1) := by decide +kernel
theorem dL_mend_15 : decode cL_mend 15 = .ok (.astore_n 3, 1) := by decide +kernel
theorem dL_mend_16 : decode cL_mend 16 = .ok (.iconst 2, 1) := by decide +kernel
theorem dL_mend_17 : decode cL_mend 17 = .ok (.ireturn, 1) := by decide +kernel
theorem dL_mend_18 : decode cL_mend 18 = .ok (.iconst 0, 1) := by decide +kernel
theorem dL_mend_19 : decode cL_mend 19 = .ok (.ireturn, 1) := by decide +kernel
theorem dL_commands_0 : decode cL_commands 0 = .ok (.aload_n 2, 1) := by decide +kernel
theorem dL_commands_1 : decode cL_commands 1 = .ok (.iconst 0, 1) := by decide +kernel
theorem dL_commands_2 : decode cL_commands 2 = .ok (.aload_n 0, 1) := by decide +kernel
theorem dL_commands_3 : decode cL_commands 3 = .ok (.iload_n 1, 1) := by decide +kernel
theorem dL_commands_4 : decode cL_commands 4 = .ok (.invokevirtual 41, 3) := by decide +kernel
theorem dL_commands_7 : decode cL_commands 7 = .ok (.i2l, 1) := by decide +kernel
theorem dL_commands_8 : decode cL_commands 8 = .ok (.lastore, 1) := by decide +kernel
theorem dL_commands_9 : decode cL_commands 9 = .ok (.goto 6, 3) := by decide +kernel
theorem dL_commands_12 : decode cL_commands 12 = .ok (.astore_n 3, 1) := by decide +kernel
theorem dL_commands_13 : decode cL_commands 13 = .ok (.iconst 1, 1) := by decide +kernel
theorem dL_commands_14 : decode cL_commands 14 = .ok (.ireturn, 1) := by decide +kernel
theorem dL_commands_15 : decode cL_commands 15 = .ok (.iconst 0, 1) := by decide +kernel
theorem dL_commands_16 : decode cL_commands 16 = .ok (.ireturn, 1) := by decide +kernel
theorem dL_open_0 : decode cL_open 0 = .ok (.aload 5, 2) := by decide +kernel
theorem dL_open_2 : decode cL_open 2 = .ok (.iconst 0, 1) := by decide +kernel
theorem dL_open_3 : decode cL_open 3 = .ok (.aload_n 0, 1) := by decide +kernel
theorem dL_open_4 : decode cL_open 4 = .ok (.iload_n 1, 1) := by decide +kernel
theorem dL_open_5 : decode cL_open 5 = .ok (.iload_n 2, 1) := by decide +kernel
theorem dL_open_6 : decode cL_open 6 = .ok (.iload_n 3, 1) := by decide +kernel
theorem dL_open_7 : decode cL_open 7 = .ok (.iload 4, 2) := by decide +kernel
theorem dL_open_9 : decode cL_open 9 = .ok (.invokevirtual 44, 3) := by decide +kernel
theorem dL_open_12 : decode cL_open 12 = .ok (.i2l, 1) := by decide +kernel
theorem dL_open_13 : decode cL_open 13 = .ok (.lastore, 1) := by decide +kernel
theorem dL_open_14 : decode cL_open 14 = .ok (.goto 15, 3) := by decide +kernel
theorem dL_open_17 : decode cL_open 17 = .ok (.astore 6, 2) := by decide +kernel
theorem dL_open_19 : decode cL_open 19 = .ok (.iconst 1, 1) := by decide +kernel
theorem dL_open_20 : decode cL_open 20 = .ok (.ireturn, 1) := by decide +kernel
theorem dL_open_21 : decode cL_open 21 = .ok (.astore 6, 2) := by decide +kernel
theorem dL_open_23 : decode cL_open 23 = .ok (.iconst 2, 1) := by decide +kernel
theorem dL_open_24 : decode cL_open 24 = .ok (.ireturn, 1) := by decide +kernel
theorem dL_open_25 : decode cL_open 25 = .ok (.astore 6, 2) := by decide +kernel
theorem dL_open_27 : decode cL_open 27 = .ok (.iconst 3, 1) := by decide +kernel
theorem dL_open_28 : decode cL_open 28 = .ok (.ireturn, 1) := by decide +kernel
theorem dL_open_29 : decode cL_open 29 = .ok (.iconst 0, 1) := by decide +kernel
theorem dL_open_30 : decode cL_open 30 = .ok (.ireturn, 1) := by decide +kernel
theorem dL_close_0 : decode cL_close 0 = .ok (.aload_n 2, 1) := by decide +kernel
theorem dL_close_1 : decode cL_close 1 = .ok (.iconst 0, 1) := by decide +kernel
theorem dL_close_2 : decode cL_close 2 = .ok (.aload_n 0, 1) := by decide +kernel
theorem dL_close_3 : decode cL_close 3 = .ok (.iload_n 1, 1) := by decide +kernel
theorem dL_close_4 : decode cL_close 4 = .ok (.invokevirtual 47, 3) := by decide +kernel
theorem dL_close_7 : decode cL_close 7 = .ok (.i2l, 1) := by decide +kernel
theorem dL_close_8 : decode cL_close 8 = .ok (.lastore, 1) := by decide +kernel
theorem dL_close_9 : decode cL_close 9 = .ok (.goto 9, 3) := by decide +kernel
theorem dL_close_12 : decode cL_close 12 = .ok (.astore_n 3, 1) := by decide +kernel
theorem dL_close_13 : decode cL_close 13 = .ok (.iconst 1, 1) := by decide +kernel
theorem dL_close_14 : decode cL_close 14 = .ok (.ireturn, 1) := by decide +kernel
theorem dL_close_15 : decode cL_close 15 = .ok (.astore_n 3, 1) := by decide +kernel
theorem dL_close_16 : decode cL_close 16 = .ok (.iconst 2, 1) := by decide +kernel
theorem dL_close_17 : decode cL_close 17 = .ok (.ireturn, 1) := by decide +kernel
theorem dL_close_18 : decode cL_close 18 = .ok (.iconst 0, 1) := by decide +kernel
theorem dL_close_19 : decode cL_close 19 = .ok (.ireturn, 1) := by decide +kernel
theorem dL_mark_0 : decode cL_mark 0 = .ok (.aload_n 2, 1) := by decide +kernel
theorem dL_mark_1 : decode cL_mark 1 = .ok (.iconst 0, 1) := by decide +kernel
theorem dL_mark_2 : decode cL_mark 2 = .ok (.aload_n 0, 1) := by decide +kernel
theorem dL_mark_3 : decode cL_mark 3 = .ok (.iload_n 1, 1) := by decide +kernel
theorem dL_mark_4 : decode cL_mark 4 = .ok (.invokevirtual 50, 3) := by decide +kernel
theorem dL_mark_7 : decode cL_mark 7 = .ok (.i2l, 1) := by decide +kernel
theorem dL_mark_8 : decode cL_mark 8 = .ok (.lastore, 1) := by decide +kernel
theorem dL_mark_9 : decode cL_mark 9 = .ok (.goto 9, 3) := by decide +kernel
theorem dL_mark_12 : decode cL_mark 12 = .ok (.astore_n 3, 1) := by decide +kernel
theorem dL_mark_13 : decode cL_mark 13 = .ok (.iconst 1, 1) := by decide +kernel
theorem dL_mark_14 : decode cL_mark 14 = .ok (.ireturn, 1) := by decide +kernel
theorem dL_mark_15 : decode cL_mark 15 = .ok (.astore_n 3, 1) := by decide +kernel
theorem dL_mark_16 : decode cL_mark 16 = .ok (.iconst 2, 1) := by decide +kernel
theorem dL_mark_17 : decode cL_mark 17 = .ok (.ireturn, 1) := by decide +kernel
theorem dL_mark_18 : decode cL_mark 18 = .ok (.iconst 0, 1) := by decide +kernel
theorem dL_mark_19 : decode cL_mark 19 = .ok (.ireturn, 1) := by decide +kernel
theorem dL_cast_0 : decode cL_cast 0 = .ok (.aload_n 3, 1) := by decide +kernel
theorem dL_cast_1 : decode cL_cast 1 = .ok (.iconst 0, 1) := by decide +kernel
theorem dL_cast_2 : decode cL_cast 2 = .ok (.aload_n 0, 1) := by decide +kernel
theorem dL_cast_3 : decode cL_cast 3 = .ok (.iload_n 1, 1) := by decide +kernel
theorem dL_cast_4 : decode cL_cast 4 = .ok (.iload_n 2, 1) := by decide +kernel
theorem dL_cast_5 : decode cL_cast 5 = .ok (.invokevirtual 53, 3) := by decide +kernel
theorem dL_cast_8 : decode cL_cast 8 = .ok (.i2l, 1) := by decide +kernel
theorem dL_cast_9 : decode cL_cast 9 = .ok (.lastore, 1) := by decide +kernel
theorem dL_cast_10 : decode cL_cast 10 = .ok (.goto 11, 3) := by decide +kernel
theorem dL_cast_13 : decode cL_cast 13 = .ok (.astore 4, 2) := by decide +kernel
theorem dL_cast_15 : decode cL_cast 15 = .ok (.iconst 1, 1) := by decide +kernel
theorem dL_cast_16 : decode cL_cast 16 = .ok (.ireturn, 1) := by decide +kernel
theorem dL_cast_17 : decode cL_cast 17 = .ok (.astore 4, 2) := by decide +kernel
theorem dL_cast_19 : decode cL_cast 19 = .ok (.iconst 2, 1) := by decide +kernel
theorem dL_cast_20 : decode cL_cast 20 = .ok (.ireturn, 1) := by decide +kernel
theorem dL_cast_21 : decode cL_cast 21 = .ok (.iconst 0, 1) := by decide +kernel
theorem dL_cast_22 : decode cL_cast 22 = .ok (.ireturn, 1) := by decide +kernel
theorem dL_why_0 : decode cL_why 0 = .ok (.aload_n 2, 1) := by decide +kernel
theorem dL_why_1 : decode cL_why 1 = .ok (.iconst 0, 1) := by decide +kernel
theorem dL_why_2 : decode cL_why 2 = .ok (.aload_n 0, 1) := by decide +kernel
theorem dL_why_3 : decode cL_why 3 = .ok (.iload_n 1, 1) := by decide +kernel
theorem dL_why_4 : decode cL_why 4 = .ok (.invokevirtual 57, 3) := by decide +kernel
theorem dL_why_7 : decode cL_why 7 = .ok (.i2l, 1) := by decide +kernel
theorem dL_why_8 : decode cL_why 8 = .ok (.lastore, 1) := by decide +kernel
theorem dL_why_9 : decode cL_why 9 = .ok (.goto 6, 3) := by decide +kernel
theorem dL_why_12 : decode cL_why 12 = .ok (.astore_n 3, 1) := by decide +kernel
theorem dL_why_13 : decode cL_why 13 = .ok (.iconst 1, 1) := by decide +kernel
theorem dL_why_14 : decode cL_why 14 = .ok (.ireturn, 1) := by decide +kernel
theorem dL_why_15 : decode cL_why 15 = .ok (.iconst 0, 1) := by decide +kernel
theorem dL_why_16 : decode cL_why 16 = .ok (.ireturn, 1) := by decide +kernel
theorem dL_read_0 : decode cL_read 0 = .ok (.aload_n 3, 1) := by decide +kernel
theorem dL_read_1 : decode cL_read 1 = .ok (.iconst 0, 1) := by decide +kernel
theorem dL_read_2 : decode cL_read 2 = .ok (.aload_n 0, 1) := by decide +kernel
theorem dL_read_3 : decode cL_read 3 = .ok (.iload_n 1, 1) := by decide +kernel
theorem dL_read_4 : decode cL_read 4 = .ok (.iload_n 2, 1) := by decide +kernel
theorem dL_read_5 : decode cL_read 5 = .ok (.invokevirtual 60, 3) := by decide +kernel
theorem dL_read_8 : decode cL_read 8 = .ok (.i2l, 1) := by decide +kernel
theorem dL_read_9 : decode cL_read 9 = .ok (.lastore, 1) := by decide +kernel
theorem dL_read_10 : decode cL_read 10 = .ok (.goto 7, 3) := by decide +kernel
theorem dL_read_13 : decode cL_read 13 = .ok (.astore 4, 2) := by decide +kernel
theorem dL_read_15 : decode cL_read 15 = .ok (.iconst 1, 1) := by decide +kernel
theorem dL_read_16 : decode cL_read 16 = .ok (.ireturn, 1) := by decide +kernel
theorem dL_read_17 : decode cL_read 17 = .ok (.iconst 0, 1) := by decide +kernel
theorem dL_read_18 : decode cL_read 18 = .ok (.ireturn, 1) := by decide +kernel
theorem dL_misread_0 : decode cL_misread 0 = .ok (.aload_n 0, 1) := by decide +kernel
theorem dL_misread_1 : decode cL_misread 1 = .ok (.iload_n 1, 1) := by decide +kernel
theorem dL_misread_2 : decode cL_misread 2 = .ok (.invokevirtual 63, 3) := by decide +kernel
theorem dL_misread_5 : decode cL_misread 5 = .ok (.goto 9, 3) := by decide +kernel
theorem dL_misread_8 : decode cL_misread 8 = .ok (.astore_n 2, 1) := by decide +kernel
theorem dL_misread_9 : decode cL_misread 9 = .ok (.iconst 1, 1) := by decide +kernel
theorem dL_misread_10 : decode cL_misread 10 = .ok (.ireturn, 1) := by decide +kernel
theorem dL_misread_11 : decode cL_misread 11 = .ok (.astore_n 2, 1) := by decide +kernel
theorem dL_misread_12 : decode cL_misread 12 = .ok (.iconst 2, 1) := by decide +kernel
theorem dL_misread_13 : decode cL_misread 13 = .ok (.ireturn, 1) := by decide +kernel
theorem dL_misread_14 : decode cL_misread 14 = .ok (.iconst 0, 1) := by decide +kernel
theorem dL_misread_15 : decode cL_misread 15 = .ok (.ireturn, 1) := by decide +kernel
theorem dL_sample_0 : decode cL_sample 0 = .ok (.aload 4, 2) := by decide +kernel
theorem dL_sample_2 : decode cL_sample 2 = .ok (.iconst 0, 1) := by decide +kernel
theorem dL_sample_3 : decode cL_sample 3 = .ok (.aload_n 0, 1) := by decide +kernel
theorem dL_sample_4 : decode cL_sample 4 = .ok (.iload_n 1, 1) := by decide +kernel
theorem dL_sample_5 : decode cL_sample 5 = .ok (.iload_n 2, 1) := by decide +kernel
theorem dL_sample_6 : decode cL_sample 6 = .ok (.iload_n 3, 1) := by decide +kernel
theorem dL_sample_7 : decode cL_sample 7 = .ok (.invokevirtual 67, 3) := by decide +kernel
theorem dL_sample_10 : decode cL_sample 10 = .ok (.i2l, 1) := by decide +kernel
theorem dL_sample_11 : decode cL_sample 11 = .ok (.lastore, 1) := by decide +kernel
theorem dL_sample_12 : decode cL_sample 12 = .ok (.goto 15, 3) := by decide +kernel
theorem dL_sample_15 : decode cL_sample 15 = .ok (.astore 5, 2) := by decide +kernel
theorem dL_sample_17 : decode cL_sample 17 = .ok (.iconst 1, 1) := by decide +kernel
theorem dL_sample_18 : decode cL_sample 18 = .ok (.ireturn, 1) := by decide +kernel
theorem dL_sample_19 : decode cL_sample 19 = .ok (.astore 5, 2) := by decide +kernel
theorem dL_sample_21 : decode cL_sample 21 = .ok (.iconst 2, 1) := by decide +kernel
theorem dL_sample_22 : decode cL_sample 22 = .ok (.ireturn, 1) := by decide +kernel
theorem dL_sample_23 : decode cL_sample 23 = .ok (.astore 5, 2) := by decide +kernel
theorem dL_sample_25 : decode cL_sample 25 = .ok (.iconst 3, 1) := by decide +kernel
theorem dL_sample_26 : decode cL_sample 26 = .ok (.ireturn, 1) := by decide +kernel
theorem dL_sample_27 : decode cL_sample 27 = .ok (.iconst 0, 1) := by decide +kernel
theorem dL_sample_28 : decode cL_sample 28 = .ok (.ireturn, 1) := by decide +kernel
theorem dL_recount_0 : decode cL_recount 0 = .ok (.aload_n 2, 1) := by decide +kernel
theorem dL_recount_1 : decode cL_recount 1 = .ok (.iconst 0, 1) := by decide +kernel
theorem dL_recount_2 : decode cL_recount 2 = .ok (.aload_n 0, 1) := by decide +kernel
theorem dL_recount_3 : decode cL_recount 3 = .ok (.iload_n 1, 1) := by decide +kernel
theorem dL_recount_4 : decode cL_recount 4 = .ok (.invokevirtual 71, 3) := by decide +kernel
theorem dL_recount_7 : decode cL_recount 7 = .ok (.i2l, 1) := by decide +kernel
theorem dL_recount_8 : decode cL_recount 8 = .ok (.lastore, 1) := by decide +kernel
theorem dL_recount_9 : decode cL_recount 9 = .ok (.goto 6, 3) := by decide +kernel
theorem dL_recount_12 : decode cL_recount 12 = .ok (.astore_n 3, 1) := by decide +kernel
theorem dL_recount_13 : decode cL_recount 13 = .ok (.iconst 1, 1) := by decide +kernel
theorem dL_recount_14 : decode cL_recount 14 = .ok (.ireturn, 1) := by decide +kernel
theorem dL_recount_15 : decode cL_recount 15 = .ok (.iconst 0, 1) := by decide +kernel
theorem dL_recount_16 : decode cL_recount 16 = .ok (.ireturn, 1) := by decide +kernel
theorem dL_doubt_0 : decode cL_doubt 0 = .ok (.aload_n 2, 1) := by decide +kernel
theorem dL_doubt_1 : decode cL_doubt 1 = .ok (.iconst 0, 1) := by decide +kernel
theorem dL_doubt_2 : decode cL_doubt 2 = .ok (.aload_n 0, 1) := by decide +kernel
theorem dL_doubt_3 : decode cL_doubt 3 = .ok (.iload_n 1, 1) := by decide +kernel
theorem dL_doubt_4 : decode cL_doubt 4 = .ok (.invokevirtual 74, 3) := by decide +kernel
theorem dL_doubt_7 : decode cL_doubt 7 = .ok (.i2l, 1) := by decide +kernel
theorem dL_doubt_8 : decode cL_doubt 8 = .ok (.lastore, 1) := by decide +kernel
theorem dL_doubt_9 : decode cL_doubt 9 = .ok (.goto 6, 3) := by decide +kernel
theorem dL_doubt_12 : decode cL_doubt 12 = .ok (.astore_n 3, 1) := by decide +kernel
theorem dL_doubt_13 : decode cL_doubt 13 = .ok (.iconst 1, 1) := by decide +kernel
theorem dL_doubt_14 : decode cL_doubt 14 = .ok (.ireturn, 1) := by decide +kernel
theorem dL_doubt_15 : decode cL_doubt 15 = .ok (.iconst 0, 1) := by decide +kernel
theorem dL_doubt_16 : decode cL_doubt 16 = .ok (.ireturn, 1) := by decide +kernel
theorem dL_winners_0 : decode cL_winners 0 = .ok (.aload_n 2, 1) := by decide +kernel
theorem dL_winners_1 : decode cL_winners 1 = .ok (.iconst 0, 1) := by decide +kernel
theorem dL_winners_2 : decode cL_winners 2 = .ok (.aload_n 0, 1) := by decide +kernel
theorem dL_winners_3 : decode cL_winners 3 = .ok (.iload_n 1, 1) := by decide +kernel
theorem dL_winners_4 : decode cL_winners 4 = .ok (.invokevirtual 77, 3) := by decide +kernel
theorem dL_winners_7 : decode cL_winners 7 = .ok (.i2l, 1) := by decide +kernel
theorem dL_winners_8 : decode cL_winners 8 = .ok (.lastore, 1) := by decide +kernel
theorem dL_winners_9 : decode cL_winners 9 = .ok (.goto 6, 3) := by decide +kernel
theorem dL_winners_12 : decode cL_winners 12 = .ok (.astore_n 3, 1) := by decide +kernel
theorem dL_winners_13 : decode cL_winners 13 = .ok (.iconst 1, 1) := by decide +kernel
theorem dL_winners_14 : decode cL_winners 14 = .ok (.ireturn, 1) := by decide +kernel
theorem dL_winners_15 : decode cL_winners 15 = .ok (.iconst 0, 1) := by decide +kernel
theorem dL_winners_16 : decode cL_winners 16 = .ok (.ireturn, 1) := by decide +kernel
theorem dL_winnersByHand_0 : decode cL_winnersByHand 0 = .ok (.aload_n 2, 1) := by decide +kernel
theorem dL_winnersByHand_1 : decode cL_winnersByHand 1 = .ok (.iconst 0, 1) := by decide +kernel
theorem dL_winnersByHand_2 : decode cL_winnersByHand 2 = .ok (.aload_n 0, 1) := by decide +kernel
theorem dL_winnersByHand_3 : decode cL_winnersByHand 3 = .ok (.iload_n 1, 1) := by decide +kernel
theorem dL_winnersByHand_4 : decode cL_winnersByHand 4 = .ok (.invokevirtual 80, 3) := by decide +kernel
theorem dL_winnersByHand_7 : decode cL_winnersByHand 7 = .ok (.i2l, 1) := by decide +kernel
theorem dL_winnersByHand_8 : decode cL_winnersByHand 8 = .ok (.lastore, 1) := by decide +kernel
theorem dL_winnersByHand_9 : decode cL_winnersByHand 9 = .ok (.goto 6, 3) := by decide +kernel
theorem dL_winnersByHand_12 : decode cL_winnersByHand 12 = .ok (.astore_n 3, 1) := by decide +kernel
theorem dL_winnersByHand_13 : decode cL_winnersByHand 13 = .ok (.iconst 1, 1) := by decide +kernel
theorem dL_winnersByHand_14 : decode cL_winnersByHand 14 = .ok (.ireturn, 1) := by decide +kernel
theorem dL_winnersByHand_15 : decode cL_winnersByHand 15 = .ok (.iconst 0, 1) := by decide +kernel
theorem dL_winnersByHand_16 : decode cL_winnersByHand 16 = .ok (.ireturn, 1) := by decide +kernel
theorem dL_tallies_0 : decode cL_tallies 0 = .ok (.aload_n 2, 1) := by decide +kernel
theorem dL_tallies_1 : decode cL_tallies 1 = .ok (.iconst 0, 1) := by decide +kernel
theorem dL_tallies_2 : decode cL_tallies 2 = .ok (.aload_n 0, 1) := by decide +kernel
theorem dL_tallies_3 : decode cL_tallies 3 = .ok (.iload_n 1, 1) := by decide +kernel
theorem dL_tallies_4 : decode cL_tallies 4 = .ok (.invokevirtual 83, 3) := by decide +kernel
theorem dL_tallies_7 : decode cL_tallies 7 = .ok (.i2l, 1) := by decide +kernel
theorem dL_tallies_8 : decode cL_tallies 8 = .ok (.lastore, 1) := by decide +kernel
theorem dL_tallies_9 : decode cL_tallies 9 = .ok (.goto 6, 3) := by decide +kernel
theorem dL_tallies_12 : decode cL_tallies 12 = .ok (.astore_n 3, 1) := by decide +kernel
theorem dL_tallies_13 : decode cL_tallies 13 = .ok (.iconst 1, 1) := by decide +kernel
theorem dL_tallies_14 : decode cL_tallies 14 = .ok (.ireturn, 1) := by decide +kernel
theorem dL_tallies_15 : decode cL_tallies 15 = .ok (.iconst 0, 1) := by decide +kernel
theorem dL_tallies_16 : decode cL_tallies 16 = .ok (.ireturn, 1) := by decide +kernel
theorem dL_votes_0 : decode cL_votes 0 = .ok (.aload 4, 2) := by decide +kernel
theorem dL_votes_2 : decode cL_votes 2 = .ok (.iconst 0, 1) := by decide +kernel
theorem dL_votes_3 : decode cL_votes 3 = .ok (.aload_n 0, 1) := by decide +kernel
theorem dL_votes_4 : decode cL_votes 4 = .ok (.iload_n 1, 1) := by decide +kernel
theorem dL_votes_5 : decode cL_votes 5 = .ok (.iload_n 2, 1) := by decide +kernel
theorem dL_votes_6 : decode cL_votes 6 = .ok (.iload_n 3, 1) := by decide +kernel
theorem dL_votes_7 : decode cL_votes 7 = .ok (.invokevirtual 86, 3) := by decide +kernel
theorem dL_votes_10 : decode cL_votes 10 = .ok (.i2l, 1) := by decide +kernel
theorem dL_votes_11 : decode cL_votes 11 = .ok (.lastore, 1) := by decide +kernel
theorem dL_votes_12 : decode cL_votes 12 = .ok (.goto 7, 3) := by decide +kernel
theorem dL_votes_15 : decode cL_votes 15 = .ok (.astore 5, 2) := by decide +kernel
theorem dL_votes_17 : decode cL_votes 17 = .ok (.iconst 1, 1) := by decide +kernel
theorem dL_votes_18 : decode cL_votes 18 = .ok (.ireturn, 1) := by decide +kernel
theorem dL_votes_19 : decode cL_votes 19 = .ok (.iconst 0, 1) := by decide +kernel
theorem dL_votes_20 : decode cL_votes 20 = .ok (.ireturn, 1) := by decide +kernel
theorem dL_ties_0 : decode cL_ties 0 = .ok (.aload_n 2, 1) := by decide +kernel
theorem dL_ties_1 : decode cL_ties 1 = .ok (.iconst 0, 1) := by decide +kernel
theorem dL_ties_2 : decode cL_ties 2 = .ok (.aload_n 0, 1) := by decide +kernel
theorem dL_ties_3 : decode cL_ties 3 = .ok (.iload_n 1, 1) := by decide +kernel
theorem dL_ties_4 : decode cL_ties 4 = .ok (.invokevirtual 89, 3) := by decide +kernel
theorem dL_ties_7 : decode cL_ties 7 = .ok (.i2l, 1) := by decide +kernel
theorem dL_ties_8 : decode cL_ties 8 = .ok (.lastore, 1) := by decide +kernel
theorem dL_ties_9 : decode cL_ties 9 = .ok (.goto 6, 3) := by decide +kernel
theorem dL_ties_12 : decode cL_ties 12 = .ok (.astore_n 3, 1) := by decide +kernel
theorem dL_ties_13 : decode cL_ties 13 = .ok (.iconst 1, 1) := by decide +kernel
theorem dL_ties_14 : decode cL_ties 14 = .ok (.ireturn, 1) := by decide +kernel
theorem dL_ties_15 : decode cL_ties 15 = .ok (.iconst 0, 1) := by decide +kernel
theorem dL_ties_16 : decode cL_ties 16 = .ok (.ireturn, 1) := by decide +kernel
theorem dL_tied_0 : decode cL_tied 0 = .ok (.aload_n 3, 1) := by decide +kernel
theorem dL_tied_1 : decode cL_tied 1 = .ok (.iconst 0, 1) := by decide +kernel
theorem dL_tied_2 : decode cL_tied 2 = .ok (.aload_n 0, 1) := by decide +kernel
theorem dL_tied_3 : decode cL_tied 3 = .ok (.iload_n 1, 1) := by decide +kernel
theorem dL_tied_4 : decode cL_tied 4 = .ok (.iload_n 2, 1) := by decide +kernel
theorem dL_tied_5 : decode cL_tied 5 = .ok (.invokevirtual 92, 3) := by decide +kernel
theorem dL_tied_8 : decode cL_tied 8 = .ok (.i2l, 1) := by decide +kernel
theorem dL_tied_9 : decode cL_tied 9 = .ok (.lastore, 1) := by decide +kernel
theorem dL_tied_10 : decode cL_tied 10 = .ok (.goto 7, 3) := by decide +kernel
theorem dL_tied_13 : decode cL_tied 13 = .ok (.astore 4, 2) := by decide +kernel
theorem dL_tied_15 : decode cL_tied 15 = .ok (.iconst 1, 1) := by decide +kernel
theorem dL_tied_16 : decode cL_tied 16 = .ok (.ireturn, 1) := by decide +kernel
theorem dL_tied_17 : decode cL_tied 17 = .ok (.iconst 0, 1) := by decide +kernel
theorem dL_tied_18 : decode cL_tied 18 = .ok (.ireturn, 1) := by decide +kernel
theorem dL_certify_0 : decode cL_certify 0 = .ok (.aload_n 2, 1) := by decide +kernel
theorem dL_certify_1 : decode cL_certify 1 = .ok (.iconst 0, 1) := by decide +kernel
theorem dL_certify_2 : decode cL_certify 2 = .ok (.aload_n 0, 1) := by decide +kernel
theorem dL_certify_3 : decode cL_certify 3 = .ok (.iload_n 1, 1) := by decide +kernel
theorem dL_certify_4 : decode cL_certify 4 = .ok (.invokevirtual 95, 3) := by decide +kernel
theorem dL_certify_7 : decode cL_certify 7 = .ok (.i2l, 1) := by decide +kernel
theorem dL_certify_8 : decode cL_certify 8 = .ok (.lastore, 1) := by decide +kernel
theorem dL_certify_9 : decode cL_certify 9 = .ok (.goto 9, 3) := by decide +kernel
theorem dL_certify_12 : decode cL_certify 12 = .ok (.astore_n 3, 1) := by decide +kernel
theorem dL_certify_13 : decode cL_certify 13 = .ok (.iconst 1, 1) := by decide +kernel
theorem dL_certify_14 : decode cL_certify 14 = .ok (.ireturn, 1) := by decide +kernel
theorem dL_certify_15 : decode cL_certify 15 = .ok (.astore_n 3, 1) := by decide +kernel
theorem dL_certify_16 : decode cL_certify 16 = .ok (.iconst 2, 1) := by decide +kernel
theorem dL_certify_17 : decode cL_certify 17 = .ok (.ireturn, 1) := by decide +kernel
theorem dL_certify_18 : decode cL_certify 18 = .ok (.iconst 0, 1) := by decide +kernel
theorem dL_certify_19 : decode cL_certify 19 = .ok (.ireturn, 1) := by decide +kernel
theorem dL_certified_0 : decode cL_certified 0 = .ok (.aload_n 2, 1) := by decide +kernel
theorem dL_certified_1 : decode cL_certified 1 = .ok (.iconst 0, 1) := by decide +kernel
theorem dL_certified_2 : decode cL_certified 2 = .ok (.aload_n 0, 1) := by decide +kernel
theorem dL_certified_3 : decode cL_certified 3 = .ok (.iload_n 1, 1) := by decide +kernel
theorem dL_certified_4 : decode cL_certified 4 = .ok (.invokevirtual 98, 3) := by decide +kernel
theorem dL_certified_7 : decode cL_certified 7 = .ok (.i2l, 1) := by decide +kernel
theorem dL_certified_8 : decode cL_certified 8 = .ok (.lastore, 1) := by decide +kernel
theorem dL_certified_9 : decode cL_certified 9 = .ok (.goto 6, 3) := by decide +kernel
theorem dL_certified_12 : decode cL_certified 12 = .ok (.astore_n 3, 1) := by decide +kernel
theorem dL_certified_13 : decode cL_certified 13 = .ok (.iconst 1, 1) := by decide +kernel
theorem dL_certified_14 : decode cL_certified 14 = .ok (.ireturn, 1) := by decide +kernel
theorem dL_certified_15 : decode cL_certified 15 = .ok (.iconst 0, 1) := by decide +kernel
theorem dL_certified_16 : decode cL_certified 16 = .ok (.ireturn, 1) := by decide +kernel
theorem cle_13 : Cond.classLink RL 13 (exn 0) ∈ wall := wall_of 586 (by decide +kernel) rfl
theorem cae_0 : Cond.castable (exn 0) (exn 0) ∈ xw1 := List.mem_of_getElem? (i := 13) (by decide +kernel)
theorem cle_15 : Cond.classLink RL 15 (exn 1) ∈ wall := wall_of 587 (by decide +kernel) rfl
theorem cae_1 : Cond.castable (exn 1) (exn 1) ∈ xw1 := List.mem_of_getElem? (i := 20) (by decide +kernel)
theorem cle_17 : Cond.classLink RL 17 (exn 2) ∈ wall := wall_of 588 (by decide +kernel) rfl
theorem cae_2 : Cond.castable (exn 2) (exn 2) ∈ xw1 := List.mem_of_getElem? (i := 21) (by decide +kernel)
theorem lk_RL_7 : lkV RL 7 RX9 yX9_enter cX9_enter 5 (some .int) 4 := ⟨wall_of 589 (by decide +kernel) rfl, wall_of 590 (by decide +kernel) rfl, wall_of 591 (by decide +kernel) rfl, wall_of 1 (by decide +kernel) rfl, wall_of 592 (by decide +kernel) rfl, ⟨by decide, by decide⟩, by decide +kernel⟩
theorem lk_RL_19 : lkV RL 19 RX9 yX9_strike cX9_strike 3 (some .int) 1 := ⟨wall_of 700 (by decide +kernel) rfl, wall_of 701 (by decide +kernel) rfl, wall_of 702 (by decide +kernel) rfl, wall_of 1 (by decide +kernel) rfl, wall_of 703 (by decide +kernel) rfl, ⟨by decide, by decide⟩, by decide +kernel⟩
theorem lk_RL_23 : lkV RL 23 RX9 yX9_isAllowed cX9_isAllowed 4 (some .boolean) 3 := ⟨wall_of 713 (by decide +kernel) rfl, wall_of 714 (by decide +kernel) rfl, wall_of 715 (by decide +kernel) rfl, wall_of 1 (by decide +kernel) rfl, wall_of 716 (by decide +kernel) rfl, ⟨by decide, by decide⟩, by decide +kernel⟩
theorem lk_RL_27 : lkV RL 27 RX9 yX9_pass cX9_pass 2 (some .int) 1 := ⟨wall_of 722 (by decide +kernel) rfl, wall_of 723 (by decide +kernel) rfl, wall_of 724 (by decide +kernel) rfl, wall_of 1 (by decide +kernel) rfl, wall_of 725 (by decide +kernel) rfl, ⟨by decide, by decide⟩, by decide +kernel⟩
theorem lk_RL_30 : lkV RL 30 RX9 yX9_type cX9_type 2 (some .int) 1 := ⟨wall_of 731 (by decide +kernel) rfl, wall_of 732 (by decide +kernel) rfl, wall_of 733 (by decide +kernel) rfl, wall_of 1 (by decide +kernel) rfl, wall_of 734 (by decide +kernel) rfl, ⟨by decide, by decide⟩, by decide +kernel⟩
theorem lk_RL_34 : lkV RL 34 RX9 yX9_rule cX9_rule 1 (some .int) 0 := ⟨wall_of 748 (by decide +kernel) rfl, wall_of 749 (by decide +kernel) rfl, wall_of 750 (by decide +kernel) rfl, wall_of 1 (by decide +kernel) rfl, wall_of 751 (by decide +kernel) rfl, ⟨by decide, by decide⟩, by decide +kernel⟩
theorem lk_RL_38 : lkV RL 38 RX9 yX9_mend cX9_mend 4 (some .int) 1 := ⟨wall_of 766 (by decide +kernel) rfl, wall_of 767 (by decide +kernel) rfl, wall_of 768 (by decide +kernel) rfl, wall_of 1 (by decide +kernel) rfl, wall_of 769 (by decide +kernel) rfl, ⟨by decide, by decide⟩, by decide +kernel⟩
theorem lk_RL_41 : lkV RL 41 RX9 yX9_commands cX9_commands 2 (some .int) 1 := ⟨wall_of 774 (by decide +kernel) rfl, wall_of 775 (by decide +kernel) rfl, wall_of 776 (by decide +kernel) rfl, wall_of 1 (by decide +kernel) rfl, wall_of 777 (by decide +kernel) rfl, ⟨by decide, by decide⟩, by decide +kernel⟩
theorem lk_RL_44 : lkV RL 44 RX9 yX9_open cX9_open 5 (some .int) 4 := ⟨wall_of 781 (by decide +kernel) rfl, wall_of 782 (by decide +kernel) rfl, wall_of 783 (by decide +kernel) rfl, wall_of 1 (by decide +kernel) rfl, wall_of 784 (by decide +kernel) rfl, ⟨by decide, by decide⟩, by decide +kernel⟩
theorem lk_RL_47 : lkV RL 47 RX9 yX9_close cX9_close 2 (some .int) 1 := ⟨wall_of 795 (by decide +kernel) rfl, wall_of 796 (by decide +kernel) rfl, wall_of 797 (by decide +kernel) rfl, wall_of 1 (by decide +kernel) rfl, wall_of 798 (by decide +kernel) rfl, ⟨by decide, by decide⟩, by decide +kernel⟩
theorem lk_RL_50 : lkV RL 50 RX9 yX9_mark cX9_mark 2 (some .int) 1 := ⟨wall_of 808 (by decide +kernel) rfl, wall_of 809 (by decide +kernel) rfl, wall_of 810 (by decide +kernel) rfl, wall_of 1 (by decide +kernel) rfl, wall_of 811 (by decide +kernel) rfl, ⟨by decide, by decide⟩, by decide +kernel⟩
theorem lk_RL_53 : lkV RL 53 RX9 yX9_cast cX9_cast 4 (some .int) 2 := ⟨wall_of 825 (by decide +kernel) rfl, wall_of 826 (by decide +kernel) rfl, wall_of 827 (by decide +kernel) rfl, wall_of 1 (by decide +kernel) rfl, wall_of 828 (by decide +kernel) rfl, ⟨by decide, by decide⟩, by decide +kernel⟩
theorem lk_RL_57 : lkV RL 57 RX9 yX9_why cX9_why 2 (some .int) 1 := ⟨wall_of 843 (by decide +kernel) rfl, wall_of 844 (by decide +kernel) rfl, wall_of 845 (by decide +kernel) rfl, wall_of 1 (by decide +kernel) rfl, wall_of 846 (by decide +kernel) rfl, ⟨by decide, by decide⟩, by decide +kernel⟩
theorem lk_RL_60 : lkV RL 60 RX9 yX9_read cX9_read 3 (some .int) 2 := ⟨wall_of 856 (by decide +kernel) rfl, wall_of 857 (by decide +kernel) rfl, wall_of 858 (by decide +kernel) rfl, wall_of 1 (by decide +kernel) rfl, wall_of 859 (by decide +kernel) rfl, ⟨by decide, by decide⟩, by decide +kernel⟩
theorem lk_RL_63 : lkV RL 63 RX9 yX9_misread cX9_misread 2 none 1 := ⟨wall_of 865 (by decide +kernel) rfl, wall_of 866 (by decide +kernel) rfl, wall_of 867 (by decide +kernel) rfl, wall_of 1 (by decide +kernel) rfl, wall_of 868 (by decide +kernel) rfl, ⟨by decide, by decide⟩, by decide +kernel⟩
theorem lk_RL_67 : lkV RL 67 RX9 yX9_sample cX9_sample 7 (some .int) 3 := ⟨wall_of 873 (by decide +kernel) rfl, wall_of 874 (by decide +kernel) rfl, wall_of 875 (by decide +kernel) rfl, wall_of 1 (by decide +kernel) rfl, wall_of 876 (by decide +kernel) rfl, ⟨by decide, by decide⟩, by decide +kernel⟩
theorem lk_RL_71 : lkV RL 71 RX9 yX9_recount cX9_recount 4 (some .int) 1 := ⟨wall_of 887 (by decide +kernel) rfl, wall_of 888 (by decide +kernel) rfl, wall_of 889 (by decide +kernel) rfl, wall_of 1 (by decide +kernel) rfl, wall_of 890 (by decide +kernel) rfl, ⟨by decide, by decide⟩, by decide +kernel⟩
theorem lk_RL_74 : lkV RL 74 RX9 yX9_doubt cX9_doubt 2 (some .int) 1 := ⟨wall_of 894 (by decide +kernel) rfl, wall_of 895 (by decide +kernel) rfl, wall_of 896 (by decide +kernel) rfl, wall_of 1 (by decide +kernel) rfl, wall_of 897 (by decide +kernel) rfl, ⟨by decide, by decide⟩, by decide +kernel⟩
theorem lk_RL_77 : lkV RL 77 RX9 yX9_winners cX9_winners 2 (some .int) 1 := ⟨wall_of 901 (by decide +kernel) rfl, wall_of 902 (by decide +kernel) rfl, wall_of 903 (by decide +kernel) rfl, wall_of 1 (by decide +kernel) rfl, wall_of 904 (by decide +kernel) rfl, ⟨by decide, by decide⟩, by decide +kernel⟩
theorem lk_RL_80 : lkV RL 80 RX9 yX9_winnersByHand cX9_winnersByHand 2 (some .int) 1 := ⟨wall_of 908 (by decide +kernel) rfl, wall_of 909 (by decide +kernel) rfl, wall_of 910 (by decide +kernel) rfl, wall_of 1 (by decide +kernel) rfl, wall_of 911 (by decide +kernel) rfl, ⟨by decide, by decide⟩, by decide +kernel⟩
theorem lk_RL_83 : lkV RL 83 RX9 yX9_tallies cX9_tallies 2 (some .int) 1 := ⟨wall_of 926 (by decide +kernel) rfl, wall_of 927 (by decide +kernel) rfl, wall_of 928 (by decide +kernel) rfl, wall_of 1 (by decide +kernel) rfl, wall_of 929 (by decide +kernel) rfl, ⟨by decide, by decide⟩, by decide +kernel⟩
theorem lk_RL_86 : lkV RL 86 RX9 yX9_votes cX9_votes 4 (some .int) 3 := ⟨wall_of 933 (by decide +kernel) rfl, wall_of 934 (by decide +kernel) rfl, wall_of 935 (by decide +kernel) rfl, wall_of 1 (by decide +kernel) rfl, wall_of 936 (by decide +kernel) rfl, ⟨by decide, by decide⟩, by decide +kernel⟩
theorem lk_RL_89 : lkV RL 89 RX9 yX9_ties cX9_ties 2 (some .int) 1 := ⟨wall_of 946 (by decide +kernel) rfl, wall_of 947 (by decide +kernel) rfl, wall_of 948 (by decide +kernel) rfl, wall_of 1 (by decide +kernel) rfl, wall_of 949 (by decide +kernel) rfl, ⟨by decide, by decide⟩, by decide +kernel⟩
theorem lk_RL_92 : lkV RL 92 RX9 yX9_tied cX9_tied 3 (some .int) 2 := ⟨wall_of 953 (by decide +kernel) rfl, wall_of 954 (by decide +kernel) rfl, wall_of 955 (by decide +kernel) rfl, wall_of 1 (by decide +kernel) rfl, wall_of 956 (by decide +kernel) rfl, ⟨by decide, by decide⟩, by decide +kernel⟩
theorem lk_RL_95 : lkV RL 95 RX9 yX9_certify cX9_certify 2 (some .int) 1 := ⟨wall_of 961 (by decide +kernel) rfl, wall_of 962 (by decide +kernel) rfl, wall_of 963 (by decide +kernel) rfl, wall_of 1 (by decide +kernel) rfl, wall_of 964 (by decide +kernel) rfl, ⟨by decide, by decide⟩, by decide +kernel⟩
theorem lk_RL_98 : lkV RL 98 RX9 yX9_certified cX9_certified 2 (some .int) 1 := ⟨wall_of 969 (by decide +kernel) rfl, wall_of 970 (by decide +kernel) rfl, wall_of 971 (by decide +kernel) rfl, wall_of 1 (by decide +kernel) rfl, wall_of 972 (by decide +kernel) rfl, ⟨by decide, by decide⟩, by decide +kernel⟩
