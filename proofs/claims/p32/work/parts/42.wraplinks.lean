/-! the law's helpers: instructions and links -/
theorem dL_enter_0 : decode cL_enter 0 = .ok (.aload_n 0, 1) := by decide +kernel
theorem dL_enter_1 : decode cL_enter 1 = .ok (.iload_n 1, 1) := by decide +kernel
theorem dL_enter_2 : decode cL_enter 2 = .ok (.iload_n 2, 1) := by decide +kernel
theorem dL_enter_3 : decode cL_enter 3 = .ok (.iload_n 3, 1) := by decide +kernel
theorem dL_enter_4 : decode cL_enter 4 = .ok (.iload 4, 2) := by decide +kernel
theorem dL_enter_6 : decode cL_enter 6 = .ok (.invokevirtual 9, 3) := by decide +kernel
theorem dL_enter_9 : decode cL_enter 9 = .ok (.ireturn, 1) := by decide +kernel
theorem dL_enter_10 : decode cL_enter 10 = .ok (.astore 5, 2) := by decide +kernel
theorem dL_enter_12 : decode cL_enter 12 = .ok (.bipush (-101), 2) := by decide +kernel
theorem dL_enter_14 : decode cL_enter 14 = .ok (.ireturn, 1) := by decide +kernel
theorem dL_enter_15 : decode cL_enter 15 = .ok (.astore 5, 2) := by decide +kernel
theorem dL_enter_17 : decode cL_enter 17 = .ok (.bipush (-102), 2) := by decide +kernel
theorem dL_enter_19 : decode cL_enter 19 = .ok (.ireturn, 1) := by decide +kernel
theorem dL_enter_20 : decode cL_enter 20 = .ok (.astore 5, 2) := by decide +kernel
theorem dL_enter_22 : decode cL_enter 22 = .ok (.bipush (-103), 2) := by decide +kernel
theorem dL_enter_24 : decode cL_enter 24 = .ok (.ireturn, 1) := by decide +kernel
theorem dL_strike_0 : decode cL_strike 0 = .ok (.aload_n 0, 1) := by decide +kernel
theorem dL_strike_1 : decode cL_strike 1 = .ok (.iload_n 1, 1) := by decide +kernel
theorem dL_strike_2 : decode cL_strike 2 = .ok (.invokevirtual 21, 3) := by decide +kernel
theorem dL_strike_5 : decode cL_strike 5 = .ok (.ireturn, 1) := by decide +kernel
theorem dL_strike_6 : decode cL_strike 6 = .ok (.astore_n 2, 1) := by decide +kernel
theorem dL_strike_7 : decode cL_strike 7 = .ok (.bipush (-101), 2) := by decide +kernel
theorem dL_strike_9 : decode cL_strike 9 = .ok (.ireturn, 1) := by decide +kernel
theorem dL_strike_10 : decode cL_strike 10 = .ok (.astore_n 2, 1) := by decide +kernel
theorem dL_strike_11 : decode cL_strike 11 = .ok (.bipush (-103), 2) := by decide +kernel
theorem dL_strike_13 : decode cL_strike 13 = .ok (.ireturn, 1) := by decide +kernel
theorem dL_allowed_0 : decode cL_allowed 0 = .ok (.aload_n 0, 1) := by decide +kernel
theorem dL_allowed_1 : decode cL_allowed 1 = .ok (.iload_n 1, 1) := by decide +kernel
theorem dL_allowed_2 : decode cL_allowed 2 = .ok (.iload_n 2, 1) := by decide +kernel
theorem dL_allowed_3 : decode cL_allowed 3 = .ok (.iload_n 3, 1) := by decide +kernel
theorem dL_allowed_4 : decode cL_allowed 4 = .ok (.invokevirtual 25, 3) := by decide +kernel
theorem dL_allowed_7 : decode cL_allowed 7 = .ok (.ifCond .eq 7, 3) := by decide +kernel
theorem dL_allowed_10 : decode cL_allowed 10 = .ok (.iconst 1, 1) := by decide +kernel
theorem dL_allowed_11 : decode cL_allowed 11 = .ok (.goto 4, 3) := by decide +kernel
theorem dL_allowed_14 : decode cL_allowed 14 = .ok (.iconst 0, 1) := by decide +kernel
theorem dL_allowed_15 : decode cL_allowed 15 = .ok (.ireturn, 1) := by decide +kernel
theorem dL_allowed_16 : decode cL_allowed 16 = .ok (.astore 4, 2) := by decide +kernel
theorem dL_allowed_18 : decode cL_allowed 18 = .ok (.bipush (-101), 2) := by decide +kernel
theorem dL_allowed_20 : decode cL_allowed 20 = .ok (.ireturn, 1) := by decide +kernel
theorem dL_allowed_21 : decode cL_allowed 21 = .ok (.astore 4, 2) := by decide +kernel
theorem dL_allowed_23 : decode cL_allowed 23 = .ok (.bipush (-102), 2) := by decide +kernel
theorem dL_allowed_25 : decode cL_allowed 25 = .ok (.ireturn, 1) := by decide +kernel
theorem dL_pass_0 : decode cL_pass 0 = .ok (.aload_n 0, 1) := by decide +kernel
theorem dL_pass_1 : decode cL_pass 1 = .ok (.iload_n 1, 1) := by decide +kernel
theorem dL_pass_2 : decode cL_pass 2 = .ok (.invokevirtual 29, 3) := by decide +kernel
theorem dL_pass_5 : decode cL_pass 5 = .ok (.ireturn, 1) := by decide +kernel
theorem dL_pass_6 : decode cL_pass 6 = .ok (.astore_n 2, 1) := by decide +kernel
theorem dL_pass_7 : decode cL_pass 7 = .ok (.bipush (-102), 2) := by decide +kernel
theorem dL_pass_9 : decode cL_pass 9 = .ok (.ireturn, 1) := by decide +kernel
theorem dL_pass_10 : decode cL_pass 10 = .ok (.astore_n 2, 1) := by decide +kernel
theorem dL_pass_11 : decode cL_pass 11 = .ok (.bipush (-103), 2) := by decide +kernel
theorem dL_pass_13 : decode cL_pass 13 = .ok (.ireturn, 1) := by decide +kernel
theorem dL_type_0 : decode cL_type 0 = .ok (.aload_n 0, 1) := by decide +kernel
theorem dL_type_1 : decode cL_type 1 = .ok (.iload_n 1, 1) := by decide +kernel
theorem dL_type_2 : decode cL_type 2 = .ok (.i2c, 1) := by decide +kernel
theorem dL_type_3 : decode cL_type 3 = .ok (.invokevirtual 32, 3) := by decide +kernel
theorem dL_type_6 : decode cL_type 6 = .ok (.ireturn, 1) := by decide +kernel
theorem dL_type_7 : decode cL_type 7 = .ok (.astore_n 2, 1) := by decide +kernel
theorem dL_type_8 : decode cL_type 8 = .ok (.bipush (-102), 2) := by decide +kernel
theorem dL_type_10 : decode cL_type 10 = .ok (.ireturn, 1) := by decide +kernel
theorem dL_type_11 : decode cL_type 11 = .ok (.astore_n 2, 1) := by decide +kernel
theorem dL_type_12 : decode cL_type 12 = .ok (.bipush (-103), 2) := by decide +kernel
theorem dL_type_14 : decode cL_type 14 = .ok (.ireturn, 1) := by decide +kernel
theorem dL_rule_0 : decode cL_rule 0 = .ok (.aload_n 0, 1) := by decide +kernel
theorem dL_rule_1 : decode cL_rule 1 = .ok (.invokevirtual 36, 3) := by decide +kernel
theorem dL_rule_4 : decode cL_rule 4 = .ok (.ireturn, 1) := by decide +kernel
theorem dL_rule_5 : decode cL_rule 5 = .ok (.astore_n 1, 1) := by decide +kernel
theorem dL_rule_6 : decode cL_rule 6 = .ok (.bipush (-102), 2) := by decide +kernel
theorem dL_rule_8 : decode cL_rule 8 = .ok (.ireturn, 1) := by decide +kernel
theorem dL_rule_9 : decode cL_rule 9 = .ok (.astore_n 1, 1) := by decide +kernel
theorem dL_rule_10 : decode cL_rule 10 = .ok (.bipush (-103), 2) := by decide +kernel
theorem dL_rule_12 : decode cL_rule 12 = .ok (.ireturn, 1) := by decide +kernel
theorem dL_mend_0 : decode cL_mend 0 = .ok (.aload_n 0, 1) := by decide +kernel
theorem dL_mend_1 : decode cL_mend 1 = .ok (.iload_n 1, 1) := by decide +kernel
theorem dL_mend_2 : decode cL_mend 2 = .ok (.invokevirtual 40, 3) := by decide +kernel
theorem dL_mend_5 : decode cL_mend 5 = .ok (.ireturn, 1) := by decide +kernel
theorem dL_mend_6 : decode cL_mend 6 = .ok (.astore_n 2, 1) := by decide +kernel
theorem dL_mend_7 : decode cL_mend 7 = .ok (.bipush (-101), 2) := by decide +kernel
theorem dL_mend_9 : decode cL_mend 9 = .ok (.ireturn, 1) := by decide +kernel
theorem dL_mend_10 : decode cL_mend 10 = .ok (.astore_n 2, 1) := by decide +kernel
theorem dL_mend_11 : decode cL_mend 11 = .ok (.bipush (-102), 2) := by decide +kernel
theorem dL_mend_13 : decode cL_mend 13 = .ok (.ireturn, 1) := by decide +kernel
theorem dL_commands_0 : decode cL_commands 0 = .ok (.aload_n 0, 1) := by decide +kernel
theorem dL_commands_1 : decode cL_commands 1 = .ok (.iload_n 1, 1) := by decide +kernel
theorem dL_commands_2 : decode cL_commands 2 = .ok (.invokevirtual 43, 3) := by decide +kernel
theorem dL_commands_5 : decode cL_commands 5 = .ok (.ireturn, 1) := by decide +kernel
theorem dL_commands_6 : decode cL_commands 6 = .ok (.astore_n 2, 1) := by decide +kernel
theorem dL_commands_7 : decode cL_commands 7 = .ok (.bipush (-101), 2) := by decide +kernel
theorem dL_commands_9 : decode cL_commands 9 = .ok (.ireturn, 1) := by decide +kernel
theorem dL_open_0 : decode cL_open 0 = .ok (.aload_n 0, 1) := by decide +kernel
theorem dL_open_1 : decode cL_open 1 = .ok (.iload_n 1, 1) := by decide +kernel
theorem dL_open_2 : decode cL_open 2 = .ok (.iload_n 2, 1) := by decide +kernel
theorem dL_open_3 : decode cL_open 3 = .ok (.iload_n 3, 1) := by decide +kernel
theorem dL_open_4 : decode cL_open 4 = .ok (.iload 4, 2) := by decide +kernel
theorem dL_open_6 : decode cL_open 6 = .ok (.invokevirtual 46, 3) := by decide +kernel
theorem dL_open_9 : decode cL_open 9 = .ok (.ireturn, 1) := by decide +kernel
theorem dL_open_10 : decode cL_open 10 = .ok (.astore 5, 2) := by decide +kernel
theorem dL_open_12 : decode cL_open 12 = .ok (.bipush (-101), 2) := by decide +kernel
theorem dL_open_14 : decode cL_open 14 = .ok (.ireturn, 1) := by decide +kernel
theorem dL_open_15 : decode cL_open 15 = .ok (.astore 5, 2) := by decide +kernel
theorem dL_open_17 : decode cL_open 17 = .ok (.bipush (-102), 2) := by decide +kernel
theorem dL_open_19 : decode cL_open 19 = .ok (.ireturn, 1) := by decide +kernel
theorem dL_open_20 : decode cL_open 20 = .ok (.astore 5, 2) := by decide +kernel
theorem dL_open_22 : decode cL_open 22 = .ok (.bipush (-103), 2) := by decide +kernel
theorem dL_open_24 : decode cL_open 24 = .ok (.ireturn, 1) := by decide +kernel
theorem dL_close_0 : decode cL_close 0 = .ok (.aload_n 0, 1) := by decide +kernel
theorem dL_close_1 : decode cL_close 1 = .ok (.iload_n 1, 1) := by decide +kernel
theorem dL_close_2 : decode cL_close 2 = .ok (.invokevirtual 49, 3) := by decide +kernel
theorem dL_close_5 : decode cL_close 5 = .ok (.ireturn, 1) := by decide +kernel
theorem dL_close_6 : decode cL_close 6 = .ok (.astore_n 2, 1) := by decide +kernel
theorem dL_close_7 : decode cL_close 7 = .ok (.bipush (-101), 2) := by decide +kernel
theorem dL_close_9 : decode cL_close 9 = .ok (.ireturn, 1) := by decide +kernel
theorem dL_close_10 : decode cL_close 10 = .ok (.astore_n 2, 1) := by decide +kernel
theorem dL_close_11 : decode cL_close 11 = .ok (.bipush (-103), 2) := by decide +kernel
theorem dL_close_13 : decode cL_close 13 = .ok (.ireturn, 1) := by decide +kernel
theorem dL_mark_0 : decode cL_mark 0 = .ok (.aload_n 0, 1) := by decide +kernel
theorem dL_mark_1 : decode cL_mark 1 = .ok (.iload_n 1, 1) := by decide +kernel
theorem dL_mark_2 : decode cL_mark 2 = .ok (.invokevirtual 52, 3) := by decide +kernel
theorem dL_mark_5 : decode cL_mark 5 = .ok (.ireturn, 1) := by decide +kernel
theorem dL_mark_6 : decode cL_mark 6 = .ok (.astore_n 2, 1) := by decide +kernel
theorem dL_mark_7 : decode cL_mark 7 = .ok (.bipush (-101), 2) := by decide +kernel
theorem dL_mark_9 : decode cL_mark 9 = .ok (.ireturn, 1) := by decide +kernel
theorem dL_mark_10 : decode cL_mark 10 = .ok (.astore_n 2, 1) := by decide +kernel
theorem dL_mark_11 : decode cL_mark 11 = .ok (.bipush (-103), 2) := by decide +kernel
theorem dL_mark_13 : decode cL_mark 13 = .ok (.ireturn, 1) := by decide +kernel
theorem dL_cast_0 : decode cL_cast 0 = .ok (.aload_n 0, 1) := by decide +kernel
theorem dL_cast_1 : decode cL_cast 1 = .ok (.iload_n 1, 1) := by decide +kernel
theorem dL_cast_2 : decode cL_cast 2 = .ok (.iload_n 2, 1) := by decide +kernel
theorem dL_cast_3 : decode cL_cast 3 = .ok (.invokevirtual 55, 3) := by decide +kernel
theorem dL_cast_6 : decode cL_cast 6 = .ok (.ireturn, 1) := by decide +kernel
theorem dL_cast_7 : decode cL_cast 7 = .ok (.astore_n 3, 1) := by decide +kernel
theorem dL_cast_8 : decode cL_cast 8 = .ok (.bipush (-101), 2) := by decide +kernel
theorem dL_cast_10 : decode cL_cast 10 = .ok (.ireturn, 1) := by decide +kernel
theorem dL_cast_11 : decode cL_cast 11 = .ok (.astore_n 3, 1) := by decide +kernel
theorem dL_cast_12 : decode cL_cast 12 = .ok (.bipush (-103), 2) := by decide +kernel
theorem dL_cast_14 : decode cL_cast 14 = .ok (.ireturn, 1) := by decide +kernel
theorem dL_why_0 : decode cL_why 0 = .ok (.aload_n 0, 1) := by decide +kernel
theorem dL_why_1 : decode cL_why 1 = .ok (.iload_n 1, 1) := by decide +kernel
theorem dL_why_2 : decode cL_why 2 = .ok (.invokevirtual 59, 3) := by decide +kernel
theorem dL_why_5 : decode cL_why 5 = .ok (.ireturn, 1) := by decide +kernel
theorem dL_why_6 : decode cL_why 6 = .ok (.astore_n 2, 1) := by decide +kernel
theorem dL_why_7 : decode cL_why 7 = .ok (.bipush (-101), 2) := by decide +kernel
theorem dL_why_9 : decode cL_why 9 = .ok (.ireturn, 1) := by decide +kernel
theorem dL_read_0 : decode cL_read 0 = .ok (.aload_n 0, 1) := by decide +kernel
theorem dL_read_1 : decode cL_read 1 = .ok (.iload_n 1, 1) := by decide +kernel
theorem dL_read_2 : decode cL_read 2 = .ok (.iload_n 2, 1) := by decide +kernel
theorem dL_read_3 : decode cL_read 3 = .ok (.invokevirtual 62, 3) := by decide +kernel
theorem dL_read_6 : decode cL_read 6 = .ok (.ireturn, 1) := by decide +kernel
theorem dL_read_7 : decode cL_read 7 = .ok (.astore_n 3, 1) := by decide +kernel
theorem dL_read_8 : decode cL_read 8 = .ok (.bipush (-101), 2) := by decide +kernel
theorem dL_read_10 : decode cL_read 10 = .ok (.ireturn, 1) := by decide +kernel
theorem dL_misread_0 : decode cL_misread 0 = .ok (.aload_n 0, 1) := by decide +kernel
theorem dL_misread_1 : decode cL_misread 1 = .ok (.iload_n 1, 1) := by decide +kernel
theorem dL_misread_2 : decode cL_misread 2 = .ok (.invokevirtual 65, 3) := by decide +kernel
theorem dL_misread_5 : decode cL_misread 5 = .ok (.goto 11, 3) := by decide +kernel
theorem dL_misread_8 : decode cL_misread 8 = .ok (.astore_n 2, 1) := by decide +kernel
theorem dL_misread_9 : decode cL_misread 9 = .ok (.bipush (-101), 2) := by decide +kernel
theorem dL_misread_11 : decode cL_misread 11 = .ok (.ireturn, 1) := by decide +kernel
theorem dL_misread_12 : decode cL_misread 12 = .ok (.astore_n 2, 1) := by decide +kernel
theorem dL_misread_13 : decode cL_misread 13 = .ok (.bipush (-103), 2) := by decide +kernel
theorem dL_misread_15 : decode cL_misread 15 = .ok (.ireturn, 1) := by decide +kernel
theorem dL_misread_16 : decode cL_misread 16 = .ok (.iconst 0, 1) := by decide +kernel
theorem dL_misread_17 : decode cL_misread 17 = .ok (.ireturn, 1) := by decide +kernel
theorem dL_sample_0 : decode cL_sample 0 = .ok (.aload_n 0, 1) := by decide +kernel
theorem dL_sample_1 : decode cL_sample 1 = .ok (.iload_n 1, 1) := by decide +kernel
theorem dL_sample_2 : decode cL_sample 2 = .ok (.iload_n 2, 1) := by decide +kernel
theorem dL_sample_3 : decode cL_sample 3 = .ok (.iload_n 3, 1) := by decide +kernel
theorem dL_sample_4 : decode cL_sample 4 = .ok (.invokevirtual 69, 3) := by decide +kernel
theorem dL_sample_7 : decode cL_sample 7 = .ok (.ireturn, 1) := by decide +kernel
theorem dL_sample_8 : decode cL_sample 8 = .ok (.astore 4, 2) := by decide +kernel
theorem dL_sample_10 : decode cL_sample 10 = .ok (.bipush (-101), 2) := by decide +kernel
theorem dL_sample_12 : decode cL_sample 12 = .ok (.ireturn, 1) := by decide +kernel
theorem dL_sample_13 : decode cL_sample 13 = .ok (.astore 4, 2) := by decide +kernel
theorem dL_sample_15 : decode cL_sample 15 = .ok (.bipush (-102), 2) := by decide +kernel
theorem dL_sample_17 : decode cL_sample 17 = .ok (.ireturn, 1) := by decide +kernel
theorem dL_sample_18 : decode cL_sample 18 = .ok (.astore 4, 2) := by decide +kernel
theorem dL_sample_20 : decode cL_sample 20 = .ok (.bipush (-103), 2) := by decide +kernel
theorem dL_sample_22 : decode cL_sample 22 = .ok (.ireturn, 1) := by decide +kernel
theorem dL_recount_0 : decode cL_recount 0 = .ok (.aload_n 0, 1) := by decide +kernel
theorem dL_recount_1 : decode cL_recount 1 = .ok (.iload_n 1, 1) := by decide +kernel
theorem dL_recount_2 : decode cL_recount 2 = .ok (.invokevirtual 73, 3) := by decide +kernel
theorem dL_recount_5 : decode cL_recount 5 = .ok (.ireturn, 1) := by decide +kernel
theorem dL_recount_6 : decode cL_recount 6 = .ok (.astore_n 2, 1) := by decide +kernel
theorem dL_recount_7 : decode cL_recount 7 = .ok (.bipush (-101), 2) := by decide +kernel
theorem dL_recount_9 : decode cL_recount 9 = .ok (.ireturn, 1) := by decide +kernel
theorem dL_doubt_0 : decode cL_doubt 0 = .ok (.aload_n 0, 1) := by decide +kernel
theorem dL_doubt_1 : decode cL_doubt 1 = .ok (.iload_n 1, 1) := by decide +kernel
theorem dL_doubt_2 : decode cL_doubt 2 = .ok (.invokevirtual 76, 3) := by decide +kernel
theorem dL_doubt_5 : decode cL_doubt 5 = .ok (.ireturn, 1) := by decide +kernel
theorem dL_doubt_6 : decode cL_doubt 6 = .ok (.astore_n 2, 1) := by decide +kernel
theorem dL_doubt_7 : decode cL_doubt 7 = .ok (.bipush (-101), 2) := by decide +kernel
theorem dL_doubt_9 : decode cL_doubt 9 = .ok (.ireturn, 1) := by decide +kernel
theorem dL_winners_0 : decode cL_winners 0 = .ok (.aload_n 0, 1) := by decide +kernel
theorem dL_winners_1 : decode cL_winners 1 = .ok (.iload_n 1, 1) := by decide +kernel
theorem dL_winners_2 : decode cL_winners 2 = .ok (.invokevirtual 79, 3) := by decide +kernel
theorem dL_winners_5 : decode cL_winners 5 = .ok (.ireturn, 1) := by decide +kernel
theorem dL_winners_6 : decode cL_winners 6 = .ok (.astore_n 2, 1) := by decide +kernel
theorem dL_winners_7 : decode cL_winners 7 = .ok (.bipush (-101), 2) := by decide +kernel
theorem dL_winners_9 : decode cL_winners 9 = .ok (.ireturn, 1) := by decide +kernel
theorem dL_hand_0 : decode cL_hand 0 = .ok (.aload_n 0, 1) := by decide +kernel
theorem dL_hand_1 : decode cL_hand 1 = .ok (.iload_n 1, 1) := by decide +kernel
theorem dL_hand_2 : decode cL_hand 2 = .ok (.invokevirtual 82, 3) := by decide +kernel
theorem dL_hand_5 : decode cL_hand 5 = .ok (.ireturn, 1) := by decide +kernel
theorem dL_hand_6 : decode cL_hand 6 = .ok (.astore_n 2, 1) := by decide +kernel
theorem dL_hand_7 : decode cL_hand 7 = .ok (.bipush (-101), 2) := by decide +kernel
theorem dL_hand_9 : decode cL_hand 9 = .ok (.ireturn, 1) := by decide +kernel
theorem dL_tallies_0 : decode cL_tallies 0 = .ok (.aload_n 0, 1) := by decide +kernel
theorem dL_tallies_1 : decode cL_tallies 1 = .ok (.iload_n 1, 1) := by decide +kernel
theorem dL_tallies_2 : decode cL_tallies 2 = .ok (.invokevirtual 85, 3) := by decide +kernel
theorem dL_tallies_5 : decode cL_tallies 5 = .ok (.ireturn, 1) := by decide +kernel
theorem dL_tallies_6 : decode cL_tallies 6 = .ok (.astore_n 2, 1) := by decide +kernel
theorem dL_tallies_7 : decode cL_tallies 7 = .ok (.bipush (-101), 2) := by decide +kernel
theorem dL_tallies_9 : decode cL_tallies 9 = .ok (.ireturn, 1) := by decide +kernel
theorem dL_votes_0 : decode cL_votes 0 = .ok (.aload_n 0, 1) := by decide +kernel
theorem dL_votes_1 : decode cL_votes 1 = .ok (.iload_n 1, 1) := by decide +kernel
theorem dL_votes_2 : decode cL_votes 2 = .ok (.iload_n 2, 1) := by decide +kernel
theorem dL_votes_3 : decode cL_votes 3 = .ok (.iload_n 3, 1) := by decide +kernel
theorem dL_votes_4 : decode cL_votes 4 = .ok (.invokevirtual 88, 3) := by decide +kernel
theorem dL_votes_7 : decode cL_votes 7 = .ok (.ireturn, 1) := by decide +kernel
theorem dL_votes_8 : decode cL_votes 8 = .ok (.astore 4, 2) := by decide +kernel
theorem dL_votes_10 : decode cL_votes 10 = .ok (.bipush (-101), 2) := by decide +kernel
theorem dL_votes_12 : decode cL_votes 12 = .ok (.ireturn, 1) := by decide +kernel
theorem dL_ties_0 : decode cL_ties 0 = .ok (.aload_n 0, 1) := by decide +kernel
theorem dL_ties_1 : decode cL_ties 1 = .ok (.iload_n 1, 1) := by decide +kernel
theorem dL_ties_2 : decode cL_ties 2 = .ok (.invokevirtual 91, 3) := by decide +kernel
theorem dL_ties_5 : decode cL_ties 5 = .ok (.ireturn, 1) := by decide +kernel
theorem dL_ties_6 : decode cL_ties 6 = .ok (.astore_n 2, 1) := by decide +kernel
theorem dL_ties_7 : decode cL_ties 7 = .ok (.bipush (-101), 2) := by decide +kernel
theorem dL_ties_9 : decode cL_ties 9 = .ok (.ireturn, 1) := by decide +kernel
theorem dL_tied_0 : decode cL_tied 0 = .ok (.aload_n 0, 1) := by decide +kernel
theorem dL_tied_1 : decode cL_tied 1 = .ok (.iload_n 1, 1) := by decide +kernel
theorem dL_tied_2 : decode cL_tied 2 = .ok (.iload_n 2, 1) := by decide +kernel
theorem dL_tied_3 : decode cL_tied 3 = .ok (.invokevirtual 94, 3) := by decide +kernel
theorem dL_tied_6 : decode cL_tied 6 = .ok (.ireturn, 1) := by decide +kernel
theorem dL_tied_7 : decode cL_tied 7 = .ok (.astore_n 3, 1) := by decide +kernel
theorem dL_tied_8 : decode cL_tied 8 = .ok (.bipush (-101), 2) := by decide +kernel
theorem dL_tied_10 : decode cL_tied 10 = .ok (.ireturn, 1) := by decide +kernel
theorem dL_certify_0 : decode cL_certify 0 = .ok (.aload_n 0, 1) := by decide +kernel
theorem dL_certify_1 : decode cL_certify 1 = .ok (.iload_n 1, 1) := by decide +kernel
theorem dL_certify_2 : decode cL_certify 2 = .ok (.invokevirtual 97, 3) := by decide +kernel
theorem dL_certify_5 : decode cL_certify 5 = .ok (.ireturn, 1) := by decide +kernel
theorem dL_certify_6 : decode cL_certify 6 = .ok (.astore_n 2, 1) := by decide +kernel
theorem dL_certify_7 : decode cL_certify 7 = .ok (.bipush (-101), 2) := by decide +kernel
theorem dL_certify_9 : decode cL_certify 9 = .ok (.ireturn, 1) := by decide +kernel
theorem dL_certify_10 : decode cL_certify 10 = .ok (.astore_n 2, 1) := by decide +kernel
theorem dL_certify_11 : decode cL_certify 11 = .ok (.bipush (-103), 2) := by decide +kernel
theorem dL_certify_13 : decode cL_certify 13 = .ok (.ireturn, 1) := by decide +kernel
theorem dL_certified_0 : decode cL_certified 0 = .ok (.aload_n 0, 1) := by decide +kernel
theorem dL_certified_1 : decode cL_certified 1 = .ok (.iload_n 1, 1) := by decide +kernel
theorem dL_certified_2 : decode cL_certified 2 = .ok (.invokevirtual 100, 3) := by decide +kernel
theorem dL_certified_5 : decode cL_certified 5 = .ok (.ireturn, 1) := by decide +kernel
theorem dL_certified_6 : decode cL_certified 6 = .ok (.astore_n 2, 1) := by decide +kernel
theorem dL_certified_7 : decode cL_certified 7 = .ok (.bipush (-101), 2) := by decide +kernel
theorem dL_certified_9 : decode cL_certified 9 = .ok (.ireturn, 1) := by decide +kernel
theorem cle_15 : Cond.classLink RL 15 (exn 0) ∈ wall := wall_of 586 (by decide +kernel) rfl
theorem cae_0 : Cond.castable (exn 0) (exn 0) ∈ xw1 := List.mem_of_getElem? (i := 13) (by decide +kernel)
theorem cle_17 : Cond.classLink RL 17 (exn 1) ∈ wall := wall_of 587 (by decide +kernel) rfl
theorem cae_1 : Cond.castable (exn 1) (exn 1) ∈ xw1 := List.mem_of_getElem? (i := 20) (by decide +kernel)
theorem cle_19 : Cond.classLink RL 19 (exn 2) ∈ wall := wall_of 588 (by decide +kernel) rfl
theorem cae_2 : Cond.castable (exn 2) (exn 2) ∈ xw1 := List.mem_of_getElem? (i := 21) (by decide +kernel)
theorem lk_RL_9 : lkV RL 9 RX9 yX9_enter cX9_enter 5 (some .int) 4 := ⟨wall_of 589 (by decide +kernel) rfl, wall_of 590 (by decide +kernel) rfl, wall_of 591 (by decide +kernel) rfl, wall_of 1 (by decide +kernel) rfl, wall_of 592 (by decide +kernel) rfl, ⟨by decide, by decide⟩, by decide +kernel⟩
theorem lk_RL_21 : lkV RL 21 RX9 yX9_strike cX9_strike 3 (some .int) 1 := ⟨wall_of 700 (by decide +kernel) rfl, wall_of 701 (by decide +kernel) rfl, wall_of 702 (by decide +kernel) rfl, wall_of 1 (by decide +kernel) rfl, wall_of 703 (by decide +kernel) rfl, ⟨by decide, by decide⟩, by decide +kernel⟩
theorem lk_RL_25 : lkV RL 25 RX9 yX9_isAllowed cX9_isAllowed 4 (some .boolean) 3 := ⟨wall_of 713 (by decide +kernel) rfl, wall_of 714 (by decide +kernel) rfl, wall_of 715 (by decide +kernel) rfl, wall_of 1 (by decide +kernel) rfl, wall_of 716 (by decide +kernel) rfl, ⟨by decide, by decide⟩, by decide +kernel⟩
theorem lk_RL_29 : lkV RL 29 RX9 yX9_pass cX9_pass 2 (some .int) 1 := ⟨wall_of 722 (by decide +kernel) rfl, wall_of 723 (by decide +kernel) rfl, wall_of 724 (by decide +kernel) rfl, wall_of 1 (by decide +kernel) rfl, wall_of 725 (by decide +kernel) rfl, ⟨by decide, by decide⟩, by decide +kernel⟩
theorem lk_RL_32 : lkV RL 32 RX9 yX9_type cX9_type 2 (some .int) 1 := ⟨wall_of 909 (by decide +kernel) rfl, wall_of 910 (by decide +kernel) rfl, wall_of 911 (by decide +kernel) rfl, wall_of 1 (by decide +kernel) rfl, wall_of 912 (by decide +kernel) rfl, ⟨by decide, by decide⟩, by decide +kernel⟩
theorem lk_RL_36 : lkV RL 36 RX9 yX9_rule cX9_rule 1 (some .int) 0 := ⟨wall_of 731 (by decide +kernel) rfl, wall_of 732 (by decide +kernel) rfl, wall_of 733 (by decide +kernel) rfl, wall_of 1 (by decide +kernel) rfl, wall_of 734 (by decide +kernel) rfl, ⟨by decide, by decide⟩, by decide +kernel⟩
theorem lk_RL_40 : lkV RL 40 RX9 yX9_mend cX9_mend 4 (some .int) 1 := ⟨wall_of 749 (by decide +kernel) rfl, wall_of 750 (by decide +kernel) rfl, wall_of 751 (by decide +kernel) rfl, wall_of 1 (by decide +kernel) rfl, wall_of 752 (by decide +kernel) rfl, ⟨by decide, by decide⟩, by decide +kernel⟩
theorem lk_RL_43 : lkV RL 43 RX9 yX9_commands cX9_commands 2 (some .int) 1 := ⟨wall_of 757 (by decide +kernel) rfl, wall_of 758 (by decide +kernel) rfl, wall_of 759 (by decide +kernel) rfl, wall_of 1 (by decide +kernel) rfl, wall_of 760 (by decide +kernel) rfl, ⟨by decide, by decide⟩, by decide +kernel⟩
theorem lk_RL_46 : lkV RL 46 RX9 yX9_open cX9_open 5 (some .int) 4 := ⟨wall_of 764 (by decide +kernel) rfl, wall_of 765 (by decide +kernel) rfl, wall_of 766 (by decide +kernel) rfl, wall_of 1 (by decide +kernel) rfl, wall_of 767 (by decide +kernel) rfl, ⟨by decide, by decide⟩, by decide +kernel⟩
theorem lk_RL_49 : lkV RL 49 RX9 yX9_close cX9_close 2 (some .int) 1 := ⟨wall_of 778 (by decide +kernel) rfl, wall_of 779 (by decide +kernel) rfl, wall_of 780 (by decide +kernel) rfl, wall_of 1 (by decide +kernel) rfl, wall_of 781 (by decide +kernel) rfl, ⟨by decide, by decide⟩, by decide +kernel⟩
theorem lk_RL_52 : lkV RL 52 RX9 yX9_mark cX9_mark 2 (some .int) 1 := ⟨wall_of 791 (by decide +kernel) rfl, wall_of 792 (by decide +kernel) rfl, wall_of 793 (by decide +kernel) rfl, wall_of 1 (by decide +kernel) rfl, wall_of 794 (by decide +kernel) rfl, ⟨by decide, by decide⟩, by decide +kernel⟩
theorem lk_RL_55 : lkV RL 55 RX9 yX9_cast cX9_cast 4 (some .int) 2 := ⟨wall_of 808 (by decide +kernel) rfl, wall_of 809 (by decide +kernel) rfl, wall_of 810 (by decide +kernel) rfl, wall_of 1 (by decide +kernel) rfl, wall_of 811 (by decide +kernel) rfl, ⟨by decide, by decide⟩, by decide +kernel⟩
theorem lk_RL_59 : lkV RL 59 RX9 yX9_why cX9_why 2 (some .int) 1 := ⟨wall_of 826 (by decide +kernel) rfl, wall_of 827 (by decide +kernel) rfl, wall_of 828 (by decide +kernel) rfl, wall_of 1 (by decide +kernel) rfl, wall_of 829 (by decide +kernel) rfl, ⟨by decide, by decide⟩, by decide +kernel⟩
theorem lk_RL_62 : lkV RL 62 RX9 yX9_read cX9_read 3 (some .int) 2 := ⟨wall_of 839 (by decide +kernel) rfl, wall_of 840 (by decide +kernel) rfl, wall_of 841 (by decide +kernel) rfl, wall_of 1 (by decide +kernel) rfl, wall_of 842 (by decide +kernel) rfl, ⟨by decide, by decide⟩, by decide +kernel⟩
theorem lk_RL_65 : lkV RL 65 RX9 yX9_misread cX9_misread 2 none 1 := ⟨wall_of 848 (by decide +kernel) rfl, wall_of 849 (by decide +kernel) rfl, wall_of 850 (by decide +kernel) rfl, wall_of 1 (by decide +kernel) rfl, wall_of 851 (by decide +kernel) rfl, ⟨by decide, by decide⟩, by decide +kernel⟩
theorem lk_RL_69 : lkV RL 69 RX9 yX9_sample cX9_sample 7 (some .int) 3 := ⟨wall_of 856 (by decide +kernel) rfl, wall_of 857 (by decide +kernel) rfl, wall_of 858 (by decide +kernel) rfl, wall_of 1 (by decide +kernel) rfl, wall_of 859 (by decide +kernel) rfl, ⟨by decide, by decide⟩, by decide +kernel⟩
theorem lk_RL_73 : lkV RL 73 RX9 yX9_recount cX9_recount 4 (some .int) 1 := ⟨wall_of 870 (by decide +kernel) rfl, wall_of 871 (by decide +kernel) rfl, wall_of 872 (by decide +kernel) rfl, wall_of 1 (by decide +kernel) rfl, wall_of 873 (by decide +kernel) rfl, ⟨by decide, by decide⟩, by decide +kernel⟩
theorem lk_RL_76 : lkV RL 76 RX9 yX9_doubt cX9_doubt 2 (some .int) 1 := ⟨wall_of 991 (by decide +kernel) rfl, wall_of 992 (by decide +kernel) rfl, wall_of 993 (by decide +kernel) rfl, wall_of 1 (by decide +kernel) rfl, wall_of 994 (by decide +kernel) rfl, ⟨by decide, by decide⟩, by decide +kernel⟩
theorem lk_RL_79 : lkV RL 79 RX9 yX9_winners cX9_winners 2 (some .int) 1 := ⟨wall_of 877 (by decide +kernel) rfl, wall_of 878 (by decide +kernel) rfl, wall_of 879 (by decide +kernel) rfl, wall_of 1 (by decide +kernel) rfl, wall_of 880 (by decide +kernel) rfl, ⟨by decide, by decide⟩, by decide +kernel⟩
theorem lk_RL_82 : lkV RL 82 RX9 yX9_winnersByHand cX9_winnersByHand 2 (some .int) 1 := ⟨wall_of 949 (by decide +kernel) rfl, wall_of 950 (by decide +kernel) rfl, wall_of 951 (by decide +kernel) rfl, wall_of 1 (by decide +kernel) rfl, wall_of 952 (by decide +kernel) rfl, ⟨by decide, by decide⟩, by decide +kernel⟩
theorem lk_RL_85 : lkV RL 85 RX9 yX9_tallies cX9_tallies 2 (some .int) 1 := ⟨wall_of 935 (by decide +kernel) rfl, wall_of 936 (by decide +kernel) rfl, wall_of 937 (by decide +kernel) rfl, wall_of 1 (by decide +kernel) rfl, wall_of 938 (by decide +kernel) rfl, ⟨by decide, by decide⟩, by decide +kernel⟩
theorem lk_RL_88 : lkV RL 88 RX9 yX9_votes cX9_votes 4 (some .int) 3 := ⟨wall_of 970 (by decide +kernel) rfl, wall_of 971 (by decide +kernel) rfl, wall_of 972 (by decide +kernel) rfl, wall_of 1 (by decide +kernel) rfl, wall_of 973 (by decide +kernel) rfl, ⟨by decide, by decide⟩, by decide +kernel⟩
theorem lk_RL_91 : lkV RL 91 RX9 yX9_ties cX9_ties 2 (some .int) 1 := ⟨wall_of 942 (by decide +kernel) rfl, wall_of 943 (by decide +kernel) rfl, wall_of 944 (by decide +kernel) rfl, wall_of 1 (by decide +kernel) rfl, wall_of 945 (by decide +kernel) rfl, ⟨by decide, by decide⟩, by decide +kernel⟩
theorem lk_RL_94 : lkV RL 94 RX9 yX9_tied cX9_tied 3 (some .int) 2 := ⟨wall_of 983 (by decide +kernel) rfl, wall_of 984 (by decide +kernel) rfl, wall_of 985 (by decide +kernel) rfl, wall_of 1 (by decide +kernel) rfl, wall_of 986 (by decide +kernel) rfl, ⟨by decide, by decide⟩, by decide +kernel⟩
theorem lk_RL_97 : lkV RL 97 RX9 yX9_certify cX9_certify 2 (some .int) 1 := ⟨wall_of 884 (by decide +kernel) rfl, wall_of 885 (by decide +kernel) rfl, wall_of 886 (by decide +kernel) rfl, wall_of 1 (by decide +kernel) rfl, wall_of 887 (by decide +kernel) rfl, ⟨by decide, by decide⟩, by decide +kernel⟩
theorem lk_RL_100 : lkV RL 100 RX9 yX9_certified cX9_certified 2 (some .int) 1 := ⟨wall_of 892 (by decide +kernel) rfl, wall_of 893 (by decide +kernel) rfl, wall_of 894 (by decide +kernel) rfl, wall_of 1 (by decide +kernel) rfl, wall_of 895 (by decide +kernel) rfl, ⟨by decide, by decide⟩, by decide +kernel⟩
