theorem dL_sheet_0 : decode cL_sheet 0 = .ok (.aload_n 2, 1) := by decide +kernel
theorem dL_sheet_1 : decode cL_sheet 1 = .ok (.iconst 0, 1) := by decide +kernel
theorem dL_sheet_2 : decode cL_sheet 2 = .ok (.aload_n 0, 1) := by decide +kernel
theorem dL_sheet_3 : decode cL_sheet 3 = .ok (.iload_n 1, 1) := by decide +kernel
theorem dL_sheet_4 : decode cL_sheet 4 = .ok (.invokevirtual 7, 3) := by decide +kernel
theorem dL_sheet_7 : decode cL_sheet 7 = .ok (.i2l, 1) := by decide +kernel
theorem dL_sheet_8 : decode cL_sheet 8 = .ok (.lastore, 1) := by decide +kernel
theorem dL_sheet_9 : decode cL_sheet 9 = .ok (.goto 9, 3) := by decide +kernel
theorem dL_sheet_12 : decode cL_sheet 12 = .ok (.astore_n 3, 1) := by decide +kernel
theorem dL_sheet_13 : decode cL_sheet 13 = .ok (.iconst 1, 1) := by decide +kernel
theorem dL_sheet_14 : decode cL_sheet 14 = .ok (.ireturn, 1) := by decide +kernel
theorem dL_sheet_15 : decode cL_sheet 15 = .ok (.astore_n 3, 1) := by decide +kernel
theorem dL_sheet_16 : decode cL_sheet 16 = .ok (.iconst 2, 1) := by decide +kernel
theorem dL_sheet_17 : decode cL_sheet 17 = .ok (.ireturn, 1) := by decide +kernel
theorem dL_sheet_18 : decode cL_sheet 18 = .ok (.iconst 0, 1) := by decide +kernel
theorem dL_sheet_19 : decode cL_sheet 19 = .ok (.ireturn, 1) := by decide +kernel
theorem dL_row_0 : decode cL_row 0 = .ok (.aload 4, 2) := by decide +kernel
theorem dL_row_2 : decode cL_row 2 = .ok (.iconst 0, 1) := by decide +kernel
theorem dL_row_3 : decode cL_row 3 = .ok (.aload_n 0, 1) := by decide +kernel
theorem dL_row_4 : decode cL_row 4 = .ok (.iload_n 1, 1) := by decide +kernel
theorem dL_row_5 : decode cL_row 5 = .ok (.iload_n 2, 1) := by decide +kernel
theorem dL_row_6 : decode cL_row 6 = .ok (.iload_n 3, 1) := by decide +kernel
theorem dL_row_7 : decode cL_row 7 = .ok (.invokevirtual 17, 3) := by decide +kernel
theorem dL_row_10 : decode cL_row 10 = .ok (.i2l, 1) := by decide +kernel
theorem dL_row_11 : decode cL_row 11 = .ok (.lastore, 1) := by decide +kernel
theorem dL_row_12 : decode cL_row 12 = .ok (.goto 7, 3) := by decide +kernel
theorem dL_row_15 : decode cL_row 15 = .ok (.astore 5, 2) := by decide +kernel
theorem dL_row_17 : decode cL_row 17 = .ok (.iconst 1, 1) := by decide +kernel
theorem dL_row_18 : decode cL_row 18 = .ok (.ireturn, 1) := by decide +kernel
theorem dL_row_19 : decode cL_row 19 = .ok (.iconst 0, 1) := by decide +kernel
theorem dL_row_20 : decode cL_row 20 = .ok (.ireturn, 1) := by decide +kernel
theorem dL_put_0 : decode cL_put 0 = .ok (.aload 5, 2) := by decide +kernel
theorem dL_put_2 : decode cL_put 2 = .ok (.iconst 0, 1) := by decide +kernel
theorem dL_put_3 : decode cL_put 3 = .ok (.aload_n 0, 1) := by decide +kernel
theorem dL_put_4 : decode cL_put 4 = .ok (.iload_n 1, 1) := by decide +kernel
theorem dL_put_5 : decode cL_put 5 = .ok (.iload_n 2, 1) := by decide +kernel
theorem dL_put_6 : decode cL_put 6 = .ok (.iload_n 3, 1) := by decide +kernel
theorem dL_put_7 : decode cL_put 7 = .ok (.iload 4, 2) := by decide +kernel
theorem dL_put_9 : decode cL_put 9 = .ok (.invokevirtual 23, 3) := by decide +kernel
theorem dL_put_12 : decode cL_put 12 = .ok (.i2l, 1) := by decide +kernel
theorem dL_put_13 : decode cL_put 13 = .ok (.lastore, 1) := by decide +kernel
theorem dL_put_14 : decode cL_put 14 = .ok (.goto 7, 3) := by decide +kernel
theorem dL_put_17 : decode cL_put 17 = .ok (.astore 6, 2) := by decide +kernel
theorem dL_put_19 : decode cL_put 19 = .ok (.iconst 1, 1) := by decide +kernel
theorem dL_put_20 : decode cL_put 20 = .ok (.ireturn, 1) := by decide +kernel
theorem dL_put_21 : decode cL_put 21 = .ok (.iconst 0, 1) := by decide +kernel
theorem dL_put_22 : decode cL_put 22 = .ok (.ireturn, 1) := by decide +kernel
theorem dL_tear_0 : decode cL_tear 0 = .ok (.aload_n 3, 1) := by decide +kernel
theorem dL_tear_1 : decode cL_tear 1 = .ok (.iconst 0, 1) := by decide +kernel
theorem dL_tear_2 : decode cL_tear 2 = .ok (.aload_n 0, 1) := by decide +kernel
theorem dL_tear_3 : decode cL_tear 3 = .ok (.iload_n 1, 1) := by decide +kernel
theorem dL_tear_4 : decode cL_tear 4 = .ok (.iload_n 2, 1) := by decide +kernel
theorem dL_tear_5 : decode cL_tear 5 = .ok (.invokevirtual 27, 3) := by decide +kernel
theorem dL_tear_8 : decode cL_tear 8 = .ok (.i2l, 1) := by decide +kernel
theorem dL_tear_9 : decode cL_tear 9 = .ok (.lastore, 1) := by decide +kernel
theorem dL_tear_10 : decode cL_tear 10 = .ok (.goto 7, 3) := by decide +kernel
theorem dL_tear_13 : decode cL_tear 13 = .ok (.astore 4, 2) := by decide +kernel
theorem dL_tear_15 : decode cL_tear 15 = .ok (.iconst 1, 1) := by decide +kernel
theorem dL_tear_16 : decode cL_tear 16 = .ok (.ireturn, 1) := by decide +kernel
theorem dL_tear_17 : decode cL_tear 17 = .ok (.iconst 0, 1) := by decide +kernel
theorem dL_tear_18 : decode cL_tear 18 = .ok (.ireturn, 1) := by decide +kernel
theorem dL_word_0 : decode cL_word 0 = .ok (.aload_n 3, 1) := by decide +kernel
theorem dL_word_1 : decode cL_word 1 = .ok (.iconst 0, 1) := by decide +kernel
theorem dL_word_2 : decode cL_word 2 = .ok (.aload_n 0, 1) := by decide +kernel
theorem dL_word_3 : decode cL_word 3 = .ok (.iload_n 1, 1) := by decide +kernel
theorem dL_word_4 : decode cL_word 4 = .ok (.iload_n 2, 1) := by decide +kernel
theorem dL_word_5 : decode cL_word 5 = .ok (.invokevirtual 31, 3) := by decide +kernel
theorem dL_word_8 : decode cL_word 8 = .ok (.i2l, 1) := by decide +kernel
theorem dL_word_9 : decode cL_word 9 = .ok (.lastore, 1) := by decide +kernel
theorem dL_word_10 : decode cL_word 10 = .ok (.goto 7, 3) := by decide +kernel
theorem dL_word_13 : decode cL_word 13 = .ok (.astore 4, 2) := by decide +kernel
theorem dL_word_15 : decode cL_word 15 = .ok (.iconst 1, 1) := by decide +kernel
theorem dL_word_16 : decode cL_word 16 = .ok (.ireturn, 1) := by decide +kernel
theorem dL_word_17 : decode cL_word 17 = .ok (.iconst 0, 1) := by decide +kernel
theorem dL_word_18 : decode cL_word 18 = .ok (.ireturn, 1) := by decide +kernel
theorem dL_letter_0 : decode cL_letter 0 = .ok (.aload 4, 2) := by decide +kernel
theorem dL_letter_2 : decode cL_letter 2 = .ok (.iconst 0, 1) := by decide +kernel
theorem dL_letter_3 : decode cL_letter 3 = .ok (.aload_n 0, 1) := by decide +kernel
theorem dL_letter_4 : decode cL_letter 4 = .ok (.iload_n 1, 1) := by decide +kernel
theorem dL_letter_5 : decode cL_letter 5 = .ok (.iload_n 2, 1) := by decide +kernel
theorem dL_letter_6 : decode cL_letter 6 = .ok (.iload_n 3, 1) := by decide +kernel
theorem dL_letter_7 : decode cL_letter 7 = .ok (.invokevirtual 34, 3) := by decide +kernel
theorem dL_letter_10 : decode cL_letter 10 = .ok (.i2l, 1) := by decide +kernel
theorem dL_letter_11 : decode cL_letter 11 = .ok (.lastore, 1) := by decide +kernel
theorem dL_letter_12 : decode cL_letter 12 = .ok (.goto 7, 3) := by decide +kernel
theorem dL_letter_15 : decode cL_letter 15 = .ok (.astore 5, 2) := by decide +kernel
theorem dL_letter_17 : decode cL_letter 17 = .ok (.iconst 1, 1) := by decide +kernel
theorem dL_letter_18 : decode cL_letter 18 = .ok (.ireturn, 1) := by decide +kernel
theorem dL_letter_19 : decode cL_letter 19 = .ok (.iconst 0, 1) := by decide +kernel
theorem dL_letter_20 : decode cL_letter 20 = .ok (.ireturn, 1) := by decide +kernel
theorem dL_law_0 : decode cL_law 0 = .ok (.aload 4, 2) := by decide +kernel
theorem dL_law_2 : decode cL_law 2 = .ok (.iconst 0, 1) := by decide +kernel
theorem dL_law_3 : decode cL_law 3 = .ok (.aload_n 0, 1) := by decide +kernel
theorem dL_law_4 : decode cL_law 4 = .ok (.iload_n 1, 1) := by decide +kernel
theorem dL_law_5 : decode cL_law 5 = .ok (.iload_n 2, 1) := by decide +kernel
theorem dL_law_6 : decode cL_law 6 = .ok (.iload_n 3, 1) := by decide +kernel
theorem dL_law_7 : decode cL_law 7 = .ok (.invokevirtual 37, 3) := by decide +kernel
theorem dL_law_10 : decode cL_law 10 = .ok (.i2l, 1) := by decide +kernel
theorem dL_law_11 : decode cL_law 11 = .ok (.lastore, 1) := by decide +kernel
theorem dL_law_12 : decode cL_law 12 = .ok (.goto 11, 3) := by decide +kernel
theorem dL_law_15 : decode cL_law 15 = .ok (.astore 5, 2) := by decide +kernel
theorem dL_law_17 : decode cL_law 17 = .ok (.iconst 1, 1) := by decide +kernel
theorem dL_law_18 : decode cL_law 18 = .ok (.ireturn, 1) := by decide +kernel
theorem dL_law_19 : decode cL_law 19 = .ok (.astore 5, 2) := by decide +kernel
theorem dL_law_21 : decode cL_law 21 = .ok (.iconst 2, 1) := by decide +kernel
theorem dL_law_22 : decode cL_law 22 = .ok (.ireturn, 1) := by decide +kernel
theorem dL_law_23 : decode cL_law 23 = .ok (.iconst 0, 1) := by decide +kernel
theorem dL_law_24 : decode cL_law 24 = .ok (.ireturn, 1) := by decide +kernel
theorem dL_power_0 : decode cL_power 0 = .ok (.aload 4, 2) := by decide +kernel
theorem dL_power_2 : decode cL_power 2 = .ok (.iconst 0, 1) := by decide +kernel
theorem dL_power_3 : decode cL_power 3 = .ok (.aload_n 0, 1) := by decide +kernel
theorem dL_power_4 : decode cL_power 4 = .ok (.iload_n 1, 1) := by decide +kernel
theorem dL_power_5 : decode cL_power 5 = .ok (.iload_n 2, 1) := by decide +kernel
theorem dL_power_6 : decode cL_power 6 = .ok (.iload_n 3, 1) := by decide +kernel
theorem dL_power_7 : decode cL_power 7 = .ok (.invokevirtual 40, 3) := by decide +kernel
theorem dL_power_10 : decode cL_power 10 = .ok (.i2l, 1) := by decide +kernel
theorem dL_power_11 : decode cL_power 11 = .ok (.lastore, 1) := by decide +kernel
theorem dL_power_12 : decode cL_power 12 = .ok (.goto 11, 3) := by decide +kernel
theorem dL_power_15 : decode cL_power 15 = .ok (.astore 5, 2) := by decide +kernel
theorem dL_power_17 : decode cL_power 17 = .ok (.iconst 1, 1) := by decide +kernel
theorem dL_power_18 : decode cL_power 18 = .ok (.ireturn, 1) := by decide +kernel
theorem dL_power_19 : decode cL_power 19 = .ok (.astore 5, 2) := by decide +kernel
theorem dL_power_21 : decode cL_power 21 = .ok (.iconst 2, 1) := by decide +kernel
theorem dL_power_22 : decode cL_power 22 = .ok (.ireturn, 1) := by decide +kernel
theorem dL_power_23 : decode cL_power 23 = .ok (.iconst 0, 1) := by decide +kernel
theorem dL_power_24 : decode cL_power 24 = .ok (.ireturn, 1) := by decide +kernel
theorem dL_run_0 : decode cL_run 0 = .ok (.aload 5, 2) := by decide +kernel
theorem dL_run_2 : decode cL_run 2 = .ok (.iconst 0, 1) := by decide +kernel
theorem dL_run_3 : decode cL_run 3 = .ok (.aload_n 0, 1) := by decide +kernel
theorem dL_run_4 : decode cL_run 4 = .ok (.iload_n 1, 1) := by decide +kernel
theorem dL_run_5 : decode cL_run 5 = .ok (.iload_n 2, 1) := by decide +kernel
theorem dL_run_6 : decode cL_run 6 = .ok (.iload_n 3, 1) := by decide +kernel
theorem dL_run_7 : decode cL_run 7 = .ok (.iload 4, 2) := by decide +kernel
theorem dL_run_9 : decode cL_run 9 = .ok (.invokevirtual 43, 3) := by decide +kernel
theorem dL_run_12 : decode cL_run 12 = .ok (.i2l, 1) := by decide +kernel
theorem dL_run_13 : decode cL_run 13 = .ok (.lastore, 1) := by decide +kernel
theorem dL_run_14 : decode cL_run 14 = .ok (.goto 11, 3) := by decide +kernel
theorem dL_run_17 : decode cL_run 17 = .ok (.astore 6, 2) := by decide +kernel
theorem dL_run_19 : decode cL_run 19 = .ok (.iconst 1, 1) := by decide +kernel
theorem dL_run_20 : decode cL_run 20 = .ok (.ireturn, 1) := by decide +kernel
theorem dL_run_21 : decode cL_run 21 = .ok (.astore 6, 2) := by decide +kernel
theorem dL_run_23 : decode cL_run 23 = .ok (.iconst 2, 1) := by decide +kernel
theorem dL_run_24 : decode cL_run 24 = .ok (.ireturn, 1) := by decide +kernel
theorem dL_run_25 : decode cL_run 25 = .ok (.iconst 0, 1) := by decide +kernel
theorem dL_run_26 : decode cL_run 26 = .ok (.ireturn, 1) := by decide +kernel
theorem dL_clash_0 : decode cL_clash 0 = .ok (.aload 5, 2) := by decide +kernel
theorem dL_clash_2 : decode cL_clash 2 = .ok (.iconst 0, 1) := by decide +kernel
theorem dL_clash_3 : decode cL_clash 3 = .ok (.aload_n 0, 1) := by decide +kernel
theorem dL_clash_4 : decode cL_clash 4 = .ok (.iload_n 1, 1) := by decide +kernel
theorem dL_clash_5 : decode cL_clash 5 = .ok (.iload_n 2, 1) := by decide +kernel
theorem dL_clash_6 : decode cL_clash 6 = .ok (.iload_n 3, 1) := by decide +kernel
theorem dL_clash_7 : decode cL_clash 7 = .ok (.iload 4, 2) := by decide +kernel
theorem dL_clash_9 : decode cL_clash 9 = .ok (.invokevirtual 46, 3) := by decide +kernel
theorem dL_clash_12 : decode cL_clash 12 = .ok (.i2l, 1) := by decide +kernel
theorem dL_clash_13 : decode cL_clash 13 = .ok (.lastore, 1) := by decide +kernel
theorem dL_clash_14 : decode cL_clash 14 = .ok (.goto 11, 3) := by decide +kernel
theorem dL_clash_17 : decode cL_clash 17 = .ok (.astore 6, 2) := by decide +kernel
theorem dL_clash_19 : decode cL_clash 19 = .ok (.iconst 1, 1) := by decide +kernel
theorem dL_clash_20 : decode cL_clash 20 = .ok (.ireturn, 1) := by decide +kernel
theorem dL_clash_21 : decode cL_clash 21 = .ok (.astore 6, 2) := by decide +kernel
theorem dL_clash_23 : decode cL_clash 23 = .ok (.iconst 2, 1) := by decide +kernel
theorem dL_clash_24 : decode cL_clash 24 = .ok (.ireturn, 1) := by decide +kernel
theorem dL_clash_25 : decode cL_clash 25 = .ok (.iconst 0, 1) := by decide +kernel
theorem dL_clash_26 : decode cL_clash 26 = .ok (.ireturn, 1) := by decide +kernel
theorem dL_many_0 : decode cL_many 0 = .ok (.aload 4, 2) := by decide +kernel
theorem dL_many_2 : decode cL_many 2 = .ok (.iconst 0, 1) := by decide +kernel
theorem dL_many_3 : decode cL_many 3 = .ok (.aload_n 0, 1) := by decide +kernel
theorem dL_many_4 : decode cL_many 4 = .ok (.iload_n 1, 1) := by decide +kernel
theorem dL_many_5 : decode cL_many 5 = .ok (.iload_n 2, 1) := by decide +kernel
theorem dL_many_6 : decode cL_many 6 = .ok (.iload_n 3, 1) := by decide +kernel
theorem dL_many_7 : decode cL_many 7 = .ok (.invokevirtual 49, 3) := by decide +kernel
theorem dL_many_10 : decode cL_many 10 = .ok (.i2l, 1) := by decide +kernel
theorem dL_many_11 : decode cL_many 11 = .ok (.lastore, 1) := by decide +kernel
theorem dL_many_12 : decode cL_many 12 = .ok (.goto 7, 3) := by decide +kernel
theorem dL_many_15 : decode cL_many 15 = .ok (.astore 5, 2) := by decide +kernel
theorem dL_many_17 : decode cL_many 17 = .ok (.iconst 1, 1) := by decide +kernel
theorem dL_many_18 : decode cL_many 18 = .ok (.ireturn, 1) := by decide +kernel
theorem dL_many_19 : decode cL_many 19 = .ok (.iconst 0, 1) := by decide +kernel
theorem dL_many_20 : decode cL_many 20 = .ok (.ireturn, 1) := by decide +kernel
theorem dL_find_0 : decode cL_find 0 = .ok (.aload 6, 2) := by decide +kernel
theorem dL_find_2 : decode cL_find 2 = .ok (.iconst 0, 1) := by decide +kernel
theorem dL_find_3 : decode cL_find 3 = .ok (.aload_n 0, 1) := by decide +kernel
theorem dL_find_4 : decode cL_find 4 = .ok (.iload_n 1, 1) := by decide +kernel
theorem dL_find_5 : decode cL_find 5 = .ok (.iload_n 2, 1) := by decide +kernel
theorem dL_find_6 : decode cL_find 6 = .ok (.iload_n 3, 1) := by decide +kernel
theorem dL_find_7 : decode cL_find 7 = .ok (.iload 4, 2) := by decide +kernel
theorem dL_find_9 : decode cL_find 9 = .ok (.iload 5, 2) := by decide +kernel
theorem dL_find_11 : decode cL_find 11 = .ok (.invokevirtual 52, 3) := by decide +kernel
theorem dL_find_14 : decode cL_find 14 = .ok (.i2l, 1) := by decide +kernel
theorem dL_find_15 : decode cL_find 15 = .ok (.lastore, 1) := by decide +kernel
theorem dL_find_16 : decode cL_find 16 = .ok (.goto 11, 3) := by decide +kernel
theorem dL_find_19 : decode cL_find 19 = .ok (.astore 7, 2) := by decide +kernel
theorem dL_find_21 : decode cL_find 21 = .ok (.iconst 1, 1) := by decide +kernel
theorem dL_find_22 : decode cL_find 22 = .ok (.ireturn, 1) := by decide +kernel
theorem dL_find_23 : decode cL_find 23 = .ok (.astore 7, 2) := by decide +kernel
theorem dL_find_25 : decode cL_find 25 = .ok (.iconst 2, 1) := by decide +kernel
theorem dL_find_26 : decode cL_find 26 = .ok (.ireturn, 1) := by decide +kernel
theorem dL_find_27 : decode cL_find 27 = .ok (.iconst 0, 1) := by decide +kernel
theorem dL_find_28 : decode cL_find 28 = .ok (.ireturn, 1) := by decide +kernel
theorem dL_rank_0 : decode cL_rank 0 = .ok (.aload 5, 2) := by decide +kernel
theorem dL_rank_2 : decode cL_rank 2 = .ok (.iconst 0, 1) := by decide +kernel
theorem dL_rank_3 : decode cL_rank 3 = .ok (.aload_n 0, 1) := by decide +kernel
theorem dL_rank_4 : decode cL_rank 4 = .ok (.iload_n 1, 1) := by decide +kernel
theorem dL_rank_5 : decode cL_rank 5 = .ok (.iload_n 2, 1) := by decide +kernel
theorem dL_rank_6 : decode cL_rank 6 = .ok (.iload_n 3, 1) := by decide +kernel
theorem dL_rank_7 : decode cL_rank 7 = .ok (.iload 4, 2) := by decide +kernel
theorem dL_rank_9 : decode cL_rank 9 = .ok (.invokevirtual 56, 3) := by decide +kernel
theorem dL_rank_12 : decode cL_rank 12 = .ok (.i2l, 1) := by decide +kernel
theorem dL_rank_13 : decode cL_rank 13 = .ok (.lastore, 1) := by decide +kernel
theorem dL_rank_14 : decode cL_rank 14 = .ok (.goto 11, 3) := by decide +kernel
theorem dL_rank_17 : decode cL_rank 17 = .ok (.astore 6, 2) := by decide +kernel
theorem dL_rank_19 : decode cL_rank 19 = .ok (.iconst 1, 1) := by decide +kernel
theorem dL_rank_20 : decode cL_rank 20 = .ok (.ireturn, 1) := by decide +kernel
theorem dL_rank_21 : decode cL_rank 21 = .ok (.astore 6, 2) := by decide +kernel
theorem dL_rank_23 : decode cL_rank 23 = .ok (.iconst 2, 1) := by decide +kernel
theorem dL_rank_24 : decode cL_rank 24 = .ok (.ireturn, 1) := by decide +kernel
theorem dL_rank_25 : decode cL_rank 25 = .ok (.iconst 0, 1) := by decide +kernel
theorem dL_rank_26 : decode cL_rank 26 = .ok (.ireturn, 1) := by decide +kernel
theorem dL_longest_0 : decode cL_longest 0 = .ok (.aload_n 3, 1) := by decide +kernel
theorem dL_longest_1 : decode cL_longest 1 = .ok (.iconst 0, 1) := by decide +kernel
theorem dL_longest_2 : decode cL_longest 2 = .ok (.aload_n 0, 1) := by decide +kernel
theorem dL_longest_3 : decode cL_longest 3 = .ok (.iload_n 1, 1) := by decide +kernel
theorem dL_longest_4 : decode cL_longest 4 = .ok (.iload_n 2, 1) := by decide +kernel
theorem dL_longest_5 : decode cL_longest 5 = .ok (.invokevirtual 59, 3) := by decide +kernel
theorem dL_longest_8 : decode cL_longest 8 = .ok (.i2l, 1) := by decide +kernel
theorem dL_longest_9 : decode cL_longest 9 = .ok (.lastore, 1) := by decide +kernel
theorem dL_longest_10 : decode cL_longest 10 = .ok (.goto 7, 3) := by decide +kernel
theorem dL_longest_13 : decode cL_longest 13 = .ok (.astore 4, 2) := by decide +kernel
theorem dL_longest_15 : decode cL_longest 15 = .ok (.iconst 1, 1) := by decide +kernel
theorem dL_longest_16 : decode cL_longest 16 = .ok (.ireturn, 1) := by decide +kernel
theorem dL_longest_17 : decode cL_longest 17 = .ok (.iconst 0, 1) := by decide +kernel
theorem dL_longest_18 : decode cL_longest 18 = .ok (.ireturn, 1) := by decide +kernel
theorem dL_map_0 : decode cL_map 0 = .ok (.aload 5, 2) := by decide +kernel
theorem dL_map_2 : decode cL_map 2 = .ok (.iconst 0, 1) := by decide +kernel
theorem dL_map_3 : decode cL_map 3 = .ok (.aload_n 0, 1) := by decide +kernel
theorem dL_map_4 : decode cL_map 4 = .ok (.iload_n 1, 1) := by decide +kernel
theorem dL_map_5 : decode cL_map 5 = .ok (.iload_n 2, 1) := by decide +kernel
theorem dL_map_6 : decode cL_map 6 = .ok (.iload_n 3, 1) := by decide +kernel
theorem dL_map_7 : decode cL_map 7 = .ok (.iload 4, 2) := by decide +kernel
theorem dL_map_9 : decode cL_map 9 = .ok (.invokevirtual 62, 3) := by decide +kernel
theorem dL_map_12 : decode cL_map 12 = .ok (.i2l, 1) := by decide +kernel
theorem dL_map_13 : decode cL_map 13 = .ok (.lastore, 1) := by decide +kernel
theorem dL_map_14 : decode cL_map 14 = .ok (.goto 11, 3) := by decide +kernel
theorem dL_map_17 : decode cL_map 17 = .ok (.astore 6, 2) := by decide +kernel
theorem dL_map_19 : decode cL_map 19 = .ok (.iconst 1, 1) := by decide +kernel
theorem dL_map_20 : decode cL_map 20 = .ok (.ireturn, 1) := by decide +kernel
theorem dL_map_21 : decode cL_map 21 = .ok (.astore 6, 2) := by decide +kernel
theorem dL_map_23 : decode cL_map 23 = .ok (.iconst 2, 1) := by decide +kernel
theorem dL_map_24 : decode cL_map 24 = .ok (.ireturn, 1) := by decide +kernel
theorem dL_map_25 : decode cL_map 25 = .ok (.iconst 0, 1) := by decide +kernel
theorem dL_map_26 : decode cL_map 26 = .ok (.ireturn, 1) := by decide +kernel
theorem dL_image_0 : decode cL_image 0 = .ok (.aload 5, 2) := by decide +kernel
theorem dL_image_2 : decode cL_image 2 = .ok (.iconst 0, 1) := by decide +kernel
theorem dL_image_3 : decode cL_image 3 = .ok (.aload_n 0, 1) := by decide +kernel
theorem dL_image_4 : decode cL_image 4 = .ok (.iload_n 1, 1) := by decide +kernel
theorem dL_image_5 : decode cL_image 5 = .ok (.iload_n 2, 1) := by decide +kernel
theorem dL_image_6 : decode cL_image 6 = .ok (.iload_n 3, 1) := by decide +kernel
theorem dL_image_7 : decode cL_image 7 = .ok (.iload 4, 2) := by decide +kernel
theorem dL_image_9 : decode cL_image 9 = .ok (.invokevirtual 65, 3) := by decide +kernel
theorem dL_image_12 : decode cL_image 12 = .ok (.i2l, 1) := by decide +kernel
theorem dL_image_13 : decode cL_image 13 = .ok (.lastore, 1) := by decide +kernel
theorem dL_image_14 : decode cL_image 14 = .ok (.goto 11, 3) := by decide +kernel
theorem dL_image_17 : decode cL_image 17 = .ok (.astore 6, 2) := by decide +kernel
theorem dL_image_19 : decode cL_image 19 = .ok (.iconst 1, 1) := by decide +kernel
theorem dL_image_20 : decode cL_image 20 = .ok (.ireturn, 1) := by decide +kernel
theorem dL_image_21 : decode cL_image 21 = .ok (.astore 6, 2) := by decide +kernel
theorem dL_image_23 : decode cL_image 23 = .ok (.iconst 2, 1) := by decide +kernel
theorem dL_image_24 : decode cL_image 24 = .ok (.ireturn, 1) := by decide +kernel
theorem dL_image_25 : decode cL_image 25 = .ok (.iconst 0, 1) := by decide +kernel
theorem dL_image_26 : decode cL_image 26 = .ok (.ireturn, 1) := by decide +kernel
theorem dL_keeps_0 : decode cL_keeps 0 = .ok (.aload_n 3, 1) := by decide +kernel
theorem dL_keeps_1 : decode cL_keeps 1 = .ok (.iconst 0, 1) := by decide +kernel
theorem dL_keeps_2 : decode cL_keeps 2 = .ok (.aload_n 0, 1) := by decide +kernel
theorem dL_keeps_3 : decode cL_keeps 3 = .ok (.iload_n 1, 1) := by decide +kernel
theorem dL_keeps_4 : decode cL_keeps 4 = .ok (.iload_n 2, 1) := by decide +kernel
theorem dL_keeps_5 : decode cL_keeps 5 = .ok (.invokevirtual 70, 3) := by decide +kernel
theorem dL_keeps_8 : decode cL_keeps 8 = .ok (.i2l, 1) := by decide +kernel
theorem dL_keeps_9 : decode cL_keeps 9 = .ok (.lastore, 1) := by decide +kernel
theorem dL_keeps_10 : decode cL_keeps 10 = .ok (.goto 11, 3) := by decide +kernel
theorem dL_keeps_13 : decode cL_keeps 13 = .ok (.astore 4, 2) := by decide +kernel
theorem dL_keeps_15 : decode cL_keeps 15 = .ok (.iconst 1, 1) := by decide +kernel
theorem dL_keeps_16 : decode cL_keeps 16 = .ok (.ireturn, 1) := by decide +kernel
theorem dL_keeps_17 : decode cL_keeps 17 = .ok (.astore 4, 2) := by decide +kernel
theorem dL_keeps_19 : decode cL_keeps 19 = .ok (.iconst 2, 1) := by decide +kernel
theorem dL_keeps_20 : decode cL_keeps 20 = .ok (.ireturn, 1) := by decide +kernel
theorem dL_keeps_21 : decode cL_keeps 21 = .ok (.iconst 0, 1) := by decide +kernel
theorem dL_keeps_22 : decode cL_keeps 22 = .ok (.ireturn, 1) := by decide +kernel
theorem dL_at_0 : decode cL_at 0 = .ok (.aload 4, 2) := by decide +kernel
theorem dL_at_2 : decode cL_at 2 = .ok (.iconst 0, 1) := by decide +kernel
theorem dL_at_3 : decode cL_at 3 = .ok (.aload_n 0, 1) := by decide +kernel
theorem dL_at_4 : decode cL_at 4 = .ok (.iload_n 1, 1) := by decide +kernel
theorem dL_at_5 : decode cL_at 5 = .ok (.iload_n 2, 1) := by decide +kernel
theorem dL_at_6 : decode cL_at 6 = .ok (.iload_n 3, 1) := by decide +kernel
theorem dL_at_7 : decode cL_at 7 = .ok (.invokevirtual 73, 3) := by decide +kernel
theorem dL_at_10 : decode cL_at 10 = .ok (.i2l, 1) := by decide +kernel
theorem dL_at_11 : decode cL_at 11 = .ok (.lastore, 1) := by decide +kernel
theorem dL_at_12 : decode cL_at 12 = .ok (.goto 7, 3) := by decide +kernel
theorem dL_at_15 : decode cL_at 15 = .ok (.astore 5, 2) := by decide +kernel
theorem dL_at_17 : decode cL_at 17 = .ok (.iconst 1, 1) := by decide +kernel
theorem dL_at_18 : decode cL_at 18 = .ok (.ireturn, 1) := by decide +kernel
theorem dL_at_19 : decode cL_at 19 = .ok (.iconst 0, 1) := by decide +kernel
theorem dL_at_20 : decode cL_at 20 = .ok (.ireturn, 1) := by decide +kernel
theorem dL_shape_0 : decode cL_shape 0 = .ok (.aload_n 3, 1) := by decide +kernel
theorem dL_shape_1 : decode cL_shape 1 = .ok (.iconst 0, 1) := by decide +kernel
theorem dL_shape_2 : decode cL_shape 2 = .ok (.aload_n 0, 1) := by decide +kernel
theorem dL_shape_3 : decode cL_shape 3 = .ok (.iload_n 1, 1) := by decide +kernel
theorem dL_shape_4 : decode cL_shape 4 = .ok (.iload_n 2, 1) := by decide +kernel
theorem dL_shape_5 : decode cL_shape 5 = .ok (.invokevirtual 76, 3) := by decide +kernel
theorem dL_shape_8 : decode cL_shape 8 = .ok (.i2l, 1) := by decide +kernel
theorem dL_shape_9 : decode cL_shape 9 = .ok (.lastore, 1) := by decide +kernel
theorem dL_shape_10 : decode cL_shape 10 = .ok (.goto 11, 3) := by decide +kernel
theorem dL_shape_13 : decode cL_shape 13 = .ok (.astore 4, 2) := by decide +kernel
theorem dL_shape_15 : decode cL_shape 15 = .ok (.iconst 1, 1) := by decide +kernel
theorem dL_shape_16 : decode cL_shape 16 = .ok (.ireturn, 1) := by decide +kernel
theorem dL_shape_17 : decode cL_shape 17 = .ok (.astore 4, 2) := by decide +kernel
theorem dL_shape_19 : decode cL_shape 19 = .ok (.iconst 2, 1) := by decide +kernel
theorem dL_shape_20 : decode cL_shape 20 = .ok (.ireturn, 1) := by decide +kernel
theorem dL_shape_21 : decode cL_shape 21 = .ok (.iconst 0, 1) := by decide +kernel
theorem dL_shape_22 : decode cL_shape 22 = .ok (.ireturn, 1) := by decide +kernel
theorem dL_law__0 : decode cL_law_ 0 = .ok (.new 8, 3) := by decide +kernel
theorem dL_law__3 : decode cL_law_ 3 = .ok (.dup, 1) := by decide +kernel
theorem dL_law__4 : decode cL_law_ 4 = .ok (.invokespecial 79, 3) := by decide +kernel
theorem dL_law__7 : decode cL_law_ 7 = .ok (.astore_n 1, 1) := by decide +kernel
theorem dL_law__8 : decode cL_law_ 8 = .ok (.new 80, 3) := by decide +kernel
theorem dL_law__11 : decode cL_law_ 11 = .ok (.dup, 1) := by decide +kernel
theorem dL_law__12 : decode cL_law_ 12 = .ok (.invokespecial 82, 3) := by decide +kernel
theorem dL_law__15 : decode cL_law_ 15 = .ok (.astore_n 2, 1) := by decide +kernel
theorem dL_law__16 : decode cL_law_ 16 = .ok (.iconst 1, 1) := by decide +kernel
theorem dL_law__17 : decode cL_law_ 17 = .ok (.newarray .long, 2) := by decide +kernel
theorem dL_law__19 : decode cL_law_ 19 = .ok (.astore_n 3, 1) := by decide +kernel
theorem dL_law__20 : decode cL_law_ 20 = .ok (.iconst 0, 1) := by decide +kernel
theorem dL_law__21 : decode cL_law_ 21 = .ok (.istore 4, 2) := by decide +kernel
theorem dL_law__23 : decode cL_law_ 23 = .ok (.iload 4, 2) := by decide +kernel
theorem dL_law__25 : decode cL_law_ 25 = .ok (.aload_n 0, 1) := by decide +kernel
theorem dL_law__26 : decode cL_law_ 26 = .ok (.arraylength, 1) := by decide +kernel
theorem dL_law__27 : decode cL_law_ 27 = .ok (.bipush 6, 2) := by decide +kernel
theorem dL_law__29 : decode cL_law_ 29 = .ok (.isub, 1) := by decide +kernel
theorem dL_law__30 : decode cL_law_ 30 = .ok (.if_icmp .gt 1669, 3) := by decide +kernel
theorem dL_law__33 : decode cL_law_ 33 = .ok (.aload_n 0, 1) := by decide +kernel
theorem dL_law__34 : decode cL_law_ 34 = .ok (.iload 4, 2) := by decide +kernel
theorem dL_law__36 : decode cL_law_ 36 = .ok (.iaload, 1) := by decide +kernel
theorem dL_law__37 : decode cL_law_ 37 = .ok (.bipush 31, 2) := by decide +kernel
theorem dL_law__39 : decode cL_law_ 39 = .ok (.iand, 1) := by decide +kernel
theorem dL_law__40 : decode cL_law_ 40 = .ok (.tableswitch 1653 0 19 #[96, 152, 232, 324, 392, 460, 540, 620, 645, 725, 817, 909, 989, 1093, 1185, 1253, 1345, 1437, 1505, 1585], 96) := by decide +kernel
theorem dL_law__136 : decode cL_law_ 136 = .ok (.aload_n 1, 1) := by decide +kernel
theorem dL_law__137 : decode cL_law_ 137 = .ok (.aload_n 0, 1) := by decide +kernel
theorem dL_law__138 : decode cL_law_ 138 = .ok (.iload 4, 2) := by decide +kernel
theorem dL_law__140 : decode cL_law_ 140 = .ok (.iconst 1, 1) := by decide +kernel
theorem dL_law__141 : decode cL_law_ 141 = .ok (.iadd, 1) := by decide +kernel
theorem dL_law__142 : decode cL_law_ 142 = .ok (.iaload, 1) := by decide +kernel
theorem dL_law__143 : decode cL_law_ 143 = .ok (.aload_n 3, 1) := by decide +kernel
theorem dL_law__144 : decode cL_law_ 144 = .ok (.invokestatic 83, 3) := by decide +kernel
theorem dL_law__147 : decode cL_law_ 147 = .ok (.istore 5, 2) := by decide +kernel
theorem dL_law__149 : decode cL_law_ 149 = .ok (.aload_n 2, 1) := by decide +kernel
theorem dL_law__150 : decode cL_law_ 150 = .ok (.aload_n 0, 1) := by decide +kernel
theorem dL_law__151 : decode cL_law_ 151 = .ok (.iload 4, 2) := by decide +kernel
theorem dL_law__153 : decode cL_law_ 153 = .ok (.iconst 1, 1) := by decide +kernel
theorem dL_law__154 : decode cL_law_ 154 = .ok (.iadd, 1) := by decide +kernel
theorem dL_law__155 : decode cL_law_ 155 = .ok (.iaload, 1) := by decide +kernel
theorem dL_law__156 : decode cL_law_ 156 = .ok (.invokevirtual 88, 3) := by decide +kernel
theorem dL_law__159 : decode cL_law_ 159 = .ok (.istore 6, 2) := by decide +kernel
theorem dL_law__161 : decode cL_law_ 161 = .ok (.aload_n 2, 1) := by decide +kernel
theorem dL_law__162 : decode cL_law_ 162 = .ok (.invokevirtual 89, 3) := by decide +kernel
theorem dL_law__165 : decode cL_law_ 165 = .ok (.iload 5, 2) := by decide +kernel
theorem dL_law__167 : decode cL_law_ 167 = .ok (.if_icmp .eq 5, 3) := by decide +kernel
theorem dL_law__170 : decode cL_law_ 170 = .ok (.iconst 0, 1) := by decide +kernel
theorem dL_law__171 : decode cL_law_ 171 = .ok (.ireturn, 1) := by decide +kernel
theorem dL_law__172 : decode cL_law_ 172 = .ok (.iload 5, 2) := by decide +kernel
theorem dL_law__174 : decode cL_law_ 174 = .ok (.ifCond .ne 15, 3) := by decide +kernel
theorem dL_law__177 : decode cL_law_ 177 = .ok (.aload_n 3, 1) := by decide +kernel
theorem dL_law__178 : decode cL_law_ 178 = .ok (.iconst 0, 1) := by decide +kernel
theorem dL_law__179 : decode cL_law_ 179 = .ok (.laload, 1) := by decide +kernel
theorem dL_law__180 : decode cL_law_ 180 = .ok (.iload 6, 2) := by decide +kernel
theorem dL_law__182 : decode cL_law_ 182 = .ok (.i2l, 1) := by decide +kernel
theorem dL_law__183 : decode cL_law_ 183 = .ok (.lcmp, 1) := by decide +kernel
theorem dL_law__184 : decode cL_law_ 184 = .ok (.ifCond .eq 5, 3) := by decide +kernel
theorem dL_law__187 : decode cL_law_ 187 = .ok (.iconst 0, 1) := by decide +kernel
theorem dL_law__188 : decode cL_law_ 188 = .ok (.ireturn, 1) := by decide +kernel
theorem dL_law__189 : decode cL_law_ 189 = .ok (.goto 1504, 3) := by decide +kernel
theorem dL_law__192 : decode cL_law_ 192 = .ok (.aload_n 1, 1) := by decide +kernel
theorem dL_law__193 : decode cL_law_ 193 = .ok (.aload_n 0, 1) := by decide +kernel
theorem dL_law__194 : decode cL_law_ 194 = .ok (.iload 4, 2) := by decide +kernel
theorem dL_law__196 : decode cL_law_ 196 = .ok (.iconst 1, 1) := by decide +kernel
theorem dL_law__197 : decode cL_law_ 197 = .ok (.iadd, 1) := by decide +kernel
theorem dL_law__198 : decode cL_law_ 198 = .ok (.iaload, 1) := by decide +kernel
theorem dL_law__199 : decode cL_law_ 199 = .ok (.aload_n 0, 1) := by decide +kernel
theorem dL_law__200 : decode cL_law_ 200 = .ok (.iload 4, 2) := by decide +kernel
theorem dL_law__202 : decode cL_law_ 202 = .ok (.iconst 2, 1) := by decide +kernel
theorem dL_law__203 : decode cL_law_ 203 = .ok (.iadd, 1) := by decide +kernel
theorem dL_law__204 : decode cL_law_ 204 = .ok (.iaload, 1) := by decide +kernel
theorem dL_law__205 : decode cL_law_ 205 = .ok (.aload_n 0, 1) := by decide +kernel
theorem dL_law__206 : decode cL_law_ 206 = .ok (.iload 4, 2) := by decide +kernel
theorem dL_law__208 : decode cL_law_ 208 = .ok (.iconst 3, 1) := by decide +kernel
theorem dL_law__209 : decode cL_law_ 209 = .ok (.iadd, 1) := by decide +kernel
theorem dL_law__210 : decode cL_law_ 210 = .ok (.iaload, 1) := by decide +kernel
theorem dL_law__211 : decode cL_law_ 211 = .ok (.aload_n 3, 1) := by decide +kernel
theorem dL_law__212 : decode cL_law_ 212 = .ok (.invokestatic 93, 3) := by decide +kernel
theorem dL_law__215 : decode cL_law_ 215 = .ok (.istore 5, 2) := by decide +kernel
theorem dL_law__217 : decode cL_law_ 217 = .ok (.aload_n 2, 1) := by decide +kernel
theorem dL_law__218 : decode cL_law_ 218 = .ok (.aload_n 0, 1) := by decide +kernel
theorem dL_law__219 : decode cL_law_ 219 = .ok (.iload 4, 2) := by decide +kernel
theorem dL_law__221 : decode cL_law_ 221 = .ok (.iconst 1, 1) := by decide +kernel
theorem dL_law__222 : decode cL_law_ 222 = .ok (.iadd, 1) := by decide +kernel
theorem dL_law__223 : decode cL_law_ 223 = .ok (.iaload, 1) := by decide +kernel
theorem dL_law__224 : decode cL_law_ 224 = .ok (.aload_n 0, 1) := by decide +kernel
theorem dL_law__225 : decode cL_law_ 225 = .ok (.iload 4, 2) := by decide +kernel
theorem dL_law__227 : decode cL_law_ 227 = .ok (.iconst 2, 1) := by decide +kernel
theorem dL_law__228 : decode cL_law_ 228 = .ok (.iadd, 1) := by decide +kernel
theorem dL_law__229 : decode cL_law_ 229 = .ok (.iaload, 1) := by decide +kernel
theorem dL_law__230 : decode cL_law_ 230 = .ok (.aload_n 0, 1) := by decide +kernel
theorem dL_law__231 : decode cL_law_ 231 = .ok (.iload 4, 2) := by decide +kernel
theorem dL_law__233 : decode cL_law_ 233 = .ok (.iconst 3, 1) := by decide +kernel
theorem dL_law__234 : decode cL_law_ 234 = .ok (.iadd, 1) := by decide +kernel
theorem dL_law__235 : decode cL_law_ 235 = .ok (.iaload, 1) := by decide +kernel
theorem dL_law__236 : decode cL_law_ 236 = .ok (.invokevirtual 96, 3) := by decide +kernel
theorem dL_law__239 : decode cL_law_ 239 = .ok (.istore 6, 2) := by decide +kernel
theorem dL_law__241 : decode cL_law_ 241 = .ok (.aload_n 2, 1) := by decide +kernel
theorem dL_law__242 : decode cL_law_ 242 = .ok (.invokevirtual 89, 3) := by decide +kernel
theorem dL_law__245 : decode cL_law_ 245 = .ok (.iload 5, 2) := by decide +kernel
theorem dL_law__247 : decode cL_law_ 247 = .ok (.if_icmp .eq 5, 3) := by decide +kernel
theorem dL_law__250 : decode cL_law_ 250 = .ok (.iconst 0, 1) := by decide +kernel
theorem dL_law__251 : decode cL_law_ 251 = .ok (.ireturn, 1) := by decide +kernel
theorem dL_law__252 : decode cL_law_ 252 = .ok (.iload 5, 2) := by decide +kernel
theorem dL_law__254 : decode cL_law_ 254 = .ok (.ifCond .ne 15, 3) := by decide +kernel
theorem dL_law__257 : decode cL_law_ 257 = .ok (.aload_n 3, 1) := by decide +kernel
theorem dL_law__258 : decode cL_law_ 258 = .ok (.iconst 0, 1) := by decide +kernel
theorem dL_law__259 : decode cL_law_ 259 = .ok (.laload, 1) := by decide +kernel
theorem dL_law__260 : decode cL_law_ 260 = .ok (.iload 6, 2) := by decide +kernel
theorem dL_law__262 : decode cL_law_ 262 = .ok (.i2l, 1) := by decide +kernel
theorem dL_law__263 : decode cL_law_ 263 = .ok (.lcmp, 1) := by decide +kernel
theorem dL_law__264 : decode cL_law_ 264 = .ok (.ifCond .eq 5, 3) := by decide +kernel
theorem dL_law__267 : decode cL_law_ 267 = .ok (.iconst 0, 1) := by decide +kernel
theorem dL_law__268 : decode cL_law_ 268 = .ok (.ireturn, 1) := by decide +kernel
theorem dL_law__269 : decode cL_law_ 269 = .ok (.goto 1424, 3) := by decide +kernel
theorem dL_law__272 : decode cL_law_ 272 = .ok (.aload_n 1, 1) := by decide +kernel
theorem dL_law__273 : decode cL_law_ 273 = .ok (.aload_n 0, 1) := by decide +kernel
theorem dL_law__274 : decode cL_law_ 274 = .ok (.iload 4, 2) := by decide +kernel
theorem dL_law__276 : decode cL_law_ 276 = .ok (.iconst 1, 1) := by decide +kernel
theorem dL_law__277 : decode cL_law_ 277 = .ok (.iadd, 1) := by decide +kernel
theorem dL_law__278 : decode cL_law_ 278 = .ok (.iaload, 1) := by decide +kernel
theorem dL_law__279 : decode cL_law_ 279 = .ok (.aload_n 0, 1) := by decide +kernel
theorem dL_law__280 : decode cL_law_ 280 = .ok (.iload 4, 2) := by decide +kernel
theorem dL_law__282 : decode cL_law_ 282 = .ok (.iconst 2, 1) := by decide +kernel
theorem dL_law__283 : decode cL_law_ 283 = .ok (.iadd, 1) := by decide +kernel
theorem dL_law__284 : decode cL_law_ 284 = .ok (.iaload, 1) := by decide +kernel
theorem dL_law__285 : decode cL_law_ 285 = .ok (.aload_n 0, 1) := by decide +kernel
theorem dL_law__286 : decode cL_law_ 286 = .ok (.iload 4, 2) := by decide +kernel
theorem dL_law__288 : decode cL_law_ 288 = .ok (.iconst 3, 1) := by decide +kernel
theorem dL_law__289 : decode cL_law_ 289 = .ok (.iadd, 1) := by decide +kernel
theorem dL_law__290 : decode cL_law_ 290 = .ok (.iaload, 1) := by decide +kernel
theorem dL_law__291 : decode cL_law_ 291 = .ok (.aload_n 0, 1) := by decide +kernel
theorem dL_law__292 : decode cL_law_ 292 = .ok (.iload 4, 2) := by decide +kernel
theorem dL_law__294 : decode cL_law_ 294 = .ok (.iconst 4, 1) := by decide +kernel
theorem dL_law__295 : decode cL_law_ 295 = .ok (.iadd, 1) := by decide +kernel
theorem dL_law__296 : decode cL_law_ 296 = .ok (.iaload, 1) := by decide +kernel
theorem dL_law__297 : decode cL_law_ 297 = .ok (.aload_n 3, 1) := by decide +kernel
theorem dL_law__298 : decode cL_law_ 298 = .ok (.invokestatic 97, 3) := by decide +kernel
theorem dL_law__301 : decode cL_law_ 301 = .ok (.istore 5, 2) := by decide +kernel
theorem dL_law__303 : decode cL_law_ 303 = .ok (.aload_n 2, 1) := by decide +kernel
theorem dL_law__304 : decode cL_law_ 304 = .ok (.aload_n 0, 1) := by decide +kernel
theorem dL_law__305 : decode cL_law_ 305 = .ok (.iload 4, 2) := by decide +kernel
theorem dL_law__307 : decode cL_law_ 307 = .ok (.iconst 1, 1) := by decide +kernel
theorem dL_law__308 : decode cL_law_ 308 = .ok (.iadd, 1) := by decide +kernel
theorem dL_law__309 : decode cL_law_ 309 = .ok (.iaload, 1) := by decide +kernel
theorem dL_law__310 : decode cL_law_ 310 = .ok (.aload_n 0, 1) := by decide +kernel
theorem dL_law__311 : decode cL_law_ 311 = .ok (.iload 4, 2) := by decide +kernel
theorem dL_law__313 : decode cL_law_ 313 = .ok (.iconst 2, 1) := by decide +kernel
theorem dL_law__314 : decode cL_law_ 314 = .ok (.iadd, 1) := by decide +kernel
theorem dL_law__315 : decode cL_law_ 315 = .ok (.iaload, 1) := by decide +kernel
theorem dL_law__316 : decode cL_law_ 316 = .ok (.aload_n 0, 1) := by decide +kernel
theorem dL_law__317 : decode cL_law_ 317 = .ok (.iload 4, 2) := by decide +kernel
theorem dL_law__319 : decode cL_law_ 319 = .ok (.iconst 3, 1) := by decide +kernel
theorem dL_law__320 : decode cL_law_ 320 = .ok (.iadd, 1) := by decide +kernel
theorem dL_law__321 : decode cL_law_ 321 = .ok (.iaload, 1) := by decide +kernel
theorem dL_law__322 : decode cL_law_ 322 = .ok (.aload_n 0, 1) := by decide +kernel
theorem dL_law__323 : decode cL_law_ 323 = .ok (.iload 4, 2) := by decide +kernel
theorem dL_law__325 : decode cL_law_ 325 = .ok (.iconst 4, 1) := by decide +kernel
theorem dL_law__326 : decode cL_law_ 326 = .ok (.iadd, 1) := by decide +kernel
theorem dL_law__327 : decode cL_law_ 327 = .ok (.iaload, 1) := by decide +kernel
theorem dL_law__328 : decode cL_law_ 328 = .ok (.invokevirtual 100, 3) := by decide +kernel
theorem dL_law__331 : decode cL_law_ 331 = .ok (.istore 6, 2) := by decide +kernel
theorem dL_law__333 : decode cL_law_ 333 = .ok (.aload_n 2, 1) := by decide +kernel
theorem dL_law__334 : decode cL_law_ 334 = .ok (.invokevirtual 89, 3) := by decide +kernel
theorem dL_law__337 : decode cL_law_ 337 = .ok (.iload 5, 2) := by decide +kernel
theorem dL_law__339 : decode cL_law_ 339 = .ok (.if_icmp .eq 5, 3) := by decide +kernel
theorem dL_law__342 : decode cL_law_ 342 = .ok (.iconst 0, 1) := by decide +kernel
theorem dL_law__343 : decode cL_law_ 343 = .ok (.ireturn, 1) := by decide +kernel
theorem dL_law__344 : decode cL_law_ 344 = .ok (.iload 5, 2) := by decide +kernel
theorem dL_law__346 : decode cL_law_ 346 = .ok (.ifCond .ne 15, 3) := by decide +kernel
theorem dL_law__349 : decode cL_law_ 349 = .ok (.aload_n 3, 1) := by decide +kernel
theorem dL_law__350 : decode cL_law_ 350 = .ok (.iconst 0, 1) := by decide +kernel
theorem dL_law__351 : decode cL_law_ 351 = .ok (.laload, 1) := by decide +kernel
theorem dL_law__352 : decode cL_law_ 352 = .ok (.iload 6, 2) := by decide +kernel
theorem dL_law__354 : decode cL_law_ 354 = .ok (.i2l, 1) := by decide +kernel
theorem dL_law__355 : decode cL_law_ 355 = .ok (.lcmp, 1) := by decide +kernel
theorem dL_law__356 : decode cL_law_ 356 = .ok (.ifCond .eq 5, 3) := by decide +kernel
theorem dL_law__359 : decode cL_law_ 359 = .ok (.iconst 0, 1) := by decide +kernel
theorem dL_law__360 : decode cL_law_ 360 = .ok (.ireturn, 1) := by decide +kernel
theorem dL_law__361 : decode cL_law_ 361 = .ok (.goto 1332, 3) := by decide +kernel
theorem dL_law__364 : decode cL_law_ 364 = .ok (.aload_n 1, 1) := by decide +kernel
theorem dL_law__365 : decode cL_law_ 365 = .ok (.aload_n 0, 1) := by decide +kernel
theorem dL_law__366 : decode cL_law_ 366 = .ok (.iload 4, 2) := by decide +kernel
theorem dL_law__368 : decode cL_law_ 368 = .ok (.iconst 1, 1) := by decide +kernel
theorem dL_law__369 : decode cL_law_ 369 = .ok (.iadd, 1) := by decide +kernel
theorem dL_law__370 : decode cL_law_ 370 = .ok (.iaload, 1) := by decide +kernel
theorem dL_law__371 : decode cL_law_ 371 = .ok (.aload_n 0, 1) := by decide +kernel
theorem dL_law__372 : decode cL_law_ 372 = .ok (.iload 4, 2) := by decide +kernel
theorem dL_law__374 : decode cL_law_ 374 = .ok (.iconst 2, 1) := by decide +kernel
theorem dL_law__375 : decode cL_law_ 375 = .ok (.iadd, 1) := by decide +kernel
theorem dL_law__376 : decode cL_law_ 376 = .ok (.iaload, 1) := by decide +kernel
theorem dL_law__377 : decode cL_law_ 377 = .ok (.aload_n 3, 1) := by decide +kernel
theorem dL_law__378 : decode cL_law_ 378 = .ok (.invokestatic 101, 3) := by decide +kernel
theorem dL_law__381 : decode cL_law_ 381 = .ok (.istore 5, 2) := by decide +kernel
theorem dL_law__383 : decode cL_law_ 383 = .ok (.aload_n 2, 1) := by decide +kernel
theorem dL_law__384 : decode cL_law_ 384 = .ok (.aload_n 0, 1) := by decide +kernel
theorem dL_law__385 : decode cL_law_ 385 = .ok (.iload 4, 2) := by decide +kernel
theorem dL_law__387 : decode cL_law_ 387 = .ok (.iconst 1, 1) := by decide +kernel
theorem dL_law__388 : decode cL_law_ 388 = .ok (.iadd, 1) := by decide +kernel
theorem dL_law__389 : decode cL_law_ 389 = .ok (.iaload, 1) := by decide +kernel
theorem dL_law__390 : decode cL_law_ 390 = .ok (.aload_n 0, 1) := by decide +kernel
theorem dL_law__391 : decode cL_law_ 391 = .ok (.iload 4, 2) := by decide +kernel
theorem dL_law__393 : decode cL_law_ 393 = .ok (.iconst 2, 1) := by decide +kernel
theorem dL_law__394 : decode cL_law_ 394 = .ok (.iadd, 1) := by decide +kernel
theorem dL_law__395 : decode cL_law_ 395 = .ok (.iaload, 1) := by decide +kernel
theorem dL_law__396 : decode cL_law_ 396 = .ok (.invokevirtual 104, 3) := by decide +kernel
theorem dL_law__399 : decode cL_law_ 399 = .ok (.istore 6, 2) := by decide +kernel
theorem dL_law__401 : decode cL_law_ 401 = .ok (.aload_n 2, 1) := by decide +kernel
theorem dL_law__402 : decode cL_law_ 402 = .ok (.invokevirtual 89, 3) := by decide +kernel
theorem dL_law__405 : decode cL_law_ 405 = .ok (.iload 5, 2) := by decide +kernel
theorem dL_law__407 : decode cL_law_ 407 = .ok (.if_icmp .eq 5, 3) := by decide +kernel
theorem dL_law__410 : decode cL_law_ 410 = .ok (.iconst 0, 1) := by decide +kernel
theorem dL_law__411 : decode cL_law_ 411 = .ok (.ireturn, 1) := by decide +kernel
theorem dL_law__412 : decode cL_law_ 412 = .ok (.iload 5, 2) := by decide +kernel
theorem dL_law__414 : decode cL_law_ 414 = .ok (.ifCond .ne 15, 3) := by decide +kernel
theorem dL_law__417 : decode cL_law_ 417 = .ok (.aload_n 3, 1) := by decide +kernel
theorem dL_law__418 : decode cL_law_ 418 = .ok (.iconst 0, 1) := by decide +kernel
theorem dL_law__419 : decode cL_law_ 419 = .ok (.laload, 1) := by decide +kernel
theorem dL_law__420 : decode cL_law_ 420 = .ok (.iload 6, 2) := by decide +kernel
theorem dL_law__422 : decode cL_law_ 422 = .ok (.i2l, 1) := by decide +kernel
theorem dL_law__423 : decode cL_law_ 423 = .ok (.lcmp, 1) := by decide +kernel
theorem dL_law__424 : decode cL_law_ 424 = .ok (.ifCond .eq 5, 3) := by decide +kernel
theorem dL_law__427 : decode cL_law_ 427 = .ok (.iconst 0, 1) := by decide +kernel
theorem dL_law__428 : decode cL_law_ 428 = .ok (.ireturn, 1) := by decide +kernel
theorem dL_law__429 : decode cL_law_ 429 = .ok (.goto 1264, 3) := by decide +kernel
theorem dL_law__432 : decode cL_law_ 432 = .ok (.aload_n 1, 1) := by decide +kernel
theorem dL_law__433 : decode cL_law_ 433 = .ok (.aload_n 0, 1) := by decide +kernel
theorem dL_law__434 : decode cL_law_ 434 = .ok (.iload 4, 2) := by decide +kernel
theorem dL_law__436 : decode cL_law_ 436 = .ok (.iconst 1, 1) := by decide +kernel
theorem dL_law__437 : decode cL_law_ 437 = .ok (.iadd, 1) := by decide +kernel
theorem dL_law__438 : decode cL_law_ 438 = .ok (.iaload, 1) := by decide +kernel
theorem dL_law__439 : decode cL_law_ 439 = .ok (.aload_n 0, 1) := by decide +kernel
theorem dL_law__440 : decode cL_law_ 440 = .ok (.iload 4, 2) := by decide +kernel
theorem dL_law__442 : decode cL_law_ 442 = .ok (.iconst 2, 1) := by decide +kernel
theorem dL_law__443 : decode cL_law_ 443 = .ok (.iadd, 1) := by decide +kernel
theorem dL_law__444 : decode cL_law_ 444 = .ok (.iaload, 1) := by decide +kernel
theorem dL_law__445 : decode cL_law_ 445 = .ok (.aload_n 3, 1) := by decide +kernel
theorem dL_law__446 : decode cL_law_ 446 = .ok (.invokestatic 105, 3) := by decide +kernel
theorem dL_law__449 : decode cL_law_ 449 = .ok (.istore 5, 2) := by decide +kernel
theorem dL_law__451 : decode cL_law_ 451 = .ok (.aload_n 2, 1) := by decide +kernel
theorem dL_law__452 : decode cL_law_ 452 = .ok (.aload_n 0, 1) := by decide +kernel
theorem dL_law__453 : decode cL_law_ 453 = .ok (.iload 4, 2) := by decide +kernel
theorem dL_law__455 : decode cL_law_ 455 = .ok (.iconst 1, 1) := by decide +kernel
theorem dL_law__456 : decode cL_law_ 456 = .ok (.iadd, 1) := by decide +kernel
theorem dL_law__457 : decode cL_law_ 457 = .ok (.iaload, 1) := by decide +kernel
theorem dL_law__458 : decode cL_law_ 458 = .ok (.aload_n 0, 1) := by decide +kernel
theorem dL_law__459 : decode cL_law_ 459 = .ok (.iload 4, 2) := by decide +kernel
theorem dL_law__461 : decode cL_law_ 461 = .ok (.iconst 2, 1) := by decide +kernel
theorem dL_law__462 : decode cL_law_ 462 = .ok (.iadd, 1) := by decide +kernel
theorem dL_law__463 : decode cL_law_ 463 = .ok (.iaload, 1) := by decide +kernel
theorem dL_law__464 : decode cL_law_ 464 = .ok (.invokevirtual 107, 3) := by decide +kernel
theorem dL_law__467 : decode cL_law_ 467 = .ok (.istore 6, 2) := by decide +kernel
theorem dL_law__469 : decode cL_law_ 469 = .ok (.aload_n 2, 1) := by decide +kernel
theorem dL_law__470 : decode cL_law_ 470 = .ok (.invokevirtual 89, 3) := by decide +kernel
theorem dL_law__473 : decode cL_law_ 473 = .ok (.iload 5, 2) := by decide +kernel
theorem dL_law__475 : decode cL_law_ 475 = .ok (.if_icmp .eq 5, 3) := by decide +kernel
theorem dL_law__478 : decode cL_law_ 478 = .ok (.iconst 0, 1) := by decide +kernel
theorem dL_law__479 : decode cL_law_ 479 = .ok (.ireturn, 1) := by decide +kernel
theorem dL_law__480 : decode cL_law_ 480 = .ok (.iload 5, 2) := by decide +kernel
theorem dL_law__482 : decode cL_law_ 482 = .ok (.ifCond .ne 15, 3) := by decide +kernel
theorem dL_law__485 : decode cL_law_ 485 = .ok (.aload_n 3, 1) := by decide +kernel
theorem dL_law__486 : decode cL_law_ 486 = .ok (.iconst 0, 1) := by decide +kernel
theorem dL_law__487 : decode cL_law_ 487 = .ok (.laload, 1) := by decide +kernel
theorem dL_law__488 : decode cL_law_ 488 = .ok (.iload 6, 2) := by decide +kernel
theorem dL_law__490 : decode cL_law_ 490 = .ok (.i2l, 1) := by decide +kernel
theorem dL_law__491 : decode cL_law_ 491 = .ok (.lcmp, 1) := by decide +kernel
theorem dL_law__492 : decode cL_law_ 492 = .ok (.ifCond .eq 5, 3) := by decide +kernel
theorem dL_law__495 : decode cL_law_ 495 = .ok (.iconst 0, 1) := by decide +kernel
theorem dL_law__496 : decode cL_law_ 496 = .ok (.ireturn, 1) := by decide +kernel
theorem dL_law__497 : decode cL_law_ 497 = .ok (.goto 1196, 3) := by decide +kernel
theorem dL_law__500 : decode cL_law_ 500 = .ok (.aload_n 1, 1) := by decide +kernel
theorem dL_law__501 : decode cL_law_ 501 = .ok (.aload_n 0, 1) := by decide +kernel
theorem dL_law__502 : decode cL_law_ 502 = .ok (.iload 4, 2) := by decide +kernel
theorem dL_law__504 : decode cL_law_ 504 = .ok (.iconst 1, 1) := by decide +kernel
theorem dL_law__505 : decode cL_law_ 505 = .ok (.iadd, 1) := by decide +kernel
theorem dL_law__506 : decode cL_law_ 506 = .ok (.iaload, 1) := by decide +kernel
theorem dL_law__507 : decode cL_law_ 507 = .ok (.aload_n 0, 1) := by decide +kernel
theorem dL_law__508 : decode cL_law_ 508 = .ok (.iload 4, 2) := by decide +kernel
theorem dL_law__510 : decode cL_law_ 510 = .ok (.iconst 2, 1) := by decide +kernel
theorem dL_law__511 : decode cL_law_ 511 = .ok (.iadd, 1) := by decide +kernel
theorem dL_law__512 : decode cL_law_ 512 = .ok (.iaload, 1) := by decide +kernel
theorem dL_law__513 : decode cL_law_ 513 = .ok (.aload_n 0, 1) := by decide +kernel
theorem dL_law__514 : decode cL_law_ 514 = .ok (.iload 4, 2) := by decide +kernel
theorem dL_law__516 : decode cL_law_ 516 = .ok (.iconst 3, 1) := by decide +kernel
theorem dL_law__517 : decode cL_law_ 517 = .ok (.iadd, 1) := by decide +kernel
theorem dL_law__518 : decode cL_law_ 518 = .ok (.iaload, 1) := by decide +kernel
theorem dL_law__519 : decode cL_law_ 519 = .ok (.aload_n 3, 1) := by decide +kernel
theorem dL_law__520 : decode cL_law_ 520 = .ok (.invokestatic 108, 3) := by decide +kernel
theorem dL_law__523 : decode cL_law_ 523 = .ok (.istore 5, 2) := by decide +kernel
theorem dL_law__525 : decode cL_law_ 525 = .ok (.aload_n 2, 1) := by decide +kernel
theorem dL_law__526 : decode cL_law_ 526 = .ok (.aload_n 0, 1) := by decide +kernel
theorem dL_law__527 : decode cL_law_ 527 = .ok (.iload 4, 2) := by decide +kernel
theorem dL_law__529 : decode cL_law_ 529 = .ok (.iconst 1, 1) := by decide +kernel
theorem dL_law__530 : decode cL_law_ 530 = .ok (.iadd, 1) := by decide +kernel
theorem dL_law__531 : decode cL_law_ 531 = .ok (.iaload, 1) := by decide +kernel
theorem dL_law__532 : decode cL_law_ 532 = .ok (.aload_n 0, 1) := by decide +kernel
theorem dL_law__533 : decode cL_law_ 533 = .ok (.iload 4, 2) := by decide +kernel
theorem dL_law__535 : decode cL_law_ 535 = .ok (.iconst 2, 1) := by decide +kernel
theorem dL_law__536 : decode cL_law_ 536 = .ok (.iadd, 1) := by decide +kernel
theorem dL_law__537 : decode cL_law_ 537 = .ok (.iaload, 1) := by decide +kernel
theorem dL_law__538 : decode cL_law_ 538 = .ok (.aload_n 0, 1) := by decide +kernel
theorem dL_law__539 : decode cL_law_ 539 = .ok (.iload 4, 2) := by decide +kernel
theorem dL_law__541 : decode cL_law_ 541 = .ok (.iconst 3, 1) := by decide +kernel
theorem dL_law__542 : decode cL_law_ 542 = .ok (.iadd, 1) := by decide +kernel
theorem dL_law__543 : decode cL_law_ 543 = .ok (.iaload, 1) := by decide +kernel
theorem dL_law__544 : decode cL_law_ 544 = .ok (.invokevirtual 110, 3) := by decide +kernel
theorem dL_law__547 : decode cL_law_ 547 = .ok (.istore 6, 2) := by decide +kernel
theorem dL_law__549 : decode cL_law_ 549 = .ok (.aload_n 2, 1) := by decide +kernel
theorem dL_law__550 : decode cL_law_ 550 = .ok (.invokevirtual 89, 3) := by decide +kernel
theorem dL_law__553 : decode cL_law_ 553 = .ok (.iload 5, 2) := by decide +kernel
theorem dL_law__555 : decode cL_law_ 555 = .ok (.if_icmp .eq 5, 3) := by decide +kernel
theorem dL_law__558 : decode cL_law_ 558 = .ok (.iconst 0, 1) := by decide +kernel
theorem dL_law__559 : decode cL_law_ 559 = .ok (.ireturn, 1) := by decide +kernel
theorem dL_law__560 : decode cL_law_ 560 = .ok (.iload 5, 2) := by decide +kernel
theorem dL_law__562 : decode cL_law_ 562 = .ok (.ifCond .ne 15, 3) := by decide +kernel
theorem dL_law__565 : decode cL_law_ 565 = .ok (.aload_n 3, 1) := by decide +kernel
theorem dL_law__566 : decode cL_law_ 566 = .ok (.iconst 0, 1) := by decide +kernel
theorem dL_law__567 : decode cL_law_ 567 = .ok (.laload, 1) := by decide +kernel
theorem dL_law__568 : decode cL_law_ 568 = .ok (.iload 6, 2) := by decide +kernel
theorem dL_law__570 : decode cL_law_ 570 = .ok (.i2l, 1) := by decide +kernel
theorem dL_law__571 : decode cL_law_ 571 = .ok (.lcmp, 1) := by decide +kernel
theorem dL_law__572 : decode cL_law_ 572 = .ok (.ifCond .eq 5, 3) := by decide +kernel
theorem dL_law__575 : decode cL_law_ 575 = .ok (.iconst 0, 1) := by decide +kernel
theorem dL_law__576 : decode cL_law_ 576 = .ok (.ireturn, 1) := by decide +kernel
theorem dL_law__577 : decode cL_law_ 577 = .ok (.goto 1116, 3) := by decide +kernel
theorem dL_law__580 : decode cL_law_ 580 = .ok (.aload_n 1, 1) := by decide +kernel
theorem dL_law__581 : decode cL_law_ 581 = .ok (.aload_n 0, 1) := by decide +kernel
theorem dL_law__582 : decode cL_law_ 582 = .ok (.iload 4, 2) := by decide +kernel
theorem dL_law__584 : decode cL_law_ 584 = .ok (.iconst 1, 1) := by decide +kernel
theorem dL_law__585 : decode cL_law_ 585 = .ok (.iadd, 1) := by decide +kernel
theorem dL_law__586 : decode cL_law_ 586 = .ok (.iaload, 1) := by decide +kernel
theorem dL_law__587 : decode cL_law_ 587 = .ok (.aload_n 0, 1) := by decide +kernel
theorem dL_law__588 : decode cL_law_ 588 = .ok (.iload 4, 2) := by decide +kernel
theorem dL_law__590 : decode cL_law_ 590 = .ok (.iconst 2, 1) := by decide +kernel
theorem dL_law__591 : decode cL_law_ 591 = .ok (.iadd, 1) := by decide +kernel
theorem dL_law__592 : decode cL_law_ 592 = .ok (.iaload, 1) := by decide +kernel
theorem dL_law__593 : decode cL_law_ 593 = .ok (.aload_n 0, 1) := by decide +kernel
theorem dL_law__594 : decode cL_law_ 594 = .ok (.iload 4, 2) := by decide +kernel
theorem dL_law__596 : decode cL_law_ 596 = .ok (.iconst 3, 1) := by decide +kernel
theorem dL_law__597 : decode cL_law_ 597 = .ok (.iadd, 1) := by decide +kernel
theorem dL_law__598 : decode cL_law_ 598 = .ok (.iaload, 1) := by decide +kernel
theorem dL_law__599 : decode cL_law_ 599 = .ok (.aload_n 3, 1) := by decide +kernel
theorem dL_law__600 : decode cL_law_ 600 = .ok (.invokestatic 111, 3) := by decide +kernel
theorem dL_law__603 : decode cL_law_ 603 = .ok (.istore 5, 2) := by decide +kernel
theorem dL_law__605 : decode cL_law_ 605 = .ok (.aload_n 2, 1) := by decide +kernel
theorem dL_law__606 : decode cL_law_ 606 = .ok (.aload_n 0, 1) := by decide +kernel
theorem dL_law__607 : decode cL_law_ 607 = .ok (.iload 4, 2) := by decide +kernel
theorem dL_law__609 : decode cL_law_ 609 = .ok (.iconst 1, 1) := by decide +kernel
theorem dL_law__610 : decode cL_law_ 610 = .ok (.iadd, 1) := by decide +kernel
theorem dL_law__611 : decode cL_law_ 611 = .ok (.iaload, 1) := by decide +kernel
theorem dL_law__612 : decode cL_law_ 612 = .ok (.aload_n 0, 1) := by decide +kernel
theorem dL_law__613 : decode cL_law_ 613 = .ok (.iload 4, 2) := by decide +kernel
theorem dL_law__615 : decode cL_law_ 615 = .ok (.iconst 2, 1) := by decide +kernel
theorem dL_law__616 : decode cL_law_ 616 = .ok (.iadd, 1) := by decide +kernel
theorem dL_law__617 : decode cL_law_ 617 = .ok (.iaload, 1) := by decide +kernel
theorem dL_law__618 : decode cL_law_ 618 = .ok (.aload_n 0, 1) := by decide +kernel
theorem dL_law__619 : decode cL_law_ 619 = .ok (.iload 4, 2) := by decide +kernel
theorem dL_law__621 : decode cL_law_ 621 = .ok (.iconst 3, 1) := by decide +kernel
theorem dL_law__622 : decode cL_law_ 622 = .ok (.iadd, 1) := by decide +kernel
theorem dL_law__623 : decode cL_law_ 623 = .ok (.iaload, 1) := by decide +kernel
theorem dL_law__624 : decode cL_law_ 624 = .ok (.invokevirtual 113, 3) := by decide +kernel
theorem dL_law__627 : decode cL_law_ 627 = .ok (.istore 6, 2) := by decide +kernel
theorem dL_law__629 : decode cL_law_ 629 = .ok (.aload_n 2, 1) := by decide +kernel
theorem dL_law__630 : decode cL_law_ 630 = .ok (.invokevirtual 89, 3) := by decide +kernel
theorem dL_law__633 : decode cL_law_ 633 = .ok (.iload 5, 2) := by decide +kernel
theorem dL_law__635 : decode cL_law_ 635 = .ok (.if_icmp .eq 5, 3) := by decide +kernel
theorem dL_law__638 : decode cL_law_ 638 = .ok (.iconst 0, 1) := by decide +kernel
theorem dL_law__639 : decode cL_law_ 639 = .ok (.ireturn, 1) := by decide +kernel
theorem dL_law__640 : decode cL_law_ 640 = .ok (.iload 5, 2) := by decide +kernel
theorem dL_law__642 : decode cL_law_ 642 = .ok (.ifCond .ne 15, 3) := by decide +kernel
theorem dL_law__645 : decode cL_law_ 645 = .ok (.aload_n 3, 1) := by decide +kernel
theorem dL_law__646 : decode cL_law_ 646 = .ok (.iconst 0, 1) := by decide +kernel
theorem dL_law__647 : decode cL_law_ 647 = .ok (.laload, 1) := by decide +kernel
theorem dL_law__648 : decode cL_law_ 648 = .ok (.iload 6, 2) := by decide +kernel
theorem dL_law__650 : decode cL_law_ 650 = .ok (.i2l, 1) := by decide +kernel
theorem dL_law__651 : decode cL_law_ 651 = .ok (.lcmp, 1) := by decide +kernel
theorem dL_law__652 : decode cL_law_ 652 = .ok (.ifCond .eq 5, 3) := by decide +kernel
theorem dL_law__655 : decode cL_law_ 655 = .ok (.iconst 0, 1) := by decide +kernel
theorem dL_law__656 : decode cL_law_ 656 = .ok (.ireturn, 1) := by decide +kernel
theorem dL_law__657 : decode cL_law_ 657 = .ok (.goto 1036, 3) := by decide +kernel
theorem dL_law__660 : decode cL_law_ 660 = .ok (.aload_n 1, 1) := by decide +kernel
theorem dL_law__661 : decode cL_law_ 661 = .ok (.aload_n 0, 1) := by decide +kernel
theorem dL_law__662 : decode cL_law_ 662 = .ok (.iload 4, 2) := by decide +kernel
theorem dL_law__664 : decode cL_law_ 664 = .ok (.iconst 1, 1) := by decide +kernel
theorem dL_law__665 : decode cL_law_ 665 = .ok (.iadd, 1) := by decide +kernel
theorem dL_law__666 : decode cL_law_ 666 = .ok (.iaload, 1) := by decide +kernel
theorem dL_law__667 : decode cL_law_ 667 = .ok (.invokevirtual 114, 3) := by decide +kernel
theorem dL_law__670 : decode cL_law_ 670 = .ok (.aload_n 2, 1) := by decide +kernel
theorem dL_law__671 : decode cL_law_ 671 = .ok (.aload_n 0, 1) := by decide +kernel
theorem dL_law__672 : decode cL_law_ 672 = .ok (.iload 4, 2) := by decide +kernel
theorem dL_law__674 : decode cL_law_ 674 = .ok (.iconst 1, 1) := by decide +kernel
theorem dL_law__675 : decode cL_law_ 675 = .ok (.iadd, 1) := by decide +kernel
theorem dL_law__676 : decode cL_law_ 676 = .ok (.iaload, 1) := by decide +kernel
theorem dL_law__677 : decode cL_law_ 677 = .ok (.invokevirtual 117, 3) := by decide +kernel
theorem dL_law__680 : decode cL_law_ 680 = .ok (.if_icmp .eq 1013, 3) := by decide +kernel
theorem dL_law__683 : decode cL_law_ 683 = .ok (.iconst 0, 1) := by decide +kernel
theorem dL_law__684 : decode cL_law_ 684 = .ok (.ireturn, 1) := by decide +kernel
theorem dL_law__685 : decode cL_law_ 685 = .ok (.aload_n 1, 1) := by decide +kernel
theorem dL_law__686 : decode cL_law_ 686 = .ok (.aload_n 0, 1) := by decide +kernel
theorem dL_law__687 : decode cL_law_ 687 = .ok (.iload 4, 2) := by decide +kernel
theorem dL_law__689 : decode cL_law_ 689 = .ok (.iconst 1, 1) := by decide +kernel
theorem dL_law__690 : decode cL_law_ 690 = .ok (.iadd, 1) := by decide +kernel
theorem dL_law__691 : decode cL_law_ 691 = .ok (.iaload, 1) := by decide +kernel
theorem dL_law__692 : decode cL_law_ 692 = .ok (.aload_n 0, 1) := by decide +kernel
theorem dL_law__693 : decode cL_law_ 693 = .ok (.iload 4, 2) := by decide +kernel
theorem dL_law__695 : decode cL_law_ 695 = .ok (.iconst 2, 1) := by decide +kernel
theorem dL_law__696 : decode cL_law_ 696 = .ok (.iadd, 1) := by decide +kernel
theorem dL_law__697 : decode cL_law_ 697 = .ok (.iaload, 1) := by decide +kernel
theorem dL_law__698 : decode cL_law_ 698 = .ok (.aload_n 0, 1) := by decide +kernel
theorem dL_law__699 : decode cL_law_ 699 = .ok (.iload 4, 2) := by decide +kernel
theorem dL_law__701 : decode cL_law_ 701 = .ok (.iconst 3, 1) := by decide +kernel
theorem dL_law__702 : decode cL_law_ 702 = .ok (.iadd, 1) := by decide +kernel
theorem dL_law__703 : decode cL_law_ 703 = .ok (.iaload, 1) := by decide +kernel
theorem dL_law__704 : decode cL_law_ 704 = .ok (.aload_n 3, 1) := by decide +kernel
theorem dL_law__705 : decode cL_law_ 705 = .ok (.invokestatic 118, 3) := by decide +kernel
theorem dL_law__708 : decode cL_law_ 708 = .ok (.istore 5, 2) := by decide +kernel
theorem dL_law__710 : decode cL_law_ 710 = .ok (.aload_n 2, 1) := by decide +kernel
theorem dL_law__711 : decode cL_law_ 711 = .ok (.aload_n 0, 1) := by decide +kernel
theorem dL_law__712 : decode cL_law_ 712 = .ok (.iload 4, 2) := by decide +kernel
theorem dL_law__714 : decode cL_law_ 714 = .ok (.iconst 1, 1) := by decide +kernel
theorem dL_law__715 : decode cL_law_ 715 = .ok (.iadd, 1) := by decide +kernel
theorem dL_law__716 : decode cL_law_ 716 = .ok (.iaload, 1) := by decide +kernel
theorem dL_law__717 : decode cL_law_ 717 = .ok (.aload_n 0, 1) := by decide +kernel
theorem dL_law__718 : decode cL_law_ 718 = .ok (.iload 4, 2) := by decide +kernel
theorem dL_law__720 : decode cL_law_ 720 = .ok (.iconst 2, 1) := by decide +kernel
theorem dL_law__721 : decode cL_law_ 721 = .ok (.iadd, 1) := by decide +kernel
theorem dL_law__722 : decode cL_law_ 722 = .ok (.iaload, 1) := by decide +kernel
theorem dL_law__723 : decode cL_law_ 723 = .ok (.aload_n 0, 1) := by decide +kernel
theorem dL_law__724 : decode cL_law_ 724 = .ok (.iload 4, 2) := by decide +kernel
theorem dL_law__726 : decode cL_law_ 726 = .ok (.iconst 3, 1) := by decide +kernel
theorem dL_law__727 : decode cL_law_ 727 = .ok (.iadd, 1) := by decide +kernel
theorem dL_law__728 : decode cL_law_ 728 = .ok (.iaload, 1) := by decide +kernel
theorem dL_law__729 : decode cL_law_ 729 = .ok (.invokevirtual 120, 3) := by decide +kernel
theorem dL_law__732 : decode cL_law_ 732 = .ok (.istore 6, 2) := by decide +kernel
theorem dL_law__734 : decode cL_law_ 734 = .ok (.aload_n 2, 1) := by decide +kernel
theorem dL_law__735 : decode cL_law_ 735 = .ok (.invokevirtual 89, 3) := by decide +kernel
theorem dL_law__738 : decode cL_law_ 738 = .ok (.iload 5, 2) := by decide +kernel
theorem dL_law__740 : decode cL_law_ 740 = .ok (.if_icmp .eq 5, 3) := by decide +kernel
theorem dL_law__743 : decode cL_law_ 743 = .ok (.iconst 0, 1) := by decide +kernel
theorem dL_law__744 : decode cL_law_ 744 = .ok (.ireturn, 1) := by decide +kernel
theorem dL_law__745 : decode cL_law_ 745 = .ok (.iload 5, 2) := by decide +kernel
theorem dL_law__747 : decode cL_law_ 747 = .ok (.ifCond .ne 15, 3) := by decide +kernel
theorem dL_law__750 : decode cL_law_ 750 = .ok (.aload_n 3, 1) := by decide +kernel
theorem dL_law__751 : decode cL_law_ 751 = .ok (.iconst 0, 1) := by decide +kernel
theorem dL_law__752 : decode cL_law_ 752 = .ok (.laload, 1) := by decide +kernel
theorem dL_law__753 : decode cL_law_ 753 = .ok (.iload 6, 2) := by decide +kernel
theorem dL_law__755 : decode cL_law_ 755 = .ok (.i2l, 1) := by decide +kernel
theorem dL_law__756 : decode cL_law_ 756 = .ok (.lcmp, 1) := by decide +kernel
theorem dL_law__757 : decode cL_law_ 757 = .ok (.ifCond .eq 5, 3) := by decide +kernel
theorem dL_law__760 : decode cL_law_ 760 = .ok (.iconst 0, 1) := by decide +kernel
theorem dL_law__761 : decode cL_law_ 761 = .ok (.ireturn, 1) := by decide +kernel
theorem dL_law__762 : decode cL_law_ 762 = .ok (.goto 931, 3) := by decide +kernel
theorem dL_law__765 : decode cL_law_ 765 = .ok (.aload_n 1, 1) := by decide +kernel
theorem dL_law__766 : decode cL_law_ 766 = .ok (.aload_n 0, 1) := by decide +kernel
theorem dL_law__767 : decode cL_law_ 767 = .ok (.iload 4, 2) := by decide +kernel
theorem dL_law__769 : decode cL_law_ 769 = .ok (.iconst 1, 1) := by decide +kernel
theorem dL_law__770 : decode cL_law_ 770 = .ok (.iadd, 1) := by decide +kernel
theorem dL_law__771 : decode cL_law_ 771 = .ok (.iaload, 1) := by decide +kernel
theorem dL_law__772 : decode cL_law_ 772 = .ok (.aload_n 0, 1) := by decide +kernel
theorem dL_law__773 : decode cL_law_ 773 = .ok (.iload 4, 2) := by decide +kernel
theorem dL_law__775 : decode cL_law_ 775 = .ok (.iconst 2, 1) := by decide +kernel
theorem dL_law__776 : decode cL_law_ 776 = .ok (.iadd, 1) := by decide +kernel
theorem dL_law__777 : decode cL_law_ 777 = .ok (.iaload, 1) := by decide +kernel
theorem dL_law__778 : decode cL_law_ 778 = .ok (.aload_n 0, 1) := by decide +kernel
theorem dL_law__779 : decode cL_law_ 779 = .ok (.iload 4, 2) := by decide +kernel
theorem dL_law__781 : decode cL_law_ 781 = .ok (.iconst 3, 1) := by decide +kernel
theorem dL_law__782 : decode cL_law_ 782 = .ok (.iadd, 1) := by decide +kernel
theorem dL_law__783 : decode cL_law_ 783 = .ok (.iaload, 1) := by decide +kernel
theorem dL_law__784 : decode cL_law_ 784 = .ok (.aload_n 0, 1) := by decide +kernel
theorem dL_law__785 : decode cL_law_ 785 = .ok (.iload 4, 2) := by decide +kernel
theorem dL_law__787 : decode cL_law_ 787 = .ok (.iconst 4, 1) := by decide +kernel
theorem dL_law__788 : decode cL_law_ 788 = .ok (.iadd, 1) := by decide +kernel
theorem dL_law__789 : decode cL_law_ 789 = .ok (.iaload, 1) := by decide +kernel
theorem dL_law__790 : decode cL_law_ 790 = .ok (.aload_n 3, 1) := by decide +kernel
theorem dL_law__791 : decode cL_law_ 791 = .ok (.invokestatic 121, 3) := by decide +kernel
theorem dL_law__794 : decode cL_law_ 794 = .ok (.istore 5, 2) := by decide +kernel
theorem dL_law__796 : decode cL_law_ 796 = .ok (.aload_n 2, 1) := by decide +kernel
theorem dL_law__797 : decode cL_law_ 797 = .ok (.aload_n 0, 1) := by decide +kernel
theorem dL_law__798 : decode cL_law_ 798 = .ok (.iload 4, 2) := by decide +kernel
theorem dL_law__800 : decode cL_law_ 800 = .ok (.iconst 1, 1) := by decide +kernel
theorem dL_law__801 : decode cL_law_ 801 = .ok (.iadd, 1) := by decide +kernel
theorem dL_law__802 : decode cL_law_ 802 = .ok (.iaload, 1) := by decide +kernel
theorem dL_law__803 : decode cL_law_ 803 = .ok (.aload_n 0, 1) := by decide +kernel
theorem dL_law__804 : decode cL_law_ 804 = .ok (.iload 4, 2) := by decide +kernel
theorem dL_law__806 : decode cL_law_ 806 = .ok (.iconst 2, 1) := by decide +kernel
theorem dL_law__807 : decode cL_law_ 807 = .ok (.iadd, 1) := by decide +kernel
theorem dL_law__808 : decode cL_law_ 808 = .ok (.iaload, 1) := by decide +kernel
theorem dL_law__809 : decode cL_law_ 809 = .ok (.aload_n 0, 1) := by decide +kernel
theorem dL_law__810 : decode cL_law_ 810 = .ok (.iload 4, 2) := by decide +kernel
theorem dL_law__812 : decode cL_law_ 812 = .ok (.iconst 3, 1) := by decide +kernel
theorem dL_law__813 : decode cL_law_ 813 = .ok (.iadd, 1) := by decide +kernel
theorem dL_law__814 : decode cL_law_ 814 = .ok (.iaload, 1) := by decide +kernel
theorem dL_law__815 : decode cL_law_ 815 = .ok (.aload_n 0, 1) := by decide +kernel
theorem dL_law__816 : decode cL_law_ 816 = .ok (.iload 4, 2) := by decide +kernel
theorem dL_law__818 : decode cL_law_ 818 = .ok (.iconst 4, 1) := by decide +kernel
theorem dL_law__819 : decode cL_law_ 819 = .ok (.iadd, 1) := by decide +kernel
theorem dL_law__820 : decode cL_law_ 820 = .ok (.iaload, 1) := by decide +kernel
theorem dL_law__821 : decode cL_law_ 821 = .ok (.invokevirtual 123, 3) := by decide +kernel
theorem dL_law__824 : decode cL_law_ 824 = .ok (.istore 6, 2) := by decide +kernel
theorem dL_law__826 : decode cL_law_ 826 = .ok (.aload_n 2, 1) := by decide +kernel
theorem dL_law__827 : decode cL_law_ 827 = .ok (.invokevirtual 89, 3) := by decide +kernel
theorem dL_law__830 : decode cL_law_ 830 = .ok (.iload 5, 2) := by decide +kernel
theorem dL_law__832 : decode cL_law_ 832 = .ok (.if_icmp .eq 5, 3) := by decide +kernel
theorem dL_law__835 : decode cL_law_ 835 = .ok (.iconst 0, 1) := by decide +kernel
theorem dL_law__836 : decode cL_law_ 836 = .ok (.ireturn, 1) := by decide +kernel
theorem dL_law__837 : decode cL_law_ 837 = .ok (.iload 5, 2) := by decide +kernel
theorem dL_law__839 : decode cL_law_ 839 = .ok (.ifCond .ne 15, 3) := by decide +kernel
theorem dL_law__842 : decode cL_law_ 842 = .ok (.aload_n 3, 1) := by decide +kernel
theorem dL_law__843 : decode cL_law_ 843 = .ok (.iconst 0, 1) := by decide +kernel
theorem dL_law__844 : decode cL_law_ 844 = .ok (.laload, 1) := by decide +kernel
theorem dL_law__845 : decode cL_law_ 845 = .ok (.iload 6, 2) := by decide +kernel
theorem dL_law__847 : decode cL_law_ 847 = .ok (.i2l, 1) := by decide +kernel
theorem dL_law__848 : decode cL_law_ 848 = .ok (.lcmp, 1) := by decide +kernel
theorem dL_law__849 : decode cL_law_ 849 = .ok (.ifCond .eq 5, 3) := by decide +kernel
theorem dL_law__852 : decode cL_law_ 852 = .ok (.iconst 0, 1) := by decide +kernel
theorem dL_law__853 : decode cL_law_ 853 = .ok (.ireturn, 1) := by decide +kernel
theorem dL_law__854 : decode cL_law_ 854 = .ok (.goto 839, 3) := by decide +kernel
theorem dL_law__857 : decode cL_law_ 857 = .ok (.aload_n 1, 1) := by decide +kernel
theorem dL_law__858 : decode cL_law_ 858 = .ok (.aload_n 0, 1) := by decide +kernel
theorem dL_law__859 : decode cL_law_ 859 = .ok (.iload 4, 2) := by decide +kernel
theorem dL_law__861 : decode cL_law_ 861 = .ok (.iconst 1, 1) := by decide +kernel
theorem dL_law__862 : decode cL_law_ 862 = .ok (.iadd, 1) := by decide +kernel
theorem dL_law__863 : decode cL_law_ 863 = .ok (.iaload, 1) := by decide +kernel
theorem dL_law__864 : decode cL_law_ 864 = .ok (.aload_n 0, 1) := by decide +kernel
theorem dL_law__865 : decode cL_law_ 865 = .ok (.iload 4, 2) := by decide +kernel
theorem dL_law__867 : decode cL_law_ 867 = .ok (.iconst 2, 1) := by decide +kernel
theorem dL_law__868 : decode cL_law_ 868 = .ok (.iadd, 1) := by decide +kernel
theorem dL_law__869 : decode cL_law_ 869 = .ok (.iaload, 1) := by decide +kernel
theorem dL_law__870 : decode cL_law_ 870 = .ok (.aload_n 0, 1) := by decide +kernel
theorem dL_law__871 : decode cL_law_ 871 = .ok (.iload 4, 2) := by decide +kernel
theorem dL_law__873 : decode cL_law_ 873 = .ok (.iconst 3, 1) := by decide +kernel
theorem dL_law__874 : decode cL_law_ 874 = .ok (.iadd, 1) := by decide +kernel
theorem dL_law__875 : decode cL_law_ 875 = .ok (.iaload, 1) := by decide +kernel
theorem dL_law__876 : decode cL_law_ 876 = .ok (.aload_n 0, 1) := by decide +kernel
theorem dL_law__877 : decode cL_law_ 877 = .ok (.iload 4, 2) := by decide +kernel
theorem dL_law__879 : decode cL_law_ 879 = .ok (.iconst 4, 1) := by decide +kernel
theorem dL_law__880 : decode cL_law_ 880 = .ok (.iadd, 1) := by decide +kernel
theorem dL_law__881 : decode cL_law_ 881 = .ok (.iaload, 1) := by decide +kernel
theorem dL_law__882 : decode cL_law_ 882 = .ok (.aload_n 3, 1) := by decide +kernel
theorem dL_law__883 : decode cL_law_ 883 = .ok (.invokestatic 124, 3) := by decide +kernel
theorem dL_law__886 : decode cL_law_ 886 = .ok (.istore 5, 2) := by decide +kernel
theorem dL_law__888 : decode cL_law_ 888 = .ok (.aload_n 2, 1) := by decide +kernel
theorem dL_law__889 : decode cL_law_ 889 = .ok (.aload_n 0, 1) := by decide +kernel
theorem dL_law__890 : decode cL_law_ 890 = .ok (.iload 4, 2) := by decide +kernel
theorem dL_law__892 : decode cL_law_ 892 = .ok (.iconst 1, 1) := by decide +kernel
theorem dL_law__893 : decode cL_law_ 893 = .ok (.iadd, 1) := by decide +kernel
theorem dL_law__894 : decode cL_law_ 894 = .ok (.iaload, 1) := by decide +kernel
theorem dL_law__895 : decode cL_law_ 895 = .ok (.aload_n 0, 1) := by decide +kernel
theorem dL_law__896 : decode cL_law_ 896 = .ok (.iload 4, 2) := by decide +kernel
theorem dL_law__898 : decode cL_law_ 898 = .ok (.iconst 2, 1) := by decide +kernel
theorem dL_law__899 : decode cL_law_ 899 = .ok (.iadd, 1) := by decide +kernel
theorem dL_law__900 : decode cL_law_ 900 = .ok (.iaload, 1) := by decide +kernel
theorem dL_law__901 : decode cL_law_ 901 = .ok (.aload_n 0, 1) := by decide +kernel
theorem dL_law__902 : decode cL_law_ 902 = .ok (.iload 4, 2) := by decide +kernel
theorem dL_law__904 : decode cL_law_ 904 = .ok (.iconst 3, 1) := by decide +kernel
theorem dL_law__905 : decode cL_law_ 905 = .ok (.iadd, 1) := by decide +kernel
theorem dL_law__906 : decode cL_law_ 906 = .ok (.iaload, 1) := by decide +kernel
theorem dL_law__907 : decode cL_law_ 907 = .ok (.aload_n 0, 1) := by decide +kernel
theorem dL_law__908 : decode cL_law_ 908 = .ok (.iload 4, 2) := by decide +kernel
theorem dL_law__910 : decode cL_law_ 910 = .ok (.iconst 4, 1) := by decide +kernel
theorem dL_law__911 : decode cL_law_ 911 = .ok (.iadd, 1) := by decide +kernel
theorem dL_law__912 : decode cL_law_ 912 = .ok (.iaload, 1) := by decide +kernel
theorem dL_law__913 : decode cL_law_ 913 = .ok (.invokevirtual 126, 3) := by decide +kernel
theorem dL_law__916 : decode cL_law_ 916 = .ok (.istore 6, 2) := by decide +kernel
theorem dL_law__918 : decode cL_law_ 918 = .ok (.aload_n 2, 1) := by decide +kernel
theorem dL_law__919 : decode cL_law_ 919 = .ok (.invokevirtual 89, 3) := by decide +kernel
theorem dL_law__922 : decode cL_law_ 922 = .ok (.iload 5, 2) := by decide +kernel
theorem dL_law__924 : decode cL_law_ 924 = .ok (.if_icmp .eq 5, 3) := by decide +kernel
theorem dL_law__927 : decode cL_law_ 927 = .ok (.iconst 0, 1) := by decide +kernel
theorem dL_law__928 : decode cL_law_ 928 = .ok (.ireturn, 1) := by decide +kernel
theorem dL_law__929 : decode cL_law_ 929 = .ok (.iload 5, 2) := by decide +kernel
theorem dL_law__931 : decode cL_law_ 931 = .ok (.ifCond .ne 15, 3) := by decide +kernel
theorem dL_law__934 : decode cL_law_ 934 = .ok (.aload_n 3, 1) := by decide +kernel
theorem dL_law__935 : decode cL_law_ 935 = .ok (.iconst 0, 1) := by decide +kernel
theorem dL_law__936 : decode cL_law_ 936 = .ok (.laload, 1) := by decide +kernel
theorem dL_law__937 : decode cL_law_ 937 = .ok (.iload 6, 2) := by decide +kernel
theorem dL_law__939 : decode cL_law_ 939 = .ok (.i2l, 1) := by decide +kernel
theorem dL_law__940 : decode cL_law_ 940 = .ok (.lcmp, 1) := by decide +kernel
theorem dL_law__941 : decode cL_law_ 941 = .ok (.ifCond .eq 5, 3) := by decide +kernel
theorem dL_law__944 : decode cL_law_ 944 = .ok (.iconst 0, 1) := by decide +kernel
theorem dL_law__945 : decode cL_law_ 945 = .ok (.ireturn, 1) := by decide +kernel
theorem dL_law__946 : decode cL_law_ 946 = .ok (.goto 747, 3) := by decide +kernel
theorem dL_law__949 : decode cL_law_ 949 = .ok (.aload_n 1, 1) := by decide +kernel
theorem dL_law__950 : decode cL_law_ 950 = .ok (.aload_n 0, 1) := by decide +kernel
theorem dL_law__951 : decode cL_law_ 951 = .ok (.iload 4, 2) := by decide +kernel
theorem dL_law__953 : decode cL_law_ 953 = .ok (.iconst 1, 1) := by decide +kernel
theorem dL_law__954 : decode cL_law_ 954 = .ok (.iadd, 1) := by decide +kernel
theorem dL_law__955 : decode cL_law_ 955 = .ok (.iaload, 1) := by decide +kernel
theorem dL_law__956 : decode cL_law_ 956 = .ok (.aload_n 0, 1) := by decide +kernel
theorem dL_law__957 : decode cL_law_ 957 = .ok (.iload 4, 2) := by decide +kernel
theorem dL_law__959 : decode cL_law_ 959 = .ok (.iconst 2, 1) := by decide +kernel
theorem dL_law__960 : decode cL_law_ 960 = .ok (.iadd, 1) := by decide +kernel
theorem dL_law__961 : decode cL_law_ 961 = .ok (.iaload, 1) := by decide +kernel
theorem dL_law__962 : decode cL_law_ 962 = .ok (.aload_n 0, 1) := by decide +kernel
theorem dL_law__963 : decode cL_law_ 963 = .ok (.iload 4, 2) := by decide +kernel
theorem dL_law__965 : decode cL_law_ 965 = .ok (.iconst 3, 1) := by decide +kernel
theorem dL_law__966 : decode cL_law_ 966 = .ok (.iadd, 1) := by decide +kernel
theorem dL_law__967 : decode cL_law_ 967 = .ok (.iaload, 1) := by decide +kernel
theorem dL_law__968 : decode cL_law_ 968 = .ok (.aload_n 3, 1) := by decide +kernel
theorem dL_law__969 : decode cL_law_ 969 = .ok (.invokestatic 127, 3) := by decide +kernel
theorem dL_law__972 : decode cL_law_ 972 = .ok (.istore 5, 2) := by decide +kernel
theorem dL_law__974 : decode cL_law_ 974 = .ok (.aload_n 2, 1) := by decide +kernel
theorem dL_law__975 : decode cL_law_ 975 = .ok (.aload_n 0, 1) := by decide +kernel
theorem dL_law__976 : decode cL_law_ 976 = .ok (.iload 4, 2) := by decide +kernel
theorem dL_law__978 : decode cL_law_ 978 = .ok (.iconst 1, 1) := by decide +kernel
theorem dL_law__979 : decode cL_law_ 979 = .ok (.iadd, 1) := by decide +kernel
theorem dL_law__980 : decode cL_law_ 980 = .ok (.iaload, 1) := by decide +kernel
theorem dL_law__981 : decode cL_law_ 981 = .ok (.aload_n 0, 1) := by decide +kernel
theorem dL_law__982 : decode cL_law_ 982 = .ok (.iload 4, 2) := by decide +kernel
theorem dL_law__984 : decode cL_law_ 984 = .ok (.iconst 2, 1) := by decide +kernel
theorem dL_law__985 : decode cL_law_ 985 = .ok (.iadd, 1) := by decide +kernel
theorem dL_law__986 : decode cL_law_ 986 = .ok (.iaload, 1) := by decide +kernel
theorem dL_law__987 : decode cL_law_ 987 = .ok (.aload_n 0, 1) := by decide +kernel
theorem dL_law__988 : decode cL_law_ 988 = .ok (.iload 4, 2) := by decide +kernel
theorem dL_law__990 : decode cL_law_ 990 = .ok (.iconst 3, 1) := by decide +kernel
theorem dL_law__991 : decode cL_law_ 991 = .ok (.iadd, 1) := by decide +kernel
theorem dL_law__992 : decode cL_law_ 992 = .ok (.iaload, 1) := by decide +kernel
theorem dL_law__993 : decode cL_law_ 993 = .ok (.invokevirtual 129, 3) := by decide +kernel
theorem dL_law__996 : decode cL_law_ 996 = .ok (.istore 6, 2) := by decide +kernel
theorem dL_law__998 : decode cL_law_ 998 = .ok (.aload_n 2, 1) := by decide +kernel
theorem dL_law__999 : decode cL_law_ 999 = .ok (.invokevirtual 89, 3) := by decide +kernel
theorem dL_law__1002 : decode cL_law_ 1002 = .ok (.iload 5, 2) := by decide +kernel
theorem dL_law__1004 : decode cL_law_ 1004 = .ok (.if_icmp .eq 5, 3) := by decide +kernel
theorem dL_law__1007 : decode cL_law_ 1007 = .ok (.iconst 0, 1) := by decide +kernel
theorem dL_law__1008 : decode cL_law_ 1008 = .ok (.ireturn, 1) := by decide +kernel
theorem dL_law__1009 : decode cL_law_ 1009 = .ok (.iload 5, 2) := by decide +kernel
theorem dL_law__1011 : decode cL_law_ 1011 = .ok (.ifCond .ne 15, 3) := by decide +kernel
theorem dL_law__1014 : decode cL_law_ 1014 = .ok (.aload_n 3, 1) := by decide +kernel
theorem dL_law__1015 : decode cL_law_ 1015 = .ok (.iconst 0, 1) := by decide +kernel
theorem dL_law__1016 : decode cL_law_ 1016 = .ok (.laload, 1) := by decide +kernel
theorem dL_law__1017 : decode cL_law_ 1017 = .ok (.iload 6, 2) := by decide +kernel
theorem dL_law__1019 : decode cL_law_ 1019 = .ok (.i2l, 1) := by decide +kernel
theorem dL_law__1020 : decode cL_law_ 1020 = .ok (.lcmp, 1) := by decide +kernel
theorem dL_law__1021 : decode cL_law_ 1021 = .ok (.ifCond .eq 5, 3) := by decide +kernel
theorem dL_law__1024 : decode cL_law_ 1024 = .ok (.iconst 0, 1) := by decide +kernel
theorem dL_law__1025 : decode cL_law_ 1025 = .ok (.ireturn, 1) := by decide +kernel
theorem dL_law__1026 : decode cL_law_ 1026 = .ok (.goto 667, 3) := by decide +kernel
theorem dL_law__1029 : decode cL_law_ 1029 = .ok (.aload_n 1, 1) := by decide +kernel
theorem dL_law__1030 : decode cL_law_ 1030 = .ok (.aload_n 0, 1) := by decide +kernel
theorem dL_law__1031 : decode cL_law_ 1031 = .ok (.iload 4, 2) := by decide +kernel
theorem dL_law__1033 : decode cL_law_ 1033 = .ok (.iconst 1, 1) := by decide +kernel
theorem dL_law__1034 : decode cL_law_ 1034 = .ok (.iadd, 1) := by decide +kernel
theorem dL_law__1035 : decode cL_law_ 1035 = .ok (.iaload, 1) := by decide +kernel
theorem dL_law__1036 : decode cL_law_ 1036 = .ok (.aload_n 0, 1) := by decide +kernel
theorem dL_law__1037 : decode cL_law_ 1037 = .ok (.iload 4, 2) := by decide +kernel
theorem dL_law__1039 : decode cL_law_ 1039 = .ok (.iconst 2, 1) := by decide +kernel
theorem dL_law__1040 : decode cL_law_ 1040 = .ok (.iadd, 1) := by decide +kernel
theorem dL_law__1041 : decode cL_law_ 1041 = .ok (.iaload, 1) := by decide +kernel
theorem dL_law__1042 : decode cL_law_ 1042 = .ok (.aload_n 0, 1) := by decide +kernel
theorem dL_law__1043 : decode cL_law_ 1043 = .ok (.iload 4, 2) := by decide +kernel
theorem dL_law__1045 : decode cL_law_ 1045 = .ok (.iconst 3, 1) := by decide +kernel
theorem dL_law__1046 : decode cL_law_ 1046 = .ok (.iadd, 1) := by decide +kernel
theorem dL_law__1047 : decode cL_law_ 1047 = .ok (.iaload, 1) := by decide +kernel
theorem dL_law__1048 : decode cL_law_ 1048 = .ok (.aload_n 0, 1) := by decide +kernel
theorem dL_law__1049 : decode cL_law_ 1049 = .ok (.iload 4, 2) := by decide +kernel
theorem dL_law__1051 : decode cL_law_ 1051 = .ok (.iconst 4, 1) := by decide +kernel
theorem dL_law__1052 : decode cL_law_ 1052 = .ok (.iadd, 1) := by decide +kernel
theorem dL_law__1053 : decode cL_law_ 1053 = .ok (.iaload, 1) := by decide +kernel
theorem dL_law__1054 : decode cL_law_ 1054 = .ok (.aload_n 0, 1) := by decide +kernel
theorem dL_law__1055 : decode cL_law_ 1055 = .ok (.iload 4, 2) := by decide +kernel
theorem dL_law__1057 : decode cL_law_ 1057 = .ok (.iconst 5, 1) := by decide +kernel
theorem dL_law__1058 : decode cL_law_ 1058 = .ok (.iadd, 1) := by decide +kernel
theorem dL_law__1059 : decode cL_law_ 1059 = .ok (.iaload, 1) := by decide +kernel
theorem dL_law__1060 : decode cL_law_ 1060 = .ok (.aload_n 3, 1) := by decide +kernel
theorem dL_law__1061 : decode cL_law_ 1061 = .ok (.invokestatic 130, 3) := by decide +kernel
theorem dL_law__1064 : decode cL_law_ 1064 = .ok (.istore 5, 2) := by decide +kernel
theorem dL_law__1066 : decode cL_law_ 1066 = .ok (.aload_n 2, 1) := by decide +kernel
theorem dL_law__1067 : decode cL_law_ 1067 = .ok (.aload_n 0, 1) := by decide +kernel
theorem dL_law__1068 : decode cL_law_ 1068 = .ok (.iload 4, 2) := by decide +kernel
theorem dL_law__1070 : decode cL_law_ 1070 = .ok (.iconst 1, 1) := by decide +kernel
theorem dL_law__1071 : decode cL_law_ 1071 = .ok (.iadd, 1) := by decide +kernel
theorem dL_law__1072 : decode cL_law_ 1072 = .ok (.iaload, 1) := by decide +kernel
theorem dL_law__1073 : decode cL_law_ 1073 = .ok (.aload_n 0, 1) := by decide +kernel
theorem dL_law__1074 : decode cL_law_ 1074 = .ok (.iload 4, 2) := by decide +kernel
theorem dL_law__1076 : decode cL_law_ 1076 = .ok (.iconst 2, 1) := by decide +kernel
theorem dL_law__1077 : decode cL_law_ 1077 = .ok (.iadd, 1) := by decide +kernel
theorem dL_law__1078 : decode cL_law_ 1078 = .ok (.iaload, 1) := by decide +kernel
theorem dL_law__1079 : decode cL_law_ 1079 = .ok (.aload_n 0, 1) := by decide +kernel
theorem dL_law__1080 : decode cL_law_ 1080 = .ok (.iload 4, 2) := by decide +kernel
theorem dL_law__1082 : decode cL_law_ 1082 = .ok (.iconst 3, 1) := by decide +kernel
theorem dL_law__1083 : decode cL_law_ 1083 = .ok (.iadd, 1) := by decide +kernel
theorem dL_law__1084 : decode cL_law_ 1084 = .ok (.iaload, 1) := by decide +kernel
theorem dL_law__1085 : decode cL_law_ 1085 = .ok (.aload_n 0, 1) := by decide +kernel
theorem dL_law__1086 : decode cL_law_ 1086 = .ok (.iload 4, 2) := by decide +kernel
theorem dL_law__1088 : decode cL_law_ 1088 = .ok (.iconst 4, 1) := by decide +kernel
theorem dL_law__1089 : decode cL_law_ 1089 = .ok (.iadd, 1) := by decide +kernel
theorem dL_law__1090 : decode cL_law_ 1090 = .ok (.iaload, 1) := by decide +kernel
theorem dL_law__1091 : decode cL_law_ 1091 = .ok (.aload_n 0, 1) := by decide +kernel
theorem dL_law__1092 : decode cL_law_ 1092 = .ok (.iload 4, 2) := by decide +kernel
theorem dL_law__1094 : decode cL_law_ 1094 = .ok (.iconst 5, 1) := by decide +kernel
theorem dL_law__1095 : decode cL_law_ 1095 = .ok (.iadd, 1) := by decide +kernel
theorem dL_law__1096 : decode cL_law_ 1096 = .ok (.iaload, 1) := by decide +kernel
theorem dL_law__1097 : decode cL_law_ 1097 = .ok (.invokevirtual 133, 3) := by decide +kernel
theorem dL_law__1100 : decode cL_law_ 1100 = .ok (.istore 6, 2) := by decide +kernel
theorem dL_law__1102 : decode cL_law_ 1102 = .ok (.aload_n 2, 1) := by decide +kernel
theorem dL_law__1103 : decode cL_law_ 1103 = .ok (.invokevirtual 89, 3) := by decide +kernel
theorem dL_law__1106 : decode cL_law_ 1106 = .ok (.iload 5, 2) := by decide +kernel
theorem dL_law__1108 : decode cL_law_ 1108 = .ok (.if_icmp .eq 5, 3) := by decide +kernel
theorem dL_law__1111 : decode cL_law_ 1111 = .ok (.iconst 0, 1) := by decide +kernel
theorem dL_law__1112 : decode cL_law_ 1112 = .ok (.ireturn, 1) := by decide +kernel
theorem dL_law__1113 : decode cL_law_ 1113 = .ok (.iload 5, 2) := by decide +kernel
theorem dL_law__1115 : decode cL_law_ 1115 = .ok (.ifCond .ne 15, 3) := by decide +kernel
theorem dL_law__1118 : decode cL_law_ 1118 = .ok (.aload_n 3, 1) := by decide +kernel
theorem dL_law__1119 : decode cL_law_ 1119 = .ok (.iconst 0, 1) := by decide +kernel
theorem dL_law__1120 : decode cL_law_ 1120 = .ok (.laload, 1) := by decide +kernel
theorem dL_law__1121 : decode cL_law_ 1121 = .ok (.iload 6, 2) := by decide +kernel
theorem dL_law__1123 : decode cL_law_ 1123 = .ok (.i2l, 1) := by decide +kernel
theorem dL_law__1124 : decode cL_law_ 1124 = .ok (.lcmp, 1) := by decide +kernel
theorem dL_law__1125 : decode cL_law_ 1125 = .ok (.ifCond .eq 5, 3) := by decide +kernel
theorem dL_law__1128 : decode cL_law_ 1128 = .ok (.iconst 0, 1) := by decide +kernel
theorem dL_law__1129 : decode cL_law_ 1129 = .ok (.ireturn, 1) := by decide +kernel
theorem dL_law__1130 : decode cL_law_ 1130 = .ok (.goto 563, 3) := by decide +kernel
theorem dL_law__1133 : decode cL_law_ 1133 = .ok (.aload_n 1, 1) := by decide +kernel
theorem dL_law__1134 : decode cL_law_ 1134 = .ok (.aload_n 0, 1) := by decide +kernel
theorem dL_law__1135 : decode cL_law_ 1135 = .ok (.iload 4, 2) := by decide +kernel
theorem dL_law__1137 : decode cL_law_ 1137 = .ok (.iconst 1, 1) := by decide +kernel
theorem dL_law__1138 : decode cL_law_ 1138 = .ok (.iadd, 1) := by decide +kernel
theorem dL_law__1139 : decode cL_law_ 1139 = .ok (.iaload, 1) := by decide +kernel
theorem dL_law__1140 : decode cL_law_ 1140 = .ok (.aload_n 0, 1) := by decide +kernel
theorem dL_law__1141 : decode cL_law_ 1141 = .ok (.iload 4, 2) := by decide +kernel
theorem dL_law__1143 : decode cL_law_ 1143 = .ok (.iconst 2, 1) := by decide +kernel
theorem dL_law__1144 : decode cL_law_ 1144 = .ok (.iadd, 1) := by decide +kernel
theorem dL_law__1145 : decode cL_law_ 1145 = .ok (.iaload, 1) := by decide +kernel
theorem dL_law__1146 : decode cL_law_ 1146 = .ok (.aload_n 0, 1) := by decide +kernel
theorem dL_law__1147 : decode cL_law_ 1147 = .ok (.iload 4, 2) := by decide +kernel
theorem dL_law__1149 : decode cL_law_ 1149 = .ok (.iconst 3, 1) := by decide +kernel
theorem dL_law__1150 : decode cL_law_ 1150 = .ok (.iadd, 1) := by decide +kernel
theorem dL_law__1151 : decode cL_law_ 1151 = .ok (.iaload, 1) := by decide +kernel
theorem dL_law__1152 : decode cL_law_ 1152 = .ok (.aload_n 0, 1) := by decide +kernel
theorem dL_law__1153 : decode cL_law_ 1153 = .ok (.iload 4, 2) := by decide +kernel
theorem dL_law__1155 : decode cL_law_ 1155 = .ok (.iconst 4, 1) := by decide +kernel
theorem dL_law__1156 : decode cL_law_ 1156 = .ok (.iadd, 1) := by decide +kernel
theorem dL_law__1157 : decode cL_law_ 1157 = .ok (.iaload, 1) := by decide +kernel
theorem dL_law__1158 : decode cL_law_ 1158 = .ok (.aload_n 3, 1) := by decide +kernel
theorem dL_law__1159 : decode cL_law_ 1159 = .ok (.invokestatic 134, 3) := by decide +kernel
theorem dL_law__1162 : decode cL_law_ 1162 = .ok (.istore 5, 2) := by decide +kernel
theorem dL_law__1164 : decode cL_law_ 1164 = .ok (.aload_n 2, 1) := by decide +kernel
theorem dL_law__1165 : decode cL_law_ 1165 = .ok (.aload_n 0, 1) := by decide +kernel
theorem dL_law__1166 : decode cL_law_ 1166 = .ok (.iload 4, 2) := by decide +kernel
theorem dL_law__1168 : decode cL_law_ 1168 = .ok (.iconst 1, 1) := by decide +kernel
theorem dL_law__1169 : decode cL_law_ 1169 = .ok (.iadd, 1) := by decide +kernel
theorem dL_law__1170 : decode cL_law_ 1170 = .ok (.iaload, 1) := by decide +kernel
theorem dL_law__1171 : decode cL_law_ 1171 = .ok (.aload_n 0, 1) := by decide +kernel
theorem dL_law__1172 : decode cL_law_ 1172 = .ok (.iload 4, 2) := by decide +kernel
theorem dL_law__1174 : decode cL_law_ 1174 = .ok (.iconst 2, 1) := by decide +kernel
theorem dL_law__1175 : decode cL_law_ 1175 = .ok (.iadd, 1) := by decide +kernel
theorem dL_law__1176 : decode cL_law_ 1176 = .ok (.iaload, 1) := by decide +kernel
theorem dL_law__1177 : decode cL_law_ 1177 = .ok (.aload_n 0, 1) := by decide +kernel
theorem dL_law__1178 : decode cL_law_ 1178 = .ok (.iload 4, 2) := by decide +kernel
theorem dL_law__1180 : decode cL_law_ 1180 = .ok (.iconst 3, 1) := by decide +kernel
theorem dL_law__1181 : decode cL_law_ 1181 = .ok (.iadd, 1) := by decide +kernel
theorem dL_law__1182 : decode cL_law_ 1182 = .ok (.iaload, 1) := by decide +kernel
theorem dL_law__1183 : decode cL_law_ 1183 = .ok (.aload_n 0, 1) := by decide +kernel
theorem dL_law__1184 : decode cL_law_ 1184 = .ok (.iload 4, 2) := by decide +kernel
theorem dL_law__1186 : decode cL_law_ 1186 = .ok (.iconst 4, 1) := by decide +kernel
theorem dL_law__1187 : decode cL_law_ 1187 = .ok (.iadd, 1) := by decide +kernel
theorem dL_law__1188 : decode cL_law_ 1188 = .ok (.iaload, 1) := by decide +kernel
theorem dL_law__1189 : decode cL_law_ 1189 = .ok (.invokevirtual 136, 3) := by decide +kernel
theorem dL_law__1192 : decode cL_law_ 1192 = .ok (.istore 6, 2) := by decide +kernel
theorem dL_law__1194 : decode cL_law_ 1194 = .ok (.aload_n 2, 1) := by decide +kernel
theorem dL_law__1195 : decode cL_law_ 1195 = .ok (.invokevirtual 89, 3) := by decide +kernel
theorem dL_law__1198 : decode cL_law_ 1198 = .ok (.iload 5, 2) := by decide +kernel
theorem dL_law__1200 : decode cL_law_ 1200 = .ok (.if_icmp .eq 5, 3) := by decide +kernel
theorem dL_law__1203 : decode cL_law_ 1203 = .ok (.iconst 0, 1) := by decide +kernel
theorem dL_law__1204 : decode cL_law_ 1204 = .ok (.ireturn, 1) := by decide +kernel
theorem dL_law__1205 : decode cL_law_ 1205 = .ok (.iload 5, 2) := by decide +kernel
theorem dL_law__1207 : decode cL_law_ 1207 = .ok (.ifCond .ne 15, 3) := by decide +kernel
theorem dL_law__1210 : decode cL_law_ 1210 = .ok (.aload_n 3, 1) := by decide +kernel
theorem dL_law__1211 : decode cL_law_ 1211 = .ok (.iconst 0, 1) := by decide +kernel
theorem dL_law__1212 : decode cL_law_ 1212 = .ok (.laload, 1) := by decide +kernel
theorem dL_law__1213 : decode cL_law_ 1213 = .ok (.iload 6, 2) := by decide +kernel
theorem dL_law__1215 : decode cL_law_ 1215 = .ok (.i2l, 1) := by decide +kernel
theorem dL_law__1216 : decode cL_law_ 1216 = .ok (.lcmp, 1) := by decide +kernel
theorem dL_law__1217 : decode cL_law_ 1217 = .ok (.ifCond .eq 5, 3) := by decide +kernel
theorem dL_law__1220 : decode cL_law_ 1220 = .ok (.iconst 0, 1) := by decide +kernel
theorem dL_law__1221 : decode cL_law_ 1221 = .ok (.ireturn, 1) := by decide +kernel
theorem dL_law__1222 : decode cL_law_ 1222 = .ok (.goto 471, 3) := by decide +kernel
theorem dL_law__1225 : decode cL_law_ 1225 = .ok (.aload_n 1, 1) := by decide +kernel
theorem dL_law__1226 : decode cL_law_ 1226 = .ok (.aload_n 0, 1) := by decide +kernel
theorem dL_law__1227 : decode cL_law_ 1227 = .ok (.iload 4, 2) := by decide +kernel
theorem dL_law__1229 : decode cL_law_ 1229 = .ok (.iconst 1, 1) := by decide +kernel
theorem dL_law__1230 : decode cL_law_ 1230 = .ok (.iadd, 1) := by decide +kernel
theorem dL_law__1231 : decode cL_law_ 1231 = .ok (.iaload, 1) := by decide +kernel
theorem dL_law__1232 : decode cL_law_ 1232 = .ok (.aload_n 0, 1) := by decide +kernel
theorem dL_law__1233 : decode cL_law_ 1233 = .ok (.iload 4, 2) := by decide +kernel
theorem dL_law__1235 : decode cL_law_ 1235 = .ok (.iconst 2, 1) := by decide +kernel
theorem dL_law__1236 : decode cL_law_ 1236 = .ok (.iadd, 1) := by decide +kernel
theorem dL_law__1237 : decode cL_law_ 1237 = .ok (.iaload, 1) := by decide +kernel
theorem dL_law__1238 : decode cL_law_ 1238 = .ok (.aload_n 3, 1) := by decide +kernel
theorem dL_law__1239 : decode cL_law_ 1239 = .ok (.invokestatic 137, 3) := by decide +kernel
theorem dL_law__1242 : decode cL_law_ 1242 = .ok (.istore 5, 2) := by decide +kernel
theorem dL_law__1244 : decode cL_law_ 1244 = .ok (.aload_n 2, 1) := by decide +kernel
theorem dL_law__1245 : decode cL_law_ 1245 = .ok (.aload_n 0, 1) := by decide +kernel
theorem dL_law__1246 : decode cL_law_ 1246 = .ok (.iload 4, 2) := by decide +kernel
theorem dL_law__1248 : decode cL_law_ 1248 = .ok (.iconst 1, 1) := by decide +kernel
theorem dL_law__1249 : decode cL_law_ 1249 = .ok (.iadd, 1) := by decide +kernel
theorem dL_law__1250 : decode cL_law_ 1250 = .ok (.iaload, 1) := by decide +kernel
theorem dL_law__1251 : decode cL_law_ 1251 = .ok (.aload_n 0, 1) := by decide +kernel
theorem dL_law__1252 : decode cL_law_ 1252 = .ok (.iload 4, 2) := by decide +kernel
theorem dL_law__1254 : decode cL_law_ 1254 = .ok (.iconst 2, 1) := by decide +kernel
theorem dL_law__1255 : decode cL_law_ 1255 = .ok (.iadd, 1) := by decide +kernel
theorem dL_law__1256 : decode cL_law_ 1256 = .ok (.iaload, 1) := by decide +kernel
theorem dL_law__1257 : decode cL_law_ 1257 = .ok (.invokevirtual 139, 3) := by decide +kernel
theorem dL_law__1260 : decode cL_law_ 1260 = .ok (.istore 6, 2) := by decide +kernel
theorem dL_law__1262 : decode cL_law_ 1262 = .ok (.aload_n 2, 1) := by decide +kernel
theorem dL_law__1263 : decode cL_law_ 1263 = .ok (.invokevirtual 89, 3) := by decide +kernel
theorem dL_law__1266 : decode cL_law_ 1266 = .ok (.iload 5, 2) := by decide +kernel
theorem dL_law__1268 : decode cL_law_ 1268 = .ok (.if_icmp .eq 5, 3) := by decide +kernel
theorem dL_law__1271 : decode cL_law_ 1271 = .ok (.iconst 0, 1) := by decide +kernel
theorem dL_law__1272 : decode cL_law_ 1272 = .ok (.ireturn, 1) := by decide +kernel
theorem dL_law__1273 : decode cL_law_ 1273 = .ok (.iload 5, 2) := by decide +kernel
theorem dL_law__1275 : decode cL_law_ 1275 = .ok (.ifCond .ne 15, 3) := by decide +kernel
theorem dL_law__1278 : decode cL_law_ 1278 = .ok (.aload_n 3, 1) := by decide +kernel
theorem dL_law__1279 : decode cL_law_ 1279 = .ok (.iconst 0, 1) := by decide +kernel
theorem dL_law__1280 : decode cL_law_ 1280 = .ok (.laload, 1) := by decide +kernel
theorem dL_law__1281 : decode cL_law_ 1281 = .ok (.iload 6, 2) := by decide +kernel
theorem dL_law__1283 : decode cL_law_ 1283 = .ok (.i2l, 1) := by decide +kernel
theorem dL_law__1284 : decode cL_law_ 1284 = .ok (.lcmp, 1) := by decide +kernel
theorem dL_law__1285 : decode cL_law_ 1285 = .ok (.ifCond .eq 5, 3) := by decide +kernel
theorem dL_law__1288 : decode cL_law_ 1288 = .ok (.iconst 0, 1) := by decide +kernel
theorem dL_law__1289 : decode cL_law_ 1289 = .ok (.ireturn, 1) := by decide +kernel
theorem dL_law__1290 : decode cL_law_ 1290 = .ok (.goto 403, 3) := by decide +kernel
theorem dL_law__1293 : decode cL_law_ 1293 = .ok (.aload_n 1, 1) := by decide +kernel
theorem dL_law__1294 : decode cL_law_ 1294 = .ok (.aload_n 0, 1) := by decide +kernel
theorem dL_law__1295 : decode cL_law_ 1295 = .ok (.iload 4, 2) := by decide +kernel
theorem dL_law__1297 : decode cL_law_ 1297 = .ok (.iconst 1, 1) := by decide +kernel
theorem dL_law__1298 : decode cL_law_ 1298 = .ok (.iadd, 1) := by decide +kernel
theorem dL_law__1299 : decode cL_law_ 1299 = .ok (.iaload, 1) := by decide +kernel
theorem dL_law__1300 : decode cL_law_ 1300 = .ok (.aload_n 0, 1) := by decide +kernel
theorem dL_law__1301 : decode cL_law_ 1301 = .ok (.iload 4, 2) := by decide +kernel
theorem dL_law__1303 : decode cL_law_ 1303 = .ok (.iconst 2, 1) := by decide +kernel
theorem dL_law__1304 : decode cL_law_ 1304 = .ok (.iadd, 1) := by decide +kernel
theorem dL_law__1305 : decode cL_law_ 1305 = .ok (.iaload, 1) := by decide +kernel
theorem dL_law__1306 : decode cL_law_ 1306 = .ok (.aload_n 0, 1) := by decide +kernel
theorem dL_law__1307 : decode cL_law_ 1307 = .ok (.iload 4, 2) := by decide +kernel
theorem dL_law__1309 : decode cL_law_ 1309 = .ok (.iconst 3, 1) := by decide +kernel
theorem dL_law__1310 : decode cL_law_ 1310 = .ok (.iadd, 1) := by decide +kernel
theorem dL_law__1311 : decode cL_law_ 1311 = .ok (.iaload, 1) := by decide +kernel
theorem dL_law__1312 : decode cL_law_ 1312 = .ok (.aload_n 0, 1) := by decide +kernel
theorem dL_law__1313 : decode cL_law_ 1313 = .ok (.iload 4, 2) := by decide +kernel
theorem dL_law__1315 : decode cL_law_ 1315 = .ok (.iconst 4, 1) := by decide +kernel
theorem dL_law__1316 : decode cL_law_ 1316 = .ok (.iadd, 1) := by decide +kernel
theorem dL_law__1317 : decode cL_law_ 1317 = .ok (.iaload, 1) := by decide +kernel
theorem dL_law__1318 : decode cL_law_ 1318 = .ok (.aload_n 3, 1) := by decide +kernel
theorem dL_law__1319 : decode cL_law_ 1319 = .ok (.invokestatic 140, 3) := by decide +kernel
theorem dL_law__1322 : decode cL_law_ 1322 = .ok (.istore 5, 2) := by decide +kernel
theorem dL_law__1324 : decode cL_law_ 1324 = .ok (.aload_n 2, 1) := by decide +kernel
theorem dL_law__1325 : decode cL_law_ 1325 = .ok (.aload_n 0, 1) := by decide +kernel
theorem dL_law__1326 : decode cL_law_ 1326 = .ok (.iload 4, 2) := by decide +kernel
theorem dL_law__1328 : decode cL_law_ 1328 = .ok (.iconst 1, 1) := by decide +kernel
theorem dL_law__1329 : decode cL_law_ 1329 = .ok (.iadd, 1) := by decide +kernel
theorem dL_law__1330 : decode cL_law_ 1330 = .ok (.iaload, 1) := by decide +kernel
theorem dL_law__1331 : decode cL_law_ 1331 = .ok (.aload_n 0, 1) := by decide +kernel
theorem dL_law__1332 : decode cL_law_ 1332 = .ok (.iload 4, 2) := by decide +kernel
theorem dL_law__1334 : decode cL_law_ 1334 = .ok (.iconst 2, 1) := by decide +kernel
theorem dL_law__1335 : decode cL_law_ 1335 = .ok (.iadd, 1) := by decide +kernel
theorem dL_law__1336 : decode cL_law_ 1336 = .ok (.iaload, 1) := by decide +kernel
theorem dL_law__1337 : decode cL_law_ 1337 = .ok (.aload_n 0, 1) := by decide +kernel
theorem dL_law__1338 : decode cL_law_ 1338 = .ok (.iload 4, 2) := by decide +kernel
theorem dL_law__1340 : decode cL_law_ 1340 = .ok (.iconst 3, 1) := by decide +kernel
theorem dL_law__1341 : decode cL_law_ 1341 = .ok (.iadd, 1) := by decide +kernel
theorem dL_law__1342 : decode cL_law_ 1342 = .ok (.iaload, 1) := by decide +kernel
theorem dL_law__1343 : decode cL_law_ 1343 = .ok (.aload_n 0, 1) := by decide +kernel
theorem dL_law__1344 : decode cL_law_ 1344 = .ok (.iload 4, 2) := by decide +kernel
theorem dL_law__1346 : decode cL_law_ 1346 = .ok (.iconst 4, 1) := by decide +kernel
theorem dL_law__1347 : decode cL_law_ 1347 = .ok (.iadd, 1) := by decide +kernel
theorem dL_law__1348 : decode cL_law_ 1348 = .ok (.iaload, 1) := by decide +kernel
theorem dL_law__1349 : decode cL_law_ 1349 = .ok (.invokevirtual 142, 3) := by decide +kernel
theorem dL_law__1352 : decode cL_law_ 1352 = .ok (.istore 6, 2) := by decide +kernel
theorem dL_law__1354 : decode cL_law_ 1354 = .ok (.aload_n 2, 1) := by decide +kernel
theorem dL_law__1355 : decode cL_law_ 1355 = .ok (.invokevirtual 89, 3) := by decide +kernel
theorem dL_law__1358 : decode cL_law_ 1358 = .ok (.iload 5, 2) := by decide +kernel
theorem dL_law__1360 : decode cL_law_ 1360 = .ok (.if_icmp .eq 5, 3) := by decide +kernel
theorem dL_law__1363 : decode cL_law_ 1363 = .ok (.iconst 0, 1) := by decide +kernel
theorem dL_law__1364 : decode cL_law_ 1364 = .ok (.ireturn, 1) := by decide +kernel
theorem dL_law__1365 : decode cL_law_ 1365 = .ok (.iload 5, 2) := by decide +kernel
theorem dL_law__1367 : decode cL_law_ 1367 = .ok (.ifCond .ne 15, 3) := by decide +kernel
theorem dL_law__1370 : decode cL_law_ 1370 = .ok (.aload_n 3, 1) := by decide +kernel
theorem dL_law__1371 : decode cL_law_ 1371 = .ok (.iconst 0, 1) := by decide +kernel
theorem dL_law__1372 : decode cL_law_ 1372 = .ok (.laload, 1) := by decide +kernel
theorem dL_law__1373 : decode cL_law_ 1373 = .ok (.iload 6, 2) := by decide +kernel
theorem dL_law__1375 : decode cL_law_ 1375 = .ok (.i2l, 1) := by decide +kernel
theorem dL_law__1376 : decode cL_law_ 1376 = .ok (.lcmp, 1) := by decide +kernel
theorem dL_law__1377 : decode cL_law_ 1377 = .ok (.ifCond .eq 5, 3) := by decide +kernel
theorem dL_law__1380 : decode cL_law_ 1380 = .ok (.iconst 0, 1) := by decide +kernel
theorem dL_law__1381 : decode cL_law_ 1381 = .ok (.ireturn, 1) := by decide +kernel
theorem dL_law__1382 : decode cL_law_ 1382 = .ok (.goto 311, 3) := by decide +kernel
theorem dL_law__1385 : decode cL_law_ 1385 = .ok (.aload_n 1, 1) := by decide +kernel
theorem dL_law__1386 : decode cL_law_ 1386 = .ok (.aload_n 0, 1) := by decide +kernel
theorem dL_law__1387 : decode cL_law_ 1387 = .ok (.iload 4, 2) := by decide +kernel
theorem dL_law__1389 : decode cL_law_ 1389 = .ok (.iconst 1, 1) := by decide +kernel
theorem dL_law__1390 : decode cL_law_ 1390 = .ok (.iadd, 1) := by decide +kernel
theorem dL_law__1391 : decode cL_law_ 1391 = .ok (.iaload, 1) := by decide +kernel
theorem dL_law__1392 : decode cL_law_ 1392 = .ok (.aload_n 0, 1) := by decide +kernel
theorem dL_law__1393 : decode cL_law_ 1393 = .ok (.iload 4, 2) := by decide +kernel
theorem dL_law__1395 : decode cL_law_ 1395 = .ok (.iconst 2, 1) := by decide +kernel
theorem dL_law__1396 : decode cL_law_ 1396 = .ok (.iadd, 1) := by decide +kernel
theorem dL_law__1397 : decode cL_law_ 1397 = .ok (.iaload, 1) := by decide +kernel
theorem dL_law__1398 : decode cL_law_ 1398 = .ok (.aload_n 0, 1) := by decide +kernel
theorem dL_law__1399 : decode cL_law_ 1399 = .ok (.iload 4, 2) := by decide +kernel
theorem dL_law__1401 : decode cL_law_ 1401 = .ok (.iconst 3, 1) := by decide +kernel
theorem dL_law__1402 : decode cL_law_ 1402 = .ok (.iadd, 1) := by decide +kernel
theorem dL_law__1403 : decode cL_law_ 1403 = .ok (.iaload, 1) := by decide +kernel
theorem dL_law__1404 : decode cL_law_ 1404 = .ok (.aload_n 0, 1) := by decide +kernel
theorem dL_law__1405 : decode cL_law_ 1405 = .ok (.iload 4, 2) := by decide +kernel
theorem dL_law__1407 : decode cL_law_ 1407 = .ok (.iconst 4, 1) := by decide +kernel
theorem dL_law__1408 : decode cL_law_ 1408 = .ok (.iadd, 1) := by decide +kernel
theorem dL_law__1409 : decode cL_law_ 1409 = .ok (.iaload, 1) := by decide +kernel
theorem dL_law__1410 : decode cL_law_ 1410 = .ok (.aload_n 3, 1) := by decide +kernel
theorem dL_law__1411 : decode cL_law_ 1411 = .ok (.invokestatic 143, 3) := by decide +kernel
theorem dL_law__1414 : decode cL_law_ 1414 = .ok (.istore 5, 2) := by decide +kernel
theorem dL_law__1416 : decode cL_law_ 1416 = .ok (.aload_n 2, 1) := by decide +kernel
theorem dL_law__1417 : decode cL_law_ 1417 = .ok (.aload_n 0, 1) := by decide +kernel
theorem dL_law__1418 : decode cL_law_ 1418 = .ok (.iload 4, 2) := by decide +kernel
theorem dL_law__1420 : decode cL_law_ 1420 = .ok (.iconst 1, 1) := by decide +kernel
theorem dL_law__1421 : decode cL_law_ 1421 = .ok (.iadd, 1) := by decide +kernel
theorem dL_law__1422 : decode cL_law_ 1422 = .ok (.iaload, 1) := by decide +kernel
theorem dL_law__1423 : decode cL_law_ 1423 = .ok (.aload_n 0, 1) := by decide +kernel
theorem dL_law__1424 : decode cL_law_ 1424 = .ok (.iload 4, 2) := by decide +kernel
theorem dL_law__1426 : decode cL_law_ 1426 = .ok (.iconst 2, 1) := by decide +kernel
theorem dL_law__1427 : decode cL_law_ 1427 = .ok (.iadd, 1) := by decide +kernel
theorem dL_law__1428 : decode cL_law_ 1428 = .ok (.iaload, 1) := by decide +kernel
theorem dL_law__1429 : decode cL_law_ 1429 = .ok (.aload_n 0, 1) := by decide +kernel
theorem dL_law__1430 : decode cL_law_ 1430 = .ok (.iload 4, 2) := by decide +kernel
theorem dL_law__1432 : decode cL_law_ 1432 = .ok (.iconst 3, 1) := by decide +kernel
theorem dL_law__1433 : decode cL_law_ 1433 = .ok (.iadd, 1) := by decide +kernel
theorem dL_law__1434 : decode cL_law_ 1434 = .ok (.iaload, 1) := by decide +kernel
theorem dL_law__1435 : decode cL_law_ 1435 = .ok (.aload_n 0, 1) := by decide +kernel
theorem dL_law__1436 : decode cL_law_ 1436 = .ok (.iload 4, 2) := by decide +kernel
theorem dL_law__1438 : decode cL_law_ 1438 = .ok (.iconst 4, 1) := by decide +kernel
theorem dL_law__1439 : decode cL_law_ 1439 = .ok (.iadd, 1) := by decide +kernel
theorem dL_law__1440 : decode cL_law_ 1440 = .ok (.iaload, 1) := by decide +kernel
theorem dL_law__1441 : decode cL_law_ 1441 = .ok (.invokevirtual 145, 3) := by decide +kernel
theorem dL_law__1444 : decode cL_law_ 1444 = .ok (.istore 6, 2) := by decide +kernel
theorem dL_law__1446 : decode cL_law_ 1446 = .ok (.aload_n 2, 1) := by decide +kernel
theorem dL_law__1447 : decode cL_law_ 1447 = .ok (.invokevirtual 89, 3) := by decide +kernel
theorem dL_law__1450 : decode cL_law_ 1450 = .ok (.iload 5, 2) := by decide +kernel
theorem dL_law__1452 : decode cL_law_ 1452 = .ok (.if_icmp .eq 5, 3) := by decide +kernel
theorem dL_law__1455 : decode cL_law_ 1455 = .ok (.iconst 0, 1) := by decide +kernel
theorem dL_law__1456 : decode cL_law_ 1456 = .ok (.ireturn, 1) := by decide +kernel
theorem dL_law__1457 : decode cL_law_ 1457 = .ok (.iload 5, 2) := by decide +kernel
theorem dL_law__1459 : decode cL_law_ 1459 = .ok (.ifCond .ne 15, 3) := by decide +kernel
theorem dL_law__1462 : decode cL_law_ 1462 = .ok (.aload_n 3, 1) := by decide +kernel
theorem dL_law__1463 : decode cL_law_ 1463 = .ok (.iconst 0, 1) := by decide +kernel
theorem dL_law__1464 : decode cL_law_ 1464 = .ok (.laload, 1) := by decide +kernel
theorem dL_law__1465 : decode cL_law_ 1465 = .ok (.iload 6, 2) := by decide +kernel
theorem dL_law__1467 : decode cL_law_ 1467 = .ok (.i2l, 1) := by decide +kernel
theorem dL_law__1468 : decode cL_law_ 1468 = .ok (.lcmp, 1) := by decide +kernel
theorem dL_law__1469 : decode cL_law_ 1469 = .ok (.ifCond .eq 5, 3) := by decide +kernel
theorem dL_law__1472 : decode cL_law_ 1472 = .ok (.iconst 0, 1) := by decide +kernel
theorem dL_law__1473 : decode cL_law_ 1473 = .ok (.ireturn, 1) := by decide +kernel
theorem dL_law__1474 : decode cL_law_ 1474 = .ok (.goto 219, 3) := by decide +kernel
theorem dL_law__1477 : decode cL_law_ 1477 = .ok (.aload_n 1, 1) := by decide +kernel
theorem dL_law__1478 : decode cL_law_ 1478 = .ok (.aload_n 0, 1) := by decide +kernel
theorem dL_law__1479 : decode cL_law_ 1479 = .ok (.iload 4, 2) := by decide +kernel
theorem dL_law__1481 : decode cL_law_ 1481 = .ok (.iconst 1, 1) := by decide +kernel
theorem dL_law__1482 : decode cL_law_ 1482 = .ok (.iadd, 1) := by decide +kernel
theorem dL_law__1483 : decode cL_law_ 1483 = .ok (.iaload, 1) := by decide +kernel
theorem dL_law__1484 : decode cL_law_ 1484 = .ok (.aload_n 0, 1) := by decide +kernel
theorem dL_law__1485 : decode cL_law_ 1485 = .ok (.iload 4, 2) := by decide +kernel
theorem dL_law__1487 : decode cL_law_ 1487 = .ok (.iconst 2, 1) := by decide +kernel
theorem dL_law__1488 : decode cL_law_ 1488 = .ok (.iadd, 1) := by decide +kernel
theorem dL_law__1489 : decode cL_law_ 1489 = .ok (.iaload, 1) := by decide +kernel
theorem dL_law__1490 : decode cL_law_ 1490 = .ok (.aload_n 3, 1) := by decide +kernel
theorem dL_law__1491 : decode cL_law_ 1491 = .ok (.invokestatic 146, 3) := by decide +kernel
theorem dL_law__1494 : decode cL_law_ 1494 = .ok (.istore 5, 2) := by decide +kernel
theorem dL_law__1496 : decode cL_law_ 1496 = .ok (.aload_n 2, 1) := by decide +kernel
theorem dL_law__1497 : decode cL_law_ 1497 = .ok (.aload_n 0, 1) := by decide +kernel
theorem dL_law__1498 : decode cL_law_ 1498 = .ok (.iload 4, 2) := by decide +kernel
theorem dL_law__1500 : decode cL_law_ 1500 = .ok (.iconst 1, 1) := by decide +kernel
theorem dL_law__1501 : decode cL_law_ 1501 = .ok (.iadd, 1) := by decide +kernel
theorem dL_law__1502 : decode cL_law_ 1502 = .ok (.iaload, 1) := by decide +kernel
theorem dL_law__1503 : decode cL_law_ 1503 = .ok (.aload_n 0, 1) := by decide +kernel
theorem dL_law__1504 : decode cL_law_ 1504 = .ok (.iload 4, 2) := by decide +kernel
theorem dL_law__1506 : decode cL_law_ 1506 = .ok (.iconst 2, 1) := by decide +kernel
theorem dL_law__1507 : decode cL_law_ 1507 = .ok (.iadd, 1) := by decide +kernel
theorem dL_law__1508 : decode cL_law_ 1508 = .ok (.iaload, 1) := by decide +kernel
theorem dL_law__1509 : decode cL_law_ 1509 = .ok (.invokevirtual 148, 3) := by decide +kernel
theorem dL_law__1512 : decode cL_law_ 1512 = .ok (.istore 6, 2) := by decide +kernel
theorem dL_law__1514 : decode cL_law_ 1514 = .ok (.aload_n 2, 1) := by decide +kernel
theorem dL_law__1515 : decode cL_law_ 1515 = .ok (.invokevirtual 89, 3) := by decide +kernel
theorem dL_law__1518 : decode cL_law_ 1518 = .ok (.iload 5, 2) := by decide +kernel
theorem dL_law__1520 : decode cL_law_ 1520 = .ok (.if_icmp .eq 5, 3) := by decide +kernel
theorem dL_law__1523 : decode cL_law_ 1523 = .ok (.iconst 0, 1) := by decide +kernel
theorem dL_law__1524 : decode cL_law_ 1524 = .ok (.ireturn, 1) := by decide +kernel
theorem dL_law__1525 : decode cL_law_ 1525 = .ok (.iload 5, 2) := by decide +kernel
theorem dL_law__1527 : decode cL_law_ 1527 = .ok (.ifCond .ne 15, 3) := by decide +kernel
theorem dL_law__1530 : decode cL_law_ 1530 = .ok (.aload_n 3, 1) := by decide +kernel
theorem dL_law__1531 : decode cL_law_ 1531 = .ok (.iconst 0, 1) := by decide +kernel
theorem dL_law__1532 : decode cL_law_ 1532 = .ok (.laload, 1) := by decide +kernel
theorem dL_law__1533 : decode cL_law_ 1533 = .ok (.iload 6, 2) := by decide +kernel
theorem dL_law__1535 : decode cL_law_ 1535 = .ok (.i2l, 1) := by decide +kernel
theorem dL_law__1536 : decode cL_law_ 1536 = .ok (.lcmp, 1) := by decide +kernel
theorem dL_law__1537 : decode cL_law_ 1537 = .ok (.ifCond .eq 5, 3) := by decide +kernel
theorem dL_law__1540 : decode cL_law_ 1540 = .ok (.iconst 0, 1) := by decide +kernel
theorem dL_law__1541 : decode cL_law_ 1541 = .ok (.ireturn, 1) := by decide +kernel
theorem dL_law__1542 : decode cL_law_ 1542 = .ok (.goto 151, 3) := by decide +kernel
theorem dL_law__1545 : decode cL_law_ 1545 = .ok (.aload_n 1, 1) := by decide +kernel
theorem dL_law__1546 : decode cL_law_ 1546 = .ok (.aload_n 0, 1) := by decide +kernel
theorem dL_law__1547 : decode cL_law_ 1547 = .ok (.iload 4, 2) := by decide +kernel
theorem dL_law__1549 : decode cL_law_ 1549 = .ok (.iconst 1, 1) := by decide +kernel
theorem dL_law__1550 : decode cL_law_ 1550 = .ok (.iadd, 1) := by decide +kernel
theorem dL_law__1551 : decode cL_law_ 1551 = .ok (.iaload, 1) := by decide +kernel
theorem dL_law__1552 : decode cL_law_ 1552 = .ok (.aload_n 0, 1) := by decide +kernel
theorem dL_law__1553 : decode cL_law_ 1553 = .ok (.iload 4, 2) := by decide +kernel
theorem dL_law__1555 : decode cL_law_ 1555 = .ok (.iconst 2, 1) := by decide +kernel
theorem dL_law__1556 : decode cL_law_ 1556 = .ok (.iadd, 1) := by decide +kernel
theorem dL_law__1557 : decode cL_law_ 1557 = .ok (.iaload, 1) := by decide +kernel
theorem dL_law__1558 : decode cL_law_ 1558 = .ok (.aload_n 0, 1) := by decide +kernel
theorem dL_law__1559 : decode cL_law_ 1559 = .ok (.iload 4, 2) := by decide +kernel
theorem dL_law__1561 : decode cL_law_ 1561 = .ok (.iconst 3, 1) := by decide +kernel
theorem dL_law__1562 : decode cL_law_ 1562 = .ok (.iadd, 1) := by decide +kernel
theorem dL_law__1563 : decode cL_law_ 1563 = .ok (.iaload, 1) := by decide +kernel
theorem dL_law__1564 : decode cL_law_ 1564 = .ok (.aload_n 3, 1) := by decide +kernel
theorem dL_law__1565 : decode cL_law_ 1565 = .ok (.invokestatic 149, 3) := by decide +kernel
theorem dL_law__1568 : decode cL_law_ 1568 = .ok (.istore 5, 2) := by decide +kernel
theorem dL_law__1570 : decode cL_law_ 1570 = .ok (.aload_n 2, 1) := by decide +kernel
theorem dL_law__1571 : decode cL_law_ 1571 = .ok (.aload_n 0, 1) := by decide +kernel
theorem dL_law__1572 : decode cL_law_ 1572 = .ok (.iload 4, 2) := by decide +kernel
theorem dL_law__1574 : decode cL_law_ 1574 = .ok (.iconst 1, 1) := by decide +kernel
theorem dL_law__1575 : decode cL_law_ 1575 = .ok (.iadd, 1) := by decide +kernel
theorem dL_law__1576 : decode cL_law_ 1576 = .ok (.iaload, 1) := by decide +kernel
theorem dL_law__1577 : decode cL_law_ 1577 = .ok (.aload_n 0, 1) := by decide +kernel
theorem dL_law__1578 : decode cL_law_ 1578 = .ok (.iload 4, 2) := by decide +kernel
theorem dL_law__1580 : decode cL_law_ 1580 = .ok (.iconst 2, 1) := by decide +kernel
theorem dL_law__1581 : decode cL_law_ 1581 = .ok (.iadd, 1) := by decide +kernel
theorem dL_law__1582 : decode cL_law_ 1582 = .ok (.iaload, 1) := by decide +kernel
theorem dL_law__1583 : decode cL_law_ 1583 = .ok (.aload_n 0, 1) := by decide +kernel
theorem dL_law__1584 : decode cL_law_ 1584 = .ok (.iload 4, 2) := by decide +kernel
theorem dL_law__1586 : decode cL_law_ 1586 = .ok (.iconst 3, 1) := by decide +kernel
theorem dL_law__1587 : decode cL_law_ 1587 = .ok (.iadd, 1) := by decide +kernel
theorem dL_law__1588 : decode cL_law_ 1588 = .ok (.iaload, 1) := by decide +kernel
theorem dL_law__1589 : decode cL_law_ 1589 = .ok (.invokevirtual 151, 3) := by decide +kernel
theorem dL_law__1592 : decode cL_law_ 1592 = .ok (.istore 6, 2) := by decide +kernel
theorem dL_law__1594 : decode cL_law_ 1594 = .ok (.aload_n 2, 1) := by decide +kernel
theorem dL_law__1595 : decode cL_law_ 1595 = .ok (.invokevirtual 89, 3) := by decide +kernel
theorem dL_law__1598 : decode cL_law_ 1598 = .ok (.iload 5, 2) := by decide +kernel
theorem dL_law__1600 : decode cL_law_ 1600 = .ok (.if_icmp .eq 5, 3) := by decide +kernel
theorem dL_law__1603 : decode cL_law_ 1603 = .ok (.iconst 0, 1) := by decide +kernel
theorem dL_law__1604 : decode cL_law_ 1604 = .ok (.ireturn, 1) := by decide +kernel
theorem dL_law__1605 : decode cL_law_ 1605 = .ok (.iload 5, 2) := by decide +kernel
theorem dL_law__1607 : decode cL_law_ 1607 = .ok (.ifCond .ne 15, 3) := by decide +kernel
theorem dL_law__1610 : decode cL_law_ 1610 = .ok (.aload_n 3, 1) := by decide +kernel
theorem dL_law__1611 : decode cL_law_ 1611 = .ok (.iconst 0, 1) := by decide +kernel
theorem dL_law__1612 : decode cL_law_ 1612 = .ok (.laload, 1) := by decide +kernel
theorem dL_law__1613 : decode cL_law_ 1613 = .ok (.iload 6, 2) := by decide +kernel
theorem dL_law__1615 : decode cL_law_ 1615 = .ok (.i2l, 1) := by decide +kernel
theorem dL_law__1616 : decode cL_law_ 1616 = .ok (.lcmp, 1) := by decide +kernel
theorem dL_law__1617 : decode cL_law_ 1617 = .ok (.ifCond .eq 5, 3) := by decide +kernel
theorem dL_law__1620 : decode cL_law_ 1620 = .ok (.iconst 0, 1) := by decide +kernel
theorem dL_law__1621 : decode cL_law_ 1621 = .ok (.ireturn, 1) := by decide +kernel
theorem dL_law__1622 : decode cL_law_ 1622 = .ok (.goto 71, 3) := by decide +kernel
theorem dL_law__1625 : decode cL_law_ 1625 = .ok (.aload_n 1, 1) := by decide +kernel
theorem dL_law__1626 : decode cL_law_ 1626 = .ok (.aload_n 0, 1) := by decide +kernel
theorem dL_law__1627 : decode cL_law_ 1627 = .ok (.iload 4, 2) := by decide +kernel
theorem dL_law__1629 : decode cL_law_ 1629 = .ok (.iconst 1, 1) := by decide +kernel
theorem dL_law__1630 : decode cL_law_ 1630 = .ok (.iadd, 1) := by decide +kernel
theorem dL_law__1631 : decode cL_law_ 1631 = .ok (.iaload, 1) := by decide +kernel
theorem dL_law__1632 : decode cL_law_ 1632 = .ok (.aload_n 0, 1) := by decide +kernel
theorem dL_law__1633 : decode cL_law_ 1633 = .ok (.iload 4, 2) := by decide +kernel
theorem dL_law__1635 : decode cL_law_ 1635 = .ok (.iconst 2, 1) := by decide +kernel
theorem dL_law__1636 : decode cL_law_ 1636 = .ok (.iadd, 1) := by decide +kernel
theorem dL_law__1637 : decode cL_law_ 1637 = .ok (.iaload, 1) := by decide +kernel
theorem dL_law__1638 : decode cL_law_ 1638 = .ok (.aload_n 3, 1) := by decide +kernel
theorem dL_law__1639 : decode cL_law_ 1639 = .ok (.invokestatic 152, 3) := by decide +kernel
theorem dL_law__1642 : decode cL_law_ 1642 = .ok (.istore 5, 2) := by decide +kernel
theorem dL_law__1644 : decode cL_law_ 1644 = .ok (.aload_n 2, 1) := by decide +kernel
theorem dL_law__1645 : decode cL_law_ 1645 = .ok (.aload_n 0, 1) := by decide +kernel
theorem dL_law__1646 : decode cL_law_ 1646 = .ok (.iload 4, 2) := by decide +kernel
theorem dL_law__1648 : decode cL_law_ 1648 = .ok (.iconst 1, 1) := by decide +kernel
theorem dL_law__1649 : decode cL_law_ 1649 = .ok (.iadd, 1) := by decide +kernel
theorem dL_law__1650 : decode cL_law_ 1650 = .ok (.iaload, 1) := by decide +kernel
theorem dL_law__1651 : decode cL_law_ 1651 = .ok (.aload_n 0, 1) := by decide +kernel
theorem dL_law__1652 : decode cL_law_ 1652 = .ok (.iload 4, 2) := by decide +kernel
theorem dL_law__1654 : decode cL_law_ 1654 = .ok (.iconst 2, 1) := by decide +kernel
theorem dL_law__1655 : decode cL_law_ 1655 = .ok (.iadd, 1) := by decide +kernel
theorem dL_law__1656 : decode cL_law_ 1656 = .ok (.iaload, 1) := by decide +kernel
theorem dL_law__1657 : decode cL_law_ 1657 = .ok (.invokevirtual 154, 3) := by decide +kernel
theorem dL_law__1660 : decode cL_law_ 1660 = .ok (.istore 6, 2) := by decide +kernel
theorem dL_law__1662 : decode cL_law_ 1662 = .ok (.aload_n 2, 1) := by decide +kernel
theorem dL_law__1663 : decode cL_law_ 1663 = .ok (.invokevirtual 89, 3) := by decide +kernel
theorem dL_law__1666 : decode cL_law_ 1666 = .ok (.iload 5, 2) := by decide +kernel
theorem dL_law__1668 : decode cL_law_ 1668 = .ok (.if_icmp .eq 5, 3) := by decide +kernel
theorem dL_law__1671 : decode cL_law_ 1671 = .ok (.iconst 0, 1) := by decide +kernel
theorem dL_law__1672 : decode cL_law_ 1672 = .ok (.ireturn, 1) := by decide +kernel
theorem dL_law__1673 : decode cL_law_ 1673 = .ok (.iload 5, 2) := by decide +kernel
theorem dL_law__1675 : decode cL_law_ 1675 = .ok (.ifCond .ne 15, 3) := by decide +kernel
theorem dL_law__1678 : decode cL_law_ 1678 = .ok (.aload_n 3, 1) := by decide +kernel
theorem dL_law__1679 : decode cL_law_ 1679 = .ok (.iconst 0, 1) := by decide +kernel
theorem dL_law__1680 : decode cL_law_ 1680 = .ok (.laload, 1) := by decide +kernel
theorem dL_law__1681 : decode cL_law_ 1681 = .ok (.iload 6, 2) := by decide +kernel
theorem dL_law__1683 : decode cL_law_ 1683 = .ok (.i2l, 1) := by decide +kernel
theorem dL_law__1684 : decode cL_law_ 1684 = .ok (.lcmp, 1) := by decide +kernel
theorem dL_law__1685 : decode cL_law_ 1685 = .ok (.ifCond .eq 5, 3) := by decide +kernel
theorem dL_law__1688 : decode cL_law_ 1688 = .ok (.iconst 0, 1) := by decide +kernel
theorem dL_law__1689 : decode cL_law_ 1689 = .ok (.ireturn, 1) := by decide +kernel
theorem dL_law__1690 : decode cL_law_ 1690 = .ok (.goto 3, 3) := by decide +kernel
theorem dL_law__1693 : decode cL_law_ 1693 = .ok (.iinc 4 6, 3) := by decide +kernel
theorem dL_law__1696 : decode cL_law_ 1696 = .ok (.goto (-1673), 3) := by decide +kernel
theorem dL_law__1699 : decode cL_law_ 1699 = .ok (.iconst 1, 1) := by decide +kernel
theorem dL_law__1700 : decode cL_law_ 1700 = .ok (.ireturn, 1) := by decide +kernel
