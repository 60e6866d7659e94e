theorem dX9_init_0 : decode cX9_init 0 = .ok (.aload_n 0, 1) := by decide +kernel
theorem dX9_init_1 : decode cX9_init 1 = .ok (.invokespecial 3, 3) := by decide +kernel
theorem dX9_init_4 : decode cX9_init 4 = .ok (.aload_n 0, 1) := by decide +kernel
theorem dX9_init_5 : decode cX9_init 5 = .ok (.bipush 16, 2) := by decide +kernel
theorem dX9_init_7 : decode cX9_init 7 = .ok (.anewarray 9, 3) := by decide +kernel
theorem dX9_init_10 : decode cX9_init 10 = .ok (.putfield 11, 3) := by decide +kernel
theorem dX9_init_13 : decode cX9_init 13 = .ok (.aload_n 0, 1) := by decide +kernel
theorem dX9_init_14 : decode cX9_init 14 = .ok (.bipush 12, 2) := by decide +kernel
theorem dX9_init_16 : decode cX9_init 16 = .ok (.anewarray 15, 3) := by decide +kernel
theorem dX9_init_19 : decode cX9_init 19 = .ok (.putfield 17, 3) := by decide +kernel
theorem dX9_init_22 : decode cX9_init 22 = .ok (.aload_n 0, 1) := by decide +kernel
theorem dX9_init_23 : decode cX9_init 23 = .ok (.bipush 8, 2) := by decide +kernel
theorem dX9_init_25 : decode cX9_init 25 = .ok (.anewarray 21, 3) := by decide +kernel
theorem dX9_init_28 : decode cX9_init 28 = .ok (.putfield 23, 3) := by decide +kernel
theorem dX9_init_31 : decode cX9_init 31 = .ok (.aload_n 0, 1) := by decide +kernel
theorem dX9_init_32 : decode cX9_init 32 = .ok (.iconst 1, 1) := by decide +kernel
theorem dX9_init_33 : decode cX9_init 33 = .ok (.anewarray 15, 3) := by decide +kernel
theorem dX9_init_36 : decode cX9_init 36 = .ok (.dup, 1) := by decide +kernel
theorem dX9_init_37 : decode cX9_init 37 = .ok (.iconst 0, 1) := by decide +kernel
theorem dX9_init_38 : decode cX9_init 38 = .ok (.new 27, 3) := by decide +kernel
theorem dX9_init_41 : decode cX9_init 41 = .ok (.dup, 1) := by decide +kernel
theorem dX9_init_42 : decode cX9_init 42 = .ok (.iconst 2, 1) := by decide +kernel
theorem dX9_init_43 : decode cX9_init 43 = .ok (.iconst 1, 1) := by decide +kernel
theorem dX9_init_44 : decode cX9_init 44 = .ok (.iconst 0, 1) := by decide +kernel
theorem dX9_init_45 : decode cX9_init 45 = .ok (.invokespecial 29, 3) := by decide +kernel
theorem dX9_init_48 : decode cX9_init 48 = .ok (.aastore, 1) := by decide +kernel
theorem dX9_init_49 : decode cX9_init 49 = .ok (.putfield 32, 3) := by decide +kernel
theorem dX9_init_52 : decode cX9_init 52 = .ok (.aload_n 0, 1) := by decide +kernel
theorem dX9_init_53 : decode cX9_init 53 = .ok (.new 35, 3) := by decide +kernel
theorem dX9_init_56 : decode cX9_init 56 = .ok (.dup, 1) := by decide +kernel
theorem dX9_init_57 : decode cX9_init 57 = .ok (.invokespecial 37, 3) := by decide +kernel
theorem dX9_init_60 : decode cX9_init 60 = .ok (.putfield 38, 3) := by decide +kernel
theorem dX9_init_63 : decode cX9_init 63 = .ok (.aload_n 0, 1) := by decide +kernel
theorem dX9_init_64 : decode cX9_init 64 = .ok (.bipush 60, 2) := by decide +kernel
theorem dX9_init_66 : decode cX9_init 66 = .ok (.newarray .int, 2) := by decide +kernel
theorem dX9_init_68 : decode cX9_init 68 = .ok (.putfield 42, 3) := by decide +kernel
theorem dX9_init_71 : decode cX9_init 71 = .ok (.aload_n 0, 1) := by decide +kernel
theorem dX9_init_72 : decode cX9_init 72 = .ok (.sipush 360, 3) := by decide +kernel
theorem dX9_init_75 : decode cX9_init 75 = .ok (.newarray .int, 2) := by decide +kernel
theorem dX9_init_77 : decode cX9_init 77 = .ok (.putfield 46, 3) := by decide +kernel
theorem dX9_init_80 : decode cX9_init 80 = .ok (.return_, 1) := by decide +kernel
theorem dX9_sheet_0 : decode cX9_sheet 0 = .ok (.iload_n 1, 1) := by decide +kernel
theorem dX9_sheet_1 : decode cX9_sheet 1 = .ok (.ifCond .lt 8, 3) := by decide +kernel
theorem dX9_sheet_4 : decode cX9_sheet 4 = .ok (.iload_n 1, 1) := by decide +kernel
theorem dX9_sheet_5 : decode cX9_sheet 5 = .ok (.iconst 3, 1) := by decide +kernel
theorem dX9_sheet_6 : decode cX9_sheet 6 = .ok (.if_icmp .lt 13, 3) := by decide +kernel
theorem dX9_sheet_9 : decode cX9_sheet 9 = .ok (.new 49, 3) := by decide +kernel
theorem dX9_sheet_12 : decode cX9_sheet 12 = .ok (.dup, 1) := by decide +kernel
theorem dX9_sheet_13 : decode cX9_sheet 13 = .ok (.ldc 51, 2) := by decide +kernel
theorem dX9_sheet_15 : decode cX9_sheet 15 = .ok (.invokespecial 53, 3) := by decide +kernel
theorem dX9_sheet_18 : decode cX9_sheet 18 = .ok (.athrow, 1) := by decide +kernel
theorem dX9_sheet_19 : decode cX9_sheet 19 = .ok (.aload_n 0, 1) := by decide +kernel
theorem dX9_sheet_20 : decode cX9_sheet 20 = .ok (.getfield 56, 3) := by decide +kernel
theorem dX9_sheet_23 : decode cX9_sheet 23 = .ok (.aload_n 0, 1) := by decide +kernel
theorem dX9_sheet_24 : decode cX9_sheet 24 = .ok (.getfield 11, 3) := by decide +kernel
theorem dX9_sheet_27 : decode cX9_sheet 27 = .ok (.arraylength, 1) := by decide +kernel
theorem dX9_sheet_28 : decode cX9_sheet 28 = .ok (.if_icmp .lt 13, 3) := by decide +kernel
theorem dX9_sheet_31 : decode cX9_sheet 31 = .ok (.new 60, 3) := by decide +kernel
theorem dX9_sheet_34 : decode cX9_sheet 34 = .ok (.dup, 1) := by decide +kernel
theorem dX9_sheet_35 : decode cX9_sheet 35 = .ok (.ldc 62, 2) := by decide +kernel
theorem dX9_sheet_37 : decode cX9_sheet 37 = .ok (.invokespecial 64, 3) := by decide +kernel
theorem dX9_sheet_40 : decode cX9_sheet 40 = .ok (.athrow, 1) := by decide +kernel
theorem dX9_sheet_41 : decode cX9_sheet 41 = .ok (.aload_n 0, 1) := by decide +kernel
theorem dX9_sheet_42 : decode cX9_sheet 42 = .ok (.getfield 11, 3) := by decide +kernel
theorem dX9_sheet_45 : decode cX9_sheet 45 = .ok (.aload_n 0, 1) := by decide +kernel
theorem dX9_sheet_46 : decode cX9_sheet 46 = .ok (.getfield 56, 3) := by decide +kernel
theorem dX9_sheet_49 : decode cX9_sheet 49 = .ok (.new 9, 3) := by decide +kernel
theorem dX9_sheet_52 : decode cX9_sheet 52 = .ok (.dup, 1) := by decide +kernel
theorem dX9_sheet_53 : decode cX9_sheet 53 = .ok (.iload_n 1, 1) := by decide +kernel
theorem dX9_sheet_54 : decode cX9_sheet 54 = .ok (.invokespecial 65, 3) := by decide +kernel
theorem dX9_sheet_57 : decode cX9_sheet 57 = .ok (.aastore, 1) := by decide +kernel
theorem dX9_sheet_58 : decode cX9_sheet 58 = .ok (.aload_n 0, 1) := by decide +kernel
theorem dX9_sheet_59 : decode cX9_sheet 59 = .ok (.dup, 1) := by decide +kernel
theorem dX9_sheet_60 : decode cX9_sheet 60 = .ok (.getfield 56, 3) := by decide +kernel
theorem dX9_sheet_63 : decode cX9_sheet 63 = .ok (.iconst 1, 1) := by decide +kernel
theorem dX9_sheet_64 : decode cX9_sheet 64 = .ok (.iadd, 1) := by decide +kernel
theorem dX9_sheet_65 : decode cX9_sheet 65 = .ok (.putfield 56, 3) := by decide +kernel
theorem dX9_sheet_68 : decode cX9_sheet 68 = .ok (.aload_n 0, 1) := by decide +kernel
theorem dX9_sheet_69 : decode cX9_sheet 69 = .ok (.getfield 56, 3) := by decide +kernel
theorem dX9_sheet_72 : decode cX9_sheet 72 = .ok (.iconst 1, 1) := by decide +kernel
theorem dX9_sheet_73 : decode cX9_sheet 73 = .ok (.isub, 1) := by decide +kernel
theorem dX9_sheet_74 : decode cX9_sheet 74 = .ok (.ireturn, 1) := by decide +kernel
theorem dX9_row_0 : decode cX9_row 0 = .ok (.aload_n 0, 1) := by decide +kernel
theorem dX9_row_1 : decode cX9_row 1 = .ok (.iload_n 1, 1) := by decide +kernel
theorem dX9_row_2 : decode cX9_row 2 = .ok (.iload_n 2, 1) := by decide +kernel
theorem dX9_row_3 : decode cX9_row 3 = .ok (.invokevirtual 68, 3) := by decide +kernel
theorem dX9_row_6 : decode cX9_row 6 = .ok (.astore 4, 2) := by decide +kernel
theorem dX9_row_8 : decode cX9_row 8 = .ok (.iload_n 3, 1) := by decide +kernel
theorem dX9_row_9 : decode cX9_row 9 = .ok (.ifCond .lt 9, 3) := by decide +kernel
theorem dX9_row_12 : decode cX9_row 12 = .ok (.iload_n 3, 1) := by decide +kernel
theorem dX9_row_13 : decode cX9_row 13 = .ok (.bipush 80, 2) := by decide +kernel
theorem dX9_row_15 : decode cX9_row 15 = .ok (.if_icmp .le 5, 3) := by decide +kernel
theorem dX9_row_18 : decode cX9_row 18 = .ok (.iconst (-1), 1) := by decide +kernel
theorem dX9_row_19 : decode cX9_row 19 = .ok (.ireturn, 1) := by decide +kernel
theorem dX9_row_20 : decode cX9_row 20 = .ok (.aload 4, 2) := by decide +kernel
theorem dX9_row_22 : decode cX9_row 22 = .ok (.iload_n 2, 1) := by decide +kernel
theorem dX9_row_23 : decode cX9_row 23 = .ok (.iload_n 3, 1) := by decide +kernel
theorem dX9_row_24 : decode cX9_row 24 = .ok (.invokevirtual 72, 3) := by decide +kernel
theorem dX9_row_27 : decode cX9_row 27 = .ok (.iload_n 3, 1) := by decide +kernel
theorem dX9_row_28 : decode cX9_row 28 = .ok (.ireturn, 1) := by decide +kernel
theorem dX9_put_0 : decode cX9_put 0 = .ok (.aload_n 0, 1) := by decide +kernel
theorem dX9_put_1 : decode cX9_put 1 = .ok (.iload_n 1, 1) := by decide +kernel
theorem dX9_put_2 : decode cX9_put 2 = .ok (.iload_n 2, 1) := by decide +kernel
theorem dX9_put_3 : decode cX9_put 3 = .ok (.invokevirtual 68, 3) := by decide +kernel
theorem dX9_put_6 : decode cX9_put 6 = .ok (.astore 5, 2) := by decide +kernel
theorem dX9_put_8 : decode cX9_put 8 = .ok (.aload 5, 2) := by decide +kernel
theorem dX9_put_10 : decode cX9_put 10 = .ok (.iload_n 2, 1) := by decide +kernel
theorem dX9_put_11 : decode cX9_put 11 = .ok (.invokevirtual 76, 3) := by decide +kernel
theorem dX9_put_14 : decode cX9_put 14 = .ok (.istore 6, 2) := by decide +kernel
theorem dX9_put_16 : decode cX9_put 16 = .ok (.iload 6, 2) := by decide +kernel
theorem dX9_put_18 : decode cX9_put 18 = .ok (.iconst (-1), 1) := by decide +kernel
theorem dX9_put_19 : decode cX9_put 19 = .ok (.if_icmp .ne 5, 3) := by decide +kernel
theorem dX9_put_22 : decode cX9_put 22 = .ok (.iconst (-1), 1) := by decide +kernel
theorem dX9_put_23 : decode cX9_put 23 = .ok (.ireturn, 1) := by decide +kernel
theorem dX9_put_24 : decode cX9_put 24 = .ok (.iload_n 3, 1) := by decide +kernel
theorem dX9_put_25 : decode cX9_put 25 = .ok (.ifCond .lt 9, 3) := by decide +kernel
theorem dX9_put_28 : decode cX9_put 28 = .ok (.iload_n 3, 1) := by decide +kernel
theorem dX9_put_29 : decode cX9_put 29 = .ok (.iload 6, 2) := by decide +kernel
theorem dX9_put_31 : decode cX9_put 31 = .ok (.if_icmp .lt 6, 3) := by decide +kernel
theorem dX9_put_34 : decode cX9_put 34 = .ok (.bipush (-2), 2) := by decide +kernel
theorem dX9_put_36 : decode cX9_put 36 = .ok (.ireturn, 1) := by decide +kernel
theorem dX9_put_37 : decode cX9_put 37 = .ok (.aload 5, 2) := by decide +kernel
theorem dX9_put_39 : decode cX9_put 39 = .ok (.iload_n 2, 1) := by decide +kernel
theorem dX9_put_40 : decode cX9_put 40 = .ok (.iload_n 3, 1) := by decide +kernel
theorem dX9_put_41 : decode cX9_put 41 = .ok (.iload 4, 2) := by decide +kernel
theorem dX9_put_43 : decode cX9_put 43 = .ok (.invokevirtual 80, 3) := by decide +kernel
theorem dX9_put_46 : decode cX9_put 46 = .ok (.iconst 1, 1) := by decide +kernel
theorem dX9_put_47 : decode cX9_put 47 = .ok (.ireturn, 1) := by decide +kernel
theorem dX9_tear_0 : decode cX9_tear 0 = .ok (.aload_n 0, 1) := by decide +kernel
theorem dX9_tear_1 : decode cX9_tear 1 = .ok (.iload_n 1, 1) := by decide +kernel
theorem dX9_tear_2 : decode cX9_tear 2 = .ok (.iload_n 2, 1) := by decide +kernel
theorem dX9_tear_3 : decode cX9_tear 3 = .ok (.invokevirtual 68, 3) := by decide +kernel
theorem dX9_tear_6 : decode cX9_tear 6 = .ok (.iload_n 2, 1) := by decide +kernel
theorem dX9_tear_7 : decode cX9_tear 7 = .ok (.invokevirtual 84, 3) := by decide +kernel
theorem dX9_tear_10 : decode cX9_tear 10 = .ok (.ireturn, 1) := by decide +kernel
theorem dX9_word_0 : decode cX9_word 0 = .ok (.aload_n 0, 1) := by decide +kernel
theorem dX9_word_1 : decode cX9_word 1 = .ok (.iload_n 1, 1) := by decide +kernel
theorem dX9_word_2 : decode cX9_word 2 = .ok (.iload_n 2, 1) := by decide +kernel
theorem dX9_word_3 : decode cX9_word 3 = .ok (.invokevirtual 87, 3) := by decide +kernel
theorem dX9_word_6 : decode cX9_word 6 = .ok (.ireturn, 1) := by decide +kernel
theorem dX9_letter_0 : decode cX9_letter 0 = .ok (.aload_n 0, 1) := by decide +kernel
theorem dX9_letter_1 : decode cX9_letter 1 = .ok (.iload_n 1, 1) := by decide +kernel
theorem dX9_letter_2 : decode cX9_letter 2 = .ok (.iload_n 2, 1) := by decide +kernel
theorem dX9_letter_3 : decode cX9_letter 3 = .ok (.invokevirtual 87, 3) := by decide +kernel
theorem dX9_letter_6 : decode cX9_letter 6 = .ok (.istore 4, 2) := by decide +kernel
theorem dX9_letter_8 : decode cX9_letter 8 = .ok (.iload_n 3, 1) := by decide +kernel
theorem dX9_letter_9 : decode cX9_letter 9 = .ok (.ifCond .lt 18, 3) := by decide +kernel
theorem dX9_letter_12 : decode cX9_letter 12 = .ok (.iload_n 3, 1) := by decide +kernel
theorem dX9_letter_13 : decode cX9_letter 13 = .ok (.iload 4, 2) := by decide +kernel
theorem dX9_letter_15 : decode cX9_letter 15 = .ok (.if_icmp .ge 12, 3) := by decide +kernel
theorem dX9_letter_18 : decode cX9_letter 18 = .ok (.aload_n 0, 1) := by decide +kernel
theorem dX9_letter_19 : decode cX9_letter 19 = .ok (.getfield 42, 3) := by decide +kernel
theorem dX9_letter_22 : decode cX9_letter 22 = .ok (.iload_n 3, 1) := by decide +kernel
theorem dX9_letter_23 : decode cX9_letter 23 = .ok (.iaload, 1) := by decide +kernel
theorem dX9_letter_24 : decode cX9_letter 24 = .ok (.goto 4, 3) := by decide +kernel
theorem dX9_letter_27 : decode cX9_letter 27 = .ok (.iconst (-1), 1) := by decide +kernel
theorem dX9_letter_28 : decode cX9_letter 28 = .ok (.ireturn, 1) := by decide +kernel
theorem dX9_law_0 : decode cX9_law 0 = .ok (.iload_n 1, 1) := by decide +kernel
theorem dX9_law_1 : decode cX9_law 1 = .ok (.ifCond .lt 8, 3) := by decide +kernel
theorem dX9_law_4 : decode cX9_law 4 = .ok (.iload_n 1, 1) := by decide +kernel
theorem dX9_law_5 : decode cX9_law 5 = .ok (.iconst 5, 1) := by decide +kernel
theorem dX9_law_6 : decode cX9_law 6 = .ok (.if_icmp .le 13, 3) := by decide +kernel
theorem dX9_law_9 : decode cX9_law 9 = .ok (.new 49, 3) := by decide +kernel
theorem dX9_law_12 : decode cX9_law 12 = .ok (.dup, 1) := by decide +kernel
theorem dX9_law_13 : decode cX9_law 13 = .ok (.ldc 91, 2) := by decide +kernel
theorem dX9_law_15 : decode cX9_law 15 = .ok (.invokespecial 53, 3) := by decide +kernel
theorem dX9_law_18 : decode cX9_law 18 = .ok (.athrow, 1) := by decide +kernel
theorem dX9_law_19 : decode cX9_law 19 = .ok (.iload_n 1, 1) := by decide +kernel
theorem dX9_law_20 : decode cX9_law 20 = .ok (.ifCond .eq 8, 3) := by decide +kernel
theorem dX9_law_23 : decode cX9_law 23 = .ok (.iload_n 1, 1) := by decide +kernel
theorem dX9_law_24 : decode cX9_law 24 = .ok (.iconst 5, 1) := by decide +kernel
theorem dX9_law_25 : decode cX9_law 25 = .ok (.if_icmp .ne 7, 3) := by decide +kernel
theorem dX9_law_28 : decode cX9_law 28 = .ok (.iconst 1, 1) := by decide +kernel
theorem dX9_law_29 : decode cX9_law 29 = .ok (.goto 4, 3) := by decide +kernel
theorem dX9_law_32 : decode cX9_law 32 = .ok (.iconst 0, 1) := by decide +kernel
theorem dX9_law_33 : decode cX9_law 33 = .ok (.istore 4, 2) := by decide +kernel
theorem dX9_law_35 : decode cX9_law 35 = .ok (.iload 4, 2) := by decide +kernel
theorem dX9_law_37 : decode cX9_law 37 = .ok (.ifCond .eq 13, 3) := by decide +kernel
theorem dX9_law_40 : decode cX9_law 40 = .ok (.aload_n 0, 1) := by decide +kernel
theorem dX9_law_41 : decode cX9_law 41 = .ok (.iload_n 1, 1) := by decide +kernel
theorem dX9_law_42 : decode cX9_law 42 = .ok (.iload_n 2, 1) := by decide +kernel
theorem dX9_law_43 : decode cX9_law 43 = .ok (.iload_n 3, 1) := by decide +kernel
theorem dX9_law_44 : decode cX9_law 44 = .ok (.invokevirtual 93, 3) := by decide +kernel
theorem dX9_law_47 : decode cX9_law 47 = .ok (.goto 9, 3) := by decide +kernel
theorem dX9_law_50 : decode cX9_law 50 = .ok (.iload_n 1, 1) := by decide +kernel
theorem dX9_law_51 : decode cX9_law 51 = .ok (.iload_n 2, 1) := by decide +kernel
theorem dX9_law_52 : decode cX9_law 52 = .ok (.iload_n 3, 1) := by decide +kernel
theorem dX9_law_53 : decode cX9_law 53 = .ok (.invokestatic 97, 3) := by decide +kernel
theorem dX9_law_56 : decode cX9_law 56 = .ok (.astore 5, 2) := by decide +kernel
theorem dX9_law_58 : decode cX9_law 58 = .ok (.aload 5, 2) := by decide +kernel
theorem dX9_law_60 : decode cX9_law 60 = .ok (.ifnonnull 5, 3) := by decide +kernel
theorem dX9_law_63 : decode cX9_law 63 = .ok (.iconst (-1), 1) := by decide +kernel
theorem dX9_law_64 : decode cX9_law 64 = .ok (.ireturn, 1) := by decide +kernel
theorem dX9_law_65 : decode cX9_law 65 = .ok (.aload_n 0, 1) := by decide +kernel
theorem dX9_law_66 : decode cX9_law 66 = .ok (.getfield 100, 3) := by decide +kernel
theorem dX9_law_69 : decode cX9_law 69 = .ok (.aload_n 0, 1) := by decide +kernel
theorem dX9_law_70 : decode cX9_law 70 = .ok (.getfield 17, 3) := by decide +kernel
theorem dX9_law_73 : decode cX9_law 73 = .ok (.arraylength, 1) := by decide +kernel
theorem dX9_law_74 : decode cX9_law 74 = .ok (.if_icmp .lt 6, 3) := by decide +kernel
theorem dX9_law_77 : decode cX9_law 77 = .ok (.bipush (-2), 2) := by decide +kernel
theorem dX9_law_79 : decode cX9_law 79 = .ok (.ireturn, 1) := by decide +kernel
theorem dX9_law_80 : decode cX9_law 80 = .ok (.aload_n 0, 1) := by decide +kernel
theorem dX9_law_81 : decode cX9_law 81 = .ok (.getfield 17, 3) := by decide +kernel
theorem dX9_law_84 : decode cX9_law 84 = .ok (.aload_n 0, 1) := by decide +kernel
theorem dX9_law_85 : decode cX9_law 85 = .ok (.getfield 100, 3) := by decide +kernel
theorem dX9_law_88 : decode cX9_law 88 = .ok (.aload 5, 2) := by decide +kernel
theorem dX9_law_90 : decode cX9_law 90 = .ok (.aastore, 1) := by decide +kernel
theorem dX9_law_91 : decode cX9_law 91 = .ok (.aload_n 0, 1) := by decide +kernel
theorem dX9_law_92 : decode cX9_law 92 = .ok (.dup, 1) := by decide +kernel
theorem dX9_law_93 : decode cX9_law 93 = .ok (.getfield 100, 3) := by decide +kernel
theorem dX9_law_96 : decode cX9_law 96 = .ok (.iconst 1, 1) := by decide +kernel
theorem dX9_law_97 : decode cX9_law 97 = .ok (.iadd, 1) := by decide +kernel
theorem dX9_law_98 : decode cX9_law 98 = .ok (.putfield 100, 3) := by decide +kernel
theorem dX9_law_101 : decode cX9_law 101 = .ok (.aload_n 0, 1) := by decide +kernel
theorem dX9_law_102 : decode cX9_law 102 = .ok (.getfield 100, 3) := by decide +kernel
theorem dX9_law_105 : decode cX9_law 105 = .ok (.iconst 1, 1) := by decide +kernel
theorem dX9_law_106 : decode cX9_law 106 = .ok (.isub, 1) := by decide +kernel
theorem dX9_law_107 : decode cX9_law 107 = .ok (.ireturn, 1) := by decide +kernel
theorem dX9_count_0 : decode cX9_count 0 = .ok (.iload_n 1, 1) := by decide +kernel
theorem dX9_count_1 : decode cX9_count 1 = .ok (.tableswitch 45 0 2 #[27, 32, 37], 27) := by decide +kernel
theorem dX9_count_28 : decode cX9_count 28 = .ok (.aload_n 0, 1) := by decide +kernel
theorem dX9_count_29 : decode cX9_count 29 = .ok (.getfield 56, 3) := by decide +kernel
theorem dX9_count_32 : decode cX9_count 32 = .ok (.ireturn, 1) := by decide +kernel
theorem dX9_count_33 : decode cX9_count 33 = .ok (.aload_n 0, 1) := by decide +kernel
theorem dX9_count_34 : decode cX9_count 34 = .ok (.getfield 100, 3) := by decide +kernel
theorem dX9_count_37 : decode cX9_count 37 = .ok (.ireturn, 1) := by decide +kernel
theorem dX9_count_38 : decode cX9_count 38 = .ok (.aload_n 0, 1) := by decide +kernel
theorem dX9_count_39 : decode cX9_count 39 = .ok (.getfield 38, 3) := by decide +kernel
theorem dX9_count_42 : decode cX9_count 42 = .ok (.getfield 103, 3) := by decide +kernel
theorem dX9_count_45 : decode cX9_count 45 = .ok (.ireturn, 1) := by decide +kernel
theorem dX9_count_46 : decode cX9_count 46 = .ok (.iconst (-1), 1) := by decide +kernel
theorem dX9_count_47 : decode cX9_count 47 = .ok (.ireturn, 1) := by decide +kernel
theorem dX9_power_0 : decode cX9_power 0 = .ok (.aload_n 0, 1) := by decide +kernel
theorem dX9_power_1 : decode cX9_power 1 = .ok (.iload_n 1, 1) := by decide +kernel
theorem dX9_power_2 : decode cX9_power 2 = .ok (.iload_n 2, 1) := by decide +kernel
theorem dX9_power_3 : decode cX9_power 3 = .ok (.invokevirtual 87, 3) := by decide +kernel
theorem dX9_power_6 : decode cX9_power 6 = .ok (.istore 4, 2) := by decide +kernel
theorem dX9_power_8 : decode cX9_power 8 = .ok (.iload_n 3, 1) := by decide +kernel
theorem dX9_power_9 : decode cX9_power 9 = .ok (.iconst 3, 1) := by decide +kernel
theorem dX9_power_10 : decode cX9_power 10 = .ok (.invokestatic 106, 3) := by decide +kernel
theorem dX9_power_13 : decode cX9_power 13 = .ok (.iload 4, 2) := by decide +kernel
theorem dX9_power_15 : decode cX9_power 15 = .ok (.ifCond .gt 6, 3) := by decide +kernel
theorem dX9_power_18 : decode cX9_power 18 = .ok (.iload 4, 2) := by decide +kernel
theorem dX9_power_20 : decode cX9_power 20 = .ok (.ireturn, 1) := by decide +kernel
theorem dX9_power_21 : decode cX9_power 21 = .ok (.iload_n 3, 1) := by decide +kernel
theorem dX9_power_22 : decode cX9_power 22 = .ok (.iconst 3, 1) := by decide +kernel
theorem dX9_power_23 : decode cX9_power 23 = .ok (.if_icmp .ne 12, 3) := by decide +kernel
theorem dX9_power_26 : decode cX9_power 26 = .ok (.aload_n 0, 1) := by decide +kernel
theorem dX9_power_27 : decode cX9_power 27 = .ok (.iload 4, 2) := by decide +kernel
theorem dX9_power_29 : decode cX9_power 29 = .ok (.iconst (-1), 1) := by decide +kernel
theorem dX9_power_30 : decode cX9_power 30 = .ok (.iconst 0, 1) := by decide +kernel
theorem dX9_power_31 : decode cX9_power 31 = .ok (.invokevirtual 109, 3) := by decide +kernel
theorem dX9_power_34 : decode cX9_power 34 = .ok (.ireturn, 1) := by decide +kernel
theorem dX9_power_35 : decode cX9_power 35 = .ok (.aload_n 0, 1) := by decide +kernel
theorem dX9_power_36 : decode cX9_power 36 = .ok (.getfield 42, 3) := by decide +kernel
theorem dX9_power_39 : decode cX9_power 39 = .ok (.iconst 0, 1) := by decide +kernel
theorem dX9_power_40 : decode cX9_power 40 = .ok (.iload 4, 2) := by decide +kernel
theorem dX9_power_42 : decode cX9_power 42 = .ok (.invokestatic 113, 3) := by decide +kernel
theorem dX9_power_45 : decode cX9_power 45 = .ok (.istore 5, 2) := by decide +kernel
theorem dX9_power_47 : decode cX9_power 47 = .ok (.iload_n 3, 1) := by decide +kernel
theorem dX9_power_48 : decode cX9_power 48 = .ok (.ifCond .ne 6, 3) := by decide +kernel
theorem dX9_power_51 : decode cX9_power 51 = .ok (.iload 5, 2) := by decide +kernel
theorem dX9_power_53 : decode cX9_power 53 = .ok (.ireturn, 1) := by decide +kernel
theorem dX9_power_54 : decode cX9_power 54 = .ok (.iload_n 3, 1) := by decide +kernel
theorem dX9_power_55 : decode cX9_power 55 = .ok (.iconst 1, 1) := by decide +kernel
theorem dX9_power_56 : decode cX9_power 56 = .ok (.if_icmp .ne 8, 3) := by decide +kernel
theorem dX9_power_59 : decode cX9_power 59 = .ok (.iload 4, 2) := by decide +kernel
theorem dX9_power_61 : decode cX9_power 61 = .ok (.goto 5, 3) := by decide +kernel
theorem dX9_power_64 : decode cX9_power 64 = .ok (.iload 5, 2) := by decide +kernel
theorem dX9_power_66 : decode cX9_power 66 = .ok (.iload_n 3, 1) := by decide +kernel
theorem dX9_power_67 : decode cX9_power 67 = .ok (.iconst 1, 1) := by decide +kernel
theorem dX9_power_68 : decode cX9_power 68 = .ok (.if_icmp .ne 8, 3) := by decide +kernel
theorem dX9_power_71 : decode cX9_power 71 = .ok (.iload 5, 2) := by decide +kernel
theorem dX9_power_73 : decode cX9_power 73 = .ok (.goto 5, 3) := by decide +kernel
theorem dX9_power_76 : decode cX9_power 76 = .ok (.iload 4, 2) := by decide +kernel
theorem dX9_power_78 : decode cX9_power 78 = .ok (.invokestatic 117, 3) := by decide +kernel
theorem dX9_power_81 : decode cX9_power 81 = .ok (.ireturn, 1) := by decide +kernel
theorem dX9_run_0 : decode cX9_run 0 = .ok (.aload_n 0, 1) := by decide +kernel
theorem dX9_run_1 : decode cX9_run 1 = .ok (.iload_n 1, 1) := by decide +kernel
theorem dX9_run_2 : decode cX9_run 2 = .ok (.iload_n 2, 1) := by decide +kernel
theorem dX9_run_3 : decode cX9_run 3 = .ok (.invokevirtual 87, 3) := by decide +kernel
theorem dX9_run_6 : decode cX9_run 6 = .ok (.istore 5, 2) := by decide +kernel
theorem dX9_run_8 : decode cX9_run 8 = .ok (.iload 4, 2) := by decide +kernel
theorem dX9_run_10 : decode cX9_run 10 = .ok (.iconst 2, 1) := by decide +kernel
theorem dX9_run_11 : decode cX9_run 11 = .ok (.invokestatic 106, 3) := by decide +kernel
theorem dX9_run_14 : decode cX9_run 14 = .ok (.iload_n 3, 1) := by decide +kernel
theorem dX9_run_15 : decode cX9_run 15 = .ok (.ifCond .ge 7, 3) := by decide +kernel
theorem dX9_run_18 : decode cX9_run 18 = .ok (.iconst (-1), 1) := by decide +kernel
theorem dX9_run_19 : decode cX9_run 19 = .ok (.goto 12, 3) := by decide +kernel
theorem dX9_run_22 : decode cX9_run 22 = .ok (.aload_n 0, 1) := by decide +kernel
theorem dX9_run_23 : decode cX9_run 23 = .ok (.iload 5, 2) := by decide +kernel
theorem dX9_run_25 : decode cX9_run 25 = .ok (.iload_n 3, 1) := by decide +kernel
theorem dX9_run_26 : decode cX9_run 26 = .ok (.iload 4, 2) := by decide +kernel
theorem dX9_run_28 : decode cX9_run 28 = .ok (.invokevirtual 109, 3) := by decide +kernel
theorem dX9_run_31 : decode cX9_run 31 = .ok (.ireturn, 1) := by decide +kernel
theorem dX9_clash_0 : decode cX9_clash 0 = .ok (.aload_n 0, 1) := by decide +kernel
theorem dX9_clash_1 : decode cX9_clash 1 = .ok (.iload_n 2, 1) := by decide +kernel
theorem dX9_clash_2 : decode cX9_clash 2 = .ok (.iload_n 3, 1) := by decide +kernel
theorem dX9_clash_3 : decode cX9_clash 3 = .ok (.invokevirtual 87, 3) := by decide +kernel
theorem dX9_clash_6 : decode cX9_clash 6 = .ok (.istore 5, 2) := by decide +kernel
theorem dX9_clash_8 : decode cX9_clash 8 = .ok (.aload_n 0, 1) := by decide +kernel
theorem dX9_clash_9 : decode cX9_clash 9 = .ok (.iload_n 1, 1) := by decide +kernel
theorem dX9_clash_10 : decode cX9_clash 10 = .ok (.invokevirtual 120, 3) := by decide +kernel
theorem dX9_clash_13 : decode cX9_clash 13 = .ok (.iload 4, 2) := by decide +kernel
theorem dX9_clash_15 : decode cX9_clash 15 = .ok (.iconst 3, 1) := by decide +kernel
theorem dX9_clash_16 : decode cX9_clash 16 = .ok (.invokestatic 106, 3) := by decide +kernel
theorem dX9_clash_19 : decode cX9_clash 19 = .ok (.iload 5, 2) := by decide +kernel
theorem dX9_clash_21 : decode cX9_clash 21 = .ok (.ifCond .ge 6, 3) := by decide +kernel
theorem dX9_clash_24 : decode cX9_clash 24 = .ok (.bipush (-2), 2) := by decide +kernel
theorem dX9_clash_26 : decode cX9_clash 26 = .ok (.ireturn, 1) := by decide +kernel
theorem dX9_clash_27 : decode cX9_clash 27 = .ok (.aload_n 0, 1) := by decide +kernel
theorem dX9_clash_28 : decode cX9_clash 28 = .ok (.iload_n 1, 1) := by decide +kernel
theorem dX9_clash_29 : decode cX9_clash 29 = .ok (.iload 5, 2) := by decide +kernel
theorem dX9_clash_31 : decode cX9_clash 31 = .ok (.invokevirtual 123, 3) := by decide +kernel
theorem dX9_clash_34 : decode cX9_clash 34 = .ok (.istore 6, 2) := by decide +kernel
theorem dX9_clash_36 : decode cX9_clash 36 = .ok (.iload 4, 2) := by decide +kernel
theorem dX9_clash_38 : decode cX9_clash 38 = .ok (.ifCond .ne 15, 3) := by decide +kernel
theorem dX9_clash_41 : decode cX9_clash 41 = .ok (.iload 6, 2) := by decide +kernel
theorem dX9_clash_43 : decode cX9_clash 43 = .ok (.iconst (-1), 1) := by decide +kernel
theorem dX9_clash_44 : decode cX9_clash 44 = .ok (.if_icmp .ne 7, 3) := by decide +kernel
theorem dX9_clash_47 : decode cX9_clash 47 = .ok (.iconst 1, 1) := by decide +kernel
theorem dX9_clash_48 : decode cX9_clash 48 = .ok (.goto 4, 3) := by decide +kernel
theorem dX9_clash_51 : decode cX9_clash 51 = .ok (.iconst 0, 1) := by decide +kernel
theorem dX9_clash_52 : decode cX9_clash 52 = .ok (.ireturn, 1) := by decide +kernel
theorem dX9_clash_53 : decode cX9_clash 53 = .ok (.iload 6, 2) := by decide +kernel
theorem dX9_clash_55 : decode cX9_clash 55 = .ok (.iconst (-1), 1) := by decide +kernel
theorem dX9_clash_56 : decode cX9_clash 56 = .ok (.if_icmp .eq 9, 3) := by decide +kernel
theorem dX9_clash_59 : decode cX9_clash 59 = .ok (.iload 4, 2) := by decide +kernel
theorem dX9_clash_61 : decode cX9_clash 61 = .ok (.iconst 1, 1) := by decide +kernel
theorem dX9_clash_62 : decode cX9_clash 62 = .ok (.if_icmp .ne 6, 3) := by decide +kernel
theorem dX9_clash_65 : decode cX9_clash 65 = .ok (.iload 6, 2) := by decide +kernel
theorem dX9_clash_67 : decode cX9_clash 67 = .ok (.ireturn, 1) := by decide +kernel
theorem dX9_clash_68 : decode cX9_clash 68 = .ok (.aload_n 0, 1) := by decide +kernel
theorem dX9_clash_69 : decode cX9_clash 69 = .ok (.getfield 17, 3) := by decide +kernel
theorem dX9_clash_72 : decode cX9_clash 72 = .ok (.iload_n 1, 1) := by decide +kernel
theorem dX9_clash_73 : decode cX9_clash 73 = .ok (.aload_n 0, 1) := by decide +kernel
theorem dX9_clash_74 : decode cX9_clash 74 = .ok (.getfield 42, 3) := by decide +kernel
theorem dX9_clash_77 : decode cX9_clash 77 = .ok (.iload 6, 2) := by decide +kernel
theorem dX9_clash_79 : decode cX9_clash 79 = .ok (.invokestatic 126, 3) := by decide +kernel
theorem dX9_clash_82 : decode cX9_clash 82 = .ok (.istore 7, 2) := by decide +kernel
theorem dX9_clash_84 : decode cX9_clash 84 = .ok (.iload 4, 2) := by decide +kernel
theorem dX9_clash_86 : decode cX9_clash 86 = .ok (.iconst 2, 1) := by decide +kernel
theorem dX9_clash_87 : decode cX9_clash 87 = .ok (.if_icmp .eq 9, 3) := by decide +kernel
theorem dX9_clash_90 : decode cX9_clash 90 = .ok (.iload 7, 2) := by decide +kernel
theorem dX9_clash_92 : decode cX9_clash 92 = .ok (.iconst (-1), 1) := by decide +kernel
theorem dX9_clash_93 : decode cX9_clash 93 = .ok (.if_icmp .ne 6, 3) := by decide +kernel
theorem dX9_clash_96 : decode cX9_clash 96 = .ok (.iload 7, 2) := by decide +kernel
theorem dX9_clash_98 : decode cX9_clash 98 = .ok (.ireturn, 1) := by decide +kernel
theorem dX9_clash_99 : decode cX9_clash 99 = .ok (.aload_n 0, 1) := by decide +kernel
theorem dX9_clash_100 : decode cX9_clash 100 = .ok (.getfield 17, 3) := by decide +kernel
theorem dX9_clash_103 : decode cX9_clash 103 = .ok (.iload 7, 2) := by decide +kernel
theorem dX9_clash_105 : decode cX9_clash 105 = .ok (.aaload, 1) := by decide +kernel
theorem dX9_clash_106 : decode cX9_clash 106 = .ok (.aload_n 0, 1) := by decide +kernel
theorem dX9_clash_107 : decode cX9_clash 107 = .ok (.getfield 42, 3) := by decide +kernel
theorem dX9_clash_110 : decode cX9_clash 110 = .ok (.iload 6, 2) := by decide +kernel
theorem dX9_clash_112 : decode cX9_clash 112 = .ok (.invokevirtual 130, 3) := by decide +kernel
theorem dX9_clash_115 : decode cX9_clash 115 = .ok (.ireturn, 1) := by decide +kernel
theorem dX9_many_0 : decode cX9_many 0 = .ok (.aload_n 0, 1) := by decide +kernel
theorem dX9_many_1 : decode cX9_many 1 = .ok (.iload_n 1, 1) := by decide +kernel
theorem dX9_many_2 : decode cX9_many 2 = .ok (.iload_n 2, 1) := by decide +kernel
theorem dX9_many_3 : decode cX9_many 3 = .ok (.iload_n 3, 1) := by decide +kernel
theorem dX9_many_4 : decode cX9_many 4 = .ok (.invokevirtual 134, 3) := by decide +kernel
theorem dX9_many_7 : decode cX9_many 7 = .ok (.aload_n 0, 1) := by decide +kernel
theorem dX9_many_8 : decode cX9_many 8 = .ok (.getfield 38, 3) := by decide +kernel
theorem dX9_many_11 : decode cX9_many 11 = .ok (.invokevirtual 137, 3) := by decide +kernel
theorem dX9_many_14 : decode cX9_many 14 = .ok (.aload_n 0, 1) := by decide +kernel
theorem dX9_many_15 : decode cX9_many 15 = .ok (.getfield 38, 3) := by decide +kernel
theorem dX9_many_18 : decode cX9_many 18 = .ok (.aload_n 0, 1) := by decide +kernel
theorem dX9_many_19 : decode cX9_many 19 = .ok (.getfield 17, 3) := by decide +kernel
theorem dX9_many_22 : decode cX9_many 22 = .ok (.iload_n 1, 1) := by decide +kernel
theorem dX9_many_23 : decode cX9_many 23 = .ok (.iload_n 2, 1) := by decide +kernel
theorem dX9_many_24 : decode cX9_many 24 = .ok (.iload_n 3, 1) := by decide +kernel
theorem dX9_many_25 : decode cX9_many 25 = .ok (.invokevirtual 140, 3) := by decide +kernel
theorem dX9_many_28 : decode cX9_many 28 = .ok (.aload_n 0, 1) := by decide +kernel
theorem dX9_many_29 : decode cX9_many 29 = .ok (.getfield 38, 3) := by decide +kernel
theorem dX9_many_32 : decode cX9_many 32 = .ok (.sipush 20001, 3) := by decide +kernel
theorem dX9_many_35 : decode cX9_many 35 = .ok (.invokevirtual 144, 3) := by decide +kernel
theorem dX9_many_38 : decode cX9_many 38 = .ok (.bipush (-2), 2) := by decide +kernel
theorem dX9_many_40 : decode cX9_many 40 = .ok (.if_icmp .ne 8, 3) := by decide +kernel
theorem dX9_many_43 : decode cX9_many 43 = .ok (.bipush (-2), 2) := by decide +kernel
theorem dX9_many_45 : decode cX9_many 45 = .ok (.goto 10, 3) := by decide +kernel
theorem dX9_many_48 : decode cX9_many 48 = .ok (.aload_n 0, 1) := by decide +kernel
theorem dX9_many_49 : decode cX9_many 49 = .ok (.getfield 38, 3) := by decide +kernel
theorem dX9_many_52 : decode cX9_many 52 = .ok (.getfield 147, 3) := by decide +kernel
theorem dX9_many_55 : decode cX9_many 55 = .ok (.ireturn, 1) := by decide +kernel
theorem dX9_find_0 : decode cX9_find 0 = .ok (.aload_n 0, 1) := by decide +kernel
theorem dX9_find_1 : decode cX9_find 1 = .ok (.iload_n 1, 1) := by decide +kernel
theorem dX9_find_2 : decode cX9_find 2 = .ok (.iload_n 2, 1) := by decide +kernel
theorem dX9_find_3 : decode cX9_find 3 = .ok (.iload_n 3, 1) := by decide +kernel
theorem dX9_find_4 : decode cX9_find 4 = .ok (.invokevirtual 134, 3) := by decide +kernel
theorem dX9_find_7 : decode cX9_find 7 = .ok (.aload_n 0, 1) := by decide +kernel
theorem dX9_find_8 : decode cX9_find 8 = .ok (.iload 5, 2) := by decide +kernel
theorem dX9_find_10 : decode cX9_find 10 = .ok (.invokevirtual 150, 3) := by decide +kernel
theorem dX9_find_13 : decode cX9_find 13 = .ok (.astore 6, 2) := by decide +kernel
theorem dX9_find_15 : decode cX9_find 15 = .ok (.iload 4, 2) := by decide +kernel
theorem dX9_find_17 : decode cX9_find 17 = .ok (.ifCond .ge 5, 3) := by decide +kernel
theorem dX9_find_20 : decode cX9_find 20 = .ok (.iconst 0, 1) := by decide +kernel
theorem dX9_find_21 : decode cX9_find 21 = .ok (.ireturn, 1) := by decide +kernel
theorem dX9_find_22 : decode cX9_find 22 = .ok (.aload_n 0, 1) := by decide +kernel
theorem dX9_find_23 : decode cX9_find 23 = .ok (.getfield 38, 3) := by decide +kernel
theorem dX9_find_26 : decode cX9_find 26 = .ok (.invokevirtual 137, 3) := by decide +kernel
theorem dX9_find_29 : decode cX9_find 29 = .ok (.aload_n 0, 1) := by decide +kernel
theorem dX9_find_30 : decode cX9_find 30 = .ok (.getfield 38, 3) := by decide +kernel
theorem dX9_find_33 : decode cX9_find 33 = .ok (.aload_n 0, 1) := by decide +kernel
theorem dX9_find_34 : decode cX9_find 34 = .ok (.getfield 17, 3) := by decide +kernel
theorem dX9_find_37 : decode cX9_find 37 = .ok (.iload_n 1, 1) := by decide +kernel
theorem dX9_find_38 : decode cX9_find 38 = .ok (.iload_n 2, 1) := by decide +kernel
theorem dX9_find_39 : decode cX9_find 39 = .ok (.iload_n 3, 1) := by decide +kernel
theorem dX9_find_40 : decode cX9_find 40 = .ok (.invokevirtual 140, 3) := by decide +kernel
theorem dX9_find_43 : decode cX9_find 43 = .ok (.aload_n 0, 1) := by decide +kernel
theorem dX9_find_44 : decode cX9_find 44 = .ok (.getfield 38, 3) := by decide +kernel
theorem dX9_find_47 : decode cX9_find 47 = .ok (.iload 4, 2) := by decide +kernel
theorem dX9_find_49 : decode cX9_find 49 = .ok (.sipush 20000, 3) := by decide +kernel
theorem dX9_find_52 : decode cX9_find 52 = .ok (.invokestatic 154, 3) := by decide +kernel
theorem dX9_find_55 : decode cX9_find 55 = .ok (.iconst 1, 1) := by decide +kernel
theorem dX9_find_56 : decode cX9_find 56 = .ok (.iadd, 1) := by decide +kernel
theorem dX9_find_57 : decode cX9_find 57 = .ok (.invokevirtual 144, 3) := by decide +kernel
theorem dX9_find_60 : decode cX9_find 60 = .ok (.istore 7, 2) := by decide +kernel
theorem dX9_find_62 : decode cX9_find 62 = .ok (.iload 7, 2) := by decide +kernel
theorem dX9_find_64 : decode cX9_find 64 = .ok (.iconst 1, 1) := by decide +kernel
theorem dX9_find_65 : decode cX9_find 65 = .ok (.if_icmp .ne 17, 3) := by decide +kernel
theorem dX9_find_68 : decode cX9_find 68 = .ok (.aload 6, 2) := by decide +kernel
theorem dX9_find_70 : decode cX9_find 70 = .ok (.iconst 0, 1) := by decide +kernel
theorem dX9_find_71 : decode cX9_find 71 = .ok (.aload_n 0, 1) := by decide +kernel
theorem dX9_find_72 : decode cX9_find 72 = .ok (.getfield 38, 3) := by decide +kernel
theorem dX9_find_75 : decode cX9_find 75 = .ok (.getfield 159, 3) := by decide +kernel
theorem dX9_find_78 : decode cX9_find 78 = .ok (.iload_n 3, 1) := by decide +kernel
theorem dX9_find_79 : decode cX9_find 79 = .ok (.invokevirtual 162, 3) := by decide +kernel
theorem dX9_find_82 : decode cX9_find 82 = .ok (.iload 7, 2) := by decide +kernel
theorem dX9_find_84 : decode cX9_find 84 = .ok (.ireturn, 1) := by decide +kernel
theorem dX9_rank_0 : decode cX9_rank 0 = .ok (.aload_n 0, 1) := by decide +kernel
theorem dX9_rank_1 : decode cX9_rank 1 = .ok (.iload_n 1, 1) := by decide +kernel
theorem dX9_rank_2 : decode cX9_rank 2 = .ok (.invokevirtual 120, 3) := by decide +kernel
theorem dX9_rank_5 : decode cX9_rank 5 = .ok (.iload_n 2, 1) := by decide +kernel
theorem dX9_rank_6 : decode cX9_rank 6 = .ok (.invokestatic 166, 3) := by decide +kernel
theorem dX9_rank_9 : decode cX9_rank 9 = .ok (.aload_n 0, 1) := by decide +kernel
theorem dX9_rank_10 : decode cX9_rank 10 = .ok (.iload_n 3, 1) := by decide +kernel
theorem dX9_rank_11 : decode cX9_rank 11 = .ok (.iload 4, 2) := by decide +kernel
theorem dX9_rank_13 : decode cX9_rank 13 = .ok (.invokevirtual 87, 3) := by decide +kernel
theorem dX9_rank_16 : decode cX9_rank 16 = .ok (.istore 5, 2) := by decide +kernel
theorem dX9_rank_18 : decode cX9_rank 18 = .ok (.iload 5, 2) := by decide +kernel
theorem dX9_rank_20 : decode cX9_rank 20 = .ok (.ifCond .lt 27, 3) := by decide +kernel
theorem dX9_rank_23 : decode cX9_rank 23 = .ok (.aload_n 0, 1) := by decide +kernel
theorem dX9_rank_24 : decode cX9_rank 24 = .ok (.getfield 42, 3) := by decide +kernel
theorem dX9_rank_27 : decode cX9_rank 27 = .ok (.iload 5, 2) := by decide +kernel
theorem dX9_rank_29 : decode cX9_rank 29 = .ok (.iload_n 2, 1) := by decide +kernel
theorem dX9_rank_30 : decode cX9_rank 30 = .ok (.invokestatic 169, 3) := by decide +kernel
theorem dX9_rank_33 : decode cX9_rank 33 = .ok (.ifCond .eq 14, 3) := by decide +kernel
theorem dX9_rank_36 : decode cX9_rank 36 = .ok (.aload_n 0, 1) := by decide +kernel
theorem dX9_rank_37 : decode cX9_rank 37 = .ok (.iload_n 1, 1) := by decide +kernel
theorem dX9_rank_38 : decode cX9_rank 38 = .ok (.iload 5, 2) := by decide +kernel
theorem dX9_rank_40 : decode cX9_rank 40 = .ok (.invokevirtual 123, 3) := by decide +kernel
theorem dX9_rank_43 : decode cX9_rank 43 = .ok (.iconst (-1), 1) := by decide +kernel
theorem dX9_rank_44 : decode cX9_rank 44 = .ok (.if_icmp .eq 5, 3) := by decide +kernel
theorem dX9_rank_47 : decode cX9_rank 47 = .ok (.iconst (-1), 1) := by decide +kernel
theorem dX9_rank_48 : decode cX9_rank 48 = .ok (.ireturn, 1) := by decide +kernel
theorem dX9_rank_49 : decode cX9_rank 49 = .ok (.aload_n 0, 1) := by decide +kernel
theorem dX9_rank_50 : decode cX9_rank 50 = .ok (.getfield 38, 3) := by decide +kernel
theorem dX9_rank_53 : decode cX9_rank 53 = .ok (.invokevirtual 137, 3) := by decide +kernel
theorem dX9_rank_56 : decode cX9_rank 56 = .ok (.aload_n 0, 1) := by decide +kernel
theorem dX9_rank_57 : decode cX9_rank 57 = .ok (.getfield 38, 3) := by decide +kernel
theorem dX9_rank_60 : decode cX9_rank 60 = .ok (.aload_n 0, 1) := by decide +kernel
theorem dX9_rank_61 : decode cX9_rank 61 = .ok (.getfield 17, 3) := by decide +kernel
theorem dX9_rank_64 : decode cX9_rank 64 = .ok (.iload_n 1, 1) := by decide +kernel
theorem dX9_rank_65 : decode cX9_rank 65 = .ok (.iload_n 2, 1) := by decide +kernel
theorem dX9_rank_66 : decode cX9_rank 66 = .ok (.iload 5, 2) := by decide +kernel
theorem dX9_rank_68 : decode cX9_rank 68 = .ok (.invokevirtual 140, 3) := by decide +kernel
theorem dX9_rank_71 : decode cX9_rank 71 = .ok (.iconst 0, 1) := by decide +kernel
theorem dX9_rank_72 : decode cX9_rank 72 = .ok (.istore 6, 2) := by decide +kernel
theorem dX9_rank_74 : decode cX9_rank 74 = .ok (.iload 6, 2) := by decide +kernel
theorem dX9_rank_76 : decode cX9_rank 76 = .ok (.sipush 20000, 3) := by decide +kernel
theorem dX9_rank_79 : decode cX9_rank 79 = .ok (.if_icmp .gt 45, 3) := by decide +kernel
theorem dX9_rank_82 : decode cX9_rank 82 = .ok (.aload_n 0, 1) := by decide +kernel
theorem dX9_rank_83 : decode cX9_rank 83 = .ok (.getfield 38, 3) := by decide +kernel
theorem dX9_rank_86 : decode cX9_rank 86 = .ok (.invokevirtual 173, 3) := by decide +kernel
theorem dX9_rank_89 : decode cX9_rank 89 = .ok (.iconst 1, 1) := by decide +kernel
theorem dX9_rank_90 : decode cX9_rank 90 = .ok (.if_icmp .eq 6, 3) := by decide +kernel
theorem dX9_rank_93 : decode cX9_rank 93 = .ok (.bipush (-2), 2) := by decide +kernel
theorem dX9_rank_95 : decode cX9_rank 95 = .ok (.ireturn, 1) := by decide +kernel
theorem dX9_rank_96 : decode cX9_rank 96 = .ok (.aload_n 0, 1) := by decide +kernel
theorem dX9_rank_97 : decode cX9_rank 97 = .ok (.getfield 38, 3) := by decide +kernel
theorem dX9_rank_100 : decode cX9_rank 100 = .ok (.getfield 159, 3) := by decide +kernel
theorem dX9_rank_103 : decode cX9_rank 103 = .ok (.aload_n 0, 1) := by decide +kernel
theorem dX9_rank_104 : decode cX9_rank 104 = .ok (.getfield 42, 3) := by decide +kernel
theorem dX9_rank_107 : decode cX9_rank 107 = .ok (.iload 5, 2) := by decide +kernel
theorem dX9_rank_109 : decode cX9_rank 109 = .ok (.invokestatic 177, 3) := by decide +kernel
theorem dX9_rank_112 : decode cX9_rank 112 = .ok (.ifCond .eq 6, 3) := by decide +kernel
theorem dX9_rank_115 : decode cX9_rank 115 = .ok (.iload 6, 2) := by decide +kernel
theorem dX9_rank_117 : decode cX9_rank 117 = .ok (.ireturn, 1) := by decide +kernel
theorem dX9_rank_118 : decode cX9_rank 118 = .ok (.iinc 6 1, 3) := by decide +kernel
theorem dX9_rank_121 : decode cX9_rank 121 = .ok (.goto (-47), 3) := by decide +kernel
theorem dX9_rank_124 : decode cX9_rank 124 = .ok (.bipush (-2), 2) := by decide +kernel
theorem dX9_rank_126 : decode cX9_rank 126 = .ok (.ireturn, 1) := by decide +kernel
theorem dX9_longest_0 : decode cX9_longest 0 = .ok (.aload_n 0, 1) := by decide +kernel
theorem dX9_longest_1 : decode cX9_longest 1 = .ok (.iload_n 1, 1) := by decide +kernel
theorem dX9_longest_2 : decode cX9_longest 2 = .ok (.invokevirtual 120, 3) := by decide +kernel
theorem dX9_longest_5 : decode cX9_longest 5 = .ok (.iload_n 2, 1) := by decide +kernel
theorem dX9_longest_6 : decode cX9_longest 6 = .ok (.invokestatic 166, 3) := by decide +kernel
theorem dX9_longest_9 : decode cX9_longest 9 = .ok (.aload_n 0, 1) := by decide +kernel
theorem dX9_longest_10 : decode cX9_longest 10 = .ok (.getfield 38, 3) := by decide +kernel
theorem dX9_longest_13 : decode cX9_longest 13 = .ok (.invokevirtual 137, 3) := by decide +kernel
theorem dX9_longest_16 : decode cX9_longest 16 = .ok (.aload_n 0, 1) := by decide +kernel
theorem dX9_longest_17 : decode cX9_longest 17 = .ok (.getfield 38, 3) := by decide +kernel
theorem dX9_longest_20 : decode cX9_longest 20 = .ok (.aload_n 0, 1) := by decide +kernel
theorem dX9_longest_21 : decode cX9_longest 21 = .ok (.getfield 17, 3) := by decide +kernel
theorem dX9_longest_24 : decode cX9_longest 24 = .ok (.iload_n 1, 1) := by decide +kernel
theorem dX9_longest_25 : decode cX9_longest 25 = .ok (.iload_n 2, 1) := by decide +kernel
theorem dX9_longest_26 : decode cX9_longest 26 = .ok (.bipush 60, 2) := by decide +kernel
theorem dX9_longest_28 : decode cX9_longest 28 = .ok (.invokevirtual 140, 3) := by decide +kernel
theorem dX9_longest_31 : decode cX9_longest 31 = .ok (.aload_n 0, 1) := by decide +kernel
theorem dX9_longest_32 : decode cX9_longest 32 = .ok (.getfield 38, 3) := by decide +kernel
theorem dX9_longest_35 : decode cX9_longest 35 = .ok (.invokevirtual 173, 3) := by decide +kernel
theorem dX9_longest_38 : decode cX9_longest 38 = .ok (.istore_n 3, 1) := by decide +kernel
theorem dX9_longest_39 : decode cX9_longest 39 = .ok (.iload_n 3, 1) := by decide +kernel
theorem dX9_longest_40 : decode cX9_longest 40 = .ok (.iconst 1, 1) := by decide +kernel
theorem dX9_longest_41 : decode cX9_longest 41 = .ok (.if_icmp .ne 5, 3) := by decide +kernel
theorem dX9_longest_44 : decode cX9_longest 44 = .ok (.iconst (-1), 1) := by decide +kernel
theorem dX9_longest_45 : decode cX9_longest 45 = .ok (.ireturn, 1) := by decide +kernel
theorem dX9_longest_46 : decode cX9_longest 46 = .ok (.iload_n 3, 1) := by decide +kernel
theorem dX9_longest_47 : decode cX9_longest 47 = .ok (.bipush (-2), 2) := by decide +kernel
theorem dX9_longest_49 : decode cX9_longest 49 = .ok (.if_icmp .ne 8, 3) := by decide +kernel
theorem dX9_longest_52 : decode cX9_longest 52 = .ok (.bipush (-2), 2) := by decide +kernel
theorem dX9_longest_54 : decode cX9_longest 54 = .ok (.goto 10, 3) := by decide +kernel
theorem dX9_longest_57 : decode cX9_longest 57 = .ok (.aload_n 0, 1) := by decide +kernel
theorem dX9_longest_58 : decode cX9_longest 58 = .ok (.getfield 38, 3) := by decide +kernel
theorem dX9_longest_61 : decode cX9_longest 61 = .ok (.getfield 181, 3) := by decide +kernel
theorem dX9_longest_64 : decode cX9_longest 64 = .ok (.ireturn, 1) := by decide +kernel
theorem dX9_map_0 : decode cX9_map 0 = .ok (.iload_n 1, 1) := by decide +kernel
theorem dX9_map_1 : decode cX9_map 1 = .ok (.ifCond .lt 9, 3) := by decide +kernel
theorem dX9_map_4 : decode cX9_map 4 = .ok (.iload_n 1, 1) := by decide +kernel
theorem dX9_map_5 : decode cX9_map 5 = .ok (.bipush 8, 2) := by decide +kernel
theorem dX9_map_7 : decode cX9_map 7 = .ok (.if_icmp .lt 13, 3) := by decide +kernel
theorem dX9_map_10 : decode cX9_map 10 = .ok (.new 49, 3) := by decide +kernel
theorem dX9_map_13 : decode cX9_map 13 = .ok (.dup, 1) := by decide +kernel
theorem dX9_map_14 : decode cX9_map 14 = .ok (.ldc 184, 2) := by decide +kernel
theorem dX9_map_16 : decode cX9_map 16 = .ok (.invokespecial 53, 3) := by decide +kernel
theorem dX9_map_19 : decode cX9_map 19 = .ok (.athrow, 1) := by decide +kernel
theorem dX9_map_20 : decode cX9_map 20 = .ok (.iload_n 2, 1) := by decide +kernel
theorem dX9_map_21 : decode cX9_map 21 = .ok (.invokestatic 166, 3) := by decide +kernel
theorem dX9_map_24 : decode cX9_map 24 = .ok (.aload_n 0, 1) := by decide +kernel
theorem dX9_map_25 : decode cX9_map 25 = .ok (.iload_n 3, 1) := by decide +kernel
theorem dX9_map_26 : decode cX9_map 26 = .ok (.iload 4, 2) := by decide +kernel
theorem dX9_map_28 : decode cX9_map 28 = .ok (.invokevirtual 68, 3) := by decide +kernel
theorem dX9_map_31 : decode cX9_map 31 = .ok (.astore 5, 2) := by decide +kernel
theorem dX9_map_33 : decode cX9_map 33 = .ok (.iload 4, 2) := by decide +kernel
theorem dX9_map_35 : decode cX9_map 35 = .ok (.iload_n 2, 1) := by decide +kernel
theorem dX9_map_36 : decode cX9_map 36 = .ok (.iadd, 1) := by decide +kernel
theorem dX9_map_37 : decode cX9_map 37 = .ok (.iconst 1, 1) := by decide +kernel
theorem dX9_map_38 : decode cX9_map 38 = .ok (.isub, 1) := by decide +kernel
theorem dX9_map_39 : decode cX9_map 39 = .ok (.invokestatic 186, 3) := by decide +kernel
theorem dX9_map_42 : decode cX9_map 42 = .ok (.iconst 0, 1) := by decide +kernel
theorem dX9_map_43 : decode cX9_map 43 = .ok (.istore 6, 2) := by decide +kernel
theorem dX9_map_45 : decode cX9_map 45 = .ok (.iload 6, 2) := by decide +kernel
theorem dX9_map_47 : decode cX9_map 47 = .ok (.iload_n 2, 1) := by decide +kernel
theorem dX9_map_48 : decode cX9_map 48 = .ok (.if_icmp .ge 53, 3) := by decide +kernel
theorem dX9_map_51 : decode cX9_map 51 = .ok (.aload 5, 2) := by decide +kernel
theorem dX9_map_53 : decode cX9_map 53 = .ok (.iload 4, 2) := by decide +kernel
theorem dX9_map_55 : decode cX9_map 55 = .ok (.iload 6, 2) := by decide +kernel
theorem dX9_map_57 : decode cX9_map 57 = .ok (.iadd, 1) := by decide +kernel
theorem dX9_map_58 : decode cX9_map 58 = .ok (.aload_n 0, 1) := by decide +kernel
theorem dX9_map_59 : decode cX9_map 59 = .ok (.getfield 42, 3) := by decide +kernel
theorem dX9_map_62 : decode cX9_map 62 = .ok (.invokevirtual 189, 3) := by decide +kernel
theorem dX9_map_65 : decode cX9_map 65 = .ok (.istore 7, 2) := by decide +kernel
theorem dX9_map_67 : decode cX9_map 67 = .ok (.iload 7, 2) := by decide +kernel
theorem dX9_map_69 : decode cX9_map 69 = .ok (.iconst 1, 1) := by decide +kernel
theorem dX9_map_70 : decode cX9_map 70 = .ok (.if_icmp .lt 23, 3) := by decide +kernel
theorem dX9_map_73 : decode cX9_map 73 = .ok (.iload 7, 2) := by decide +kernel
theorem dX9_map_75 : decode cX9_map 75 = .ok (.bipush 20, 2) := by decide +kernel
theorem dX9_map_77 : decode cX9_map 77 = .ok (.if_icmp .gt 16, 3) := by decide +kernel
theorem dX9_map_80 : decode cX9_map 80 = .ok (.aload_n 0, 1) := by decide +kernel
theorem dX9_map_81 : decode cX9_map 81 = .ok (.getfield 42, 3) := by decide +kernel
theorem dX9_map_84 : decode cX9_map 84 = .ok (.iload 7, 2) := by decide +kernel
theorem dX9_map_86 : decode cX9_map 86 = .ok (.iload_n 2, 1) := by decide +kernel
theorem dX9_map_87 : decode cX9_map 87 = .ok (.invokestatic 169, 3) := by decide +kernel
theorem dX9_map_90 : decode cX9_map 90 = .ok (.ifCond .ne 5, 3) := by decide +kernel
theorem dX9_map_93 : decode cX9_map 93 = .ok (.iconst 0, 1) := by decide +kernel
theorem dX9_map_94 : decode cX9_map 94 = .ok (.ireturn, 1) := by decide +kernel
theorem dX9_map_95 : decode cX9_map 95 = .ok (.iinc 6 1, 3) := by decide +kernel
theorem dX9_map_98 : decode cX9_map 98 = .ok (.goto (-53), 3) := by decide +kernel
theorem dX9_map_101 : decode cX9_map 101 = .ok (.aload_n 0, 1) := by decide +kernel
theorem dX9_map_102 : decode cX9_map 102 = .ok (.getfield 23, 3) := by decide +kernel
theorem dX9_map_105 : decode cX9_map 105 = .ok (.iload_n 1, 1) := by decide +kernel
theorem dX9_map_106 : decode cX9_map 106 = .ok (.aaload, 1) := by decide +kernel
theorem dX9_map_107 : decode cX9_map 107 = .ok (.ifnonnull 16, 3) := by decide +kernel
theorem dX9_map_110 : decode cX9_map 110 = .ok (.aload_n 0, 1) := by decide +kernel
theorem dX9_map_111 : decode cX9_map 111 = .ok (.getfield 23, 3) := by decide +kernel
theorem dX9_map_114 : decode cX9_map 114 = .ok (.iload_n 1, 1) := by decide +kernel
theorem dX9_map_115 : decode cX9_map 115 = .ok (.new 21, 3) := by decide +kernel
theorem dX9_map_118 : decode cX9_map 118 = .ok (.dup, 1) := by decide +kernel
theorem dX9_map_119 : decode cX9_map 119 = .ok (.invokespecial 193, 3) := by decide +kernel
theorem dX9_map_122 : decode cX9_map 122 = .ok (.aastore, 1) := by decide +kernel
theorem dX9_map_123 : decode cX9_map 123 = .ok (.aload_n 0, 1) := by decide +kernel
theorem dX9_map_124 : decode cX9_map 124 = .ok (.aload_n 0, 1) := by decide +kernel
theorem dX9_map_125 : decode cX9_map 125 = .ok (.getfield 23, 3) := by decide +kernel
theorem dX9_map_128 : decode cX9_map 128 = .ok (.iload_n 1, 1) := by decide +kernel
theorem dX9_map_129 : decode cX9_map 129 = .ok (.aaload, 1) := by decide +kernel
theorem dX9_map_130 : decode cX9_map 130 = .ok (.iload_n 2, 1) := by decide +kernel
theorem dX9_map_131 : decode cX9_map 131 = .ok (.aload 5, 2) := by decide +kernel
theorem dX9_map_133 : decode cX9_map 133 = .ok (.iload 4, 2) := by decide +kernel
theorem dX9_map_135 : decode cX9_map 135 = .ok (.invokevirtual 194, 3) := by decide +kernel
theorem dX9_map_138 : decode cX9_map 138 = .ok (.iconst 1, 1) := by decide +kernel
theorem dX9_map_139 : decode cX9_map 139 = .ok (.ireturn, 1) := by decide +kernel
theorem dX9_image_0 : decode cX9_image 0 = .ok (.aload_n 0, 1) := by decide +kernel
theorem dX9_image_1 : decode cX9_image 1 = .ok (.iload_n 1, 1) := by decide +kernel
theorem dX9_image_2 : decode cX9_image 2 = .ok (.invokevirtual 198, 3) := by decide +kernel
theorem dX9_image_5 : decode cX9_image 5 = .ok (.astore 5, 2) := by decide +kernel
theorem dX9_image_7 : decode cX9_image 7 = .ok (.aload_n 0, 1) := by decide +kernel
theorem dX9_image_8 : decode cX9_image 8 = .ok (.iload_n 2, 1) := by decide +kernel
theorem dX9_image_9 : decode cX9_image 9 = .ok (.iload_n 3, 1) := by decide +kernel
theorem dX9_image_10 : decode cX9_image 10 = .ok (.invokevirtual 87, 3) := by decide +kernel
theorem dX9_image_13 : decode cX9_image 13 = .ok (.istore 6, 2) := by decide +kernel
theorem dX9_image_15 : decode cX9_image 15 = .ok (.aload_n 0, 1) := by decide +kernel
theorem dX9_image_16 : decode cX9_image 16 = .ok (.iload 4, 2) := by decide +kernel
theorem dX9_image_18 : decode cX9_image 18 = .ok (.invokevirtual 150, 3) := by decide +kernel
theorem dX9_image_21 : decode cX9_image 21 = .ok (.astore 7, 2) := by decide +kernel
theorem dX9_image_23 : decode cX9_image 23 = .ok (.iload 6, 2) := by decide +kernel
theorem dX9_image_25 : decode cX9_image 25 = .ok (.ifCond .lt 20, 3) := by decide +kernel
theorem dX9_image_28 : decode cX9_image 28 = .ok (.aload_n 0, 1) := by decide +kernel
theorem dX9_image_29 : decode cX9_image 29 = .ok (.getfield 42, 3) := by decide +kernel
theorem dX9_image_32 : decode cX9_image 32 = .ok (.iload 6, 2) := by decide +kernel
theorem dX9_image_34 : decode cX9_image 34 = .ok (.aload 5, 2) := by decide +kernel
theorem dX9_image_36 : decode cX9_image 36 = .ok (.getfield 202, 3) := by decide +kernel
theorem dX9_image_39 : decode cX9_image 39 = .ok (.invokestatic 169, 3) := by decide +kernel
theorem dX9_image_42 : decode cX9_image 42 = .ok (.ifCond .ne 5, 3) := by decide +kernel
theorem dX9_image_45 : decode cX9_image 45 = .ok (.iconst (-1), 1) := by decide +kernel
theorem dX9_image_46 : decode cX9_image 46 = .ok (.ireturn, 1) := by decide +kernel
theorem dX9_image_47 : decode cX9_image 47 = .ok (.aload 5, 2) := by decide +kernel
theorem dX9_image_49 : decode cX9_image 49 = .ok (.aload_n 0, 1) := by decide +kernel
theorem dX9_image_50 : decode cX9_image 50 = .ok (.getfield 42, 3) := by decide +kernel
theorem dX9_image_53 : decode cX9_image 53 = .ok (.iload 6, 2) := by decide +kernel
theorem dX9_image_55 : decode cX9_image 55 = .ok (.aload_n 0, 1) := by decide +kernel
theorem dX9_image_56 : decode cX9_image 56 = .ok (.getfield 46, 3) := by decide +kernel
theorem dX9_image_59 : decode cX9_image 59 = .ok (.invokevirtual 205, 3) := by decide +kernel
theorem dX9_image_62 : decode cX9_image 62 = .ok (.istore 8, 2) := by decide +kernel
theorem dX9_image_64 : decode cX9_image 64 = .ok (.iload 8, 2) := by decide +kernel
theorem dX9_image_66 : decode cX9_image 66 = .ok (.iconst (-1), 1) := by decide +kernel
theorem dX9_image_67 : decode cX9_image 67 = .ok (.if_icmp .eq 10, 3) := by decide +kernel
theorem dX9_image_70 : decode cX9_image 70 = .ok (.iload 8, 2) := by decide +kernel
theorem dX9_image_72 : decode cX9_image 72 = .ok (.bipush 60, 2) := by decide +kernel
theorem dX9_image_74 : decode cX9_image 74 = .ok (.if_icmp .le 6, 3) := by decide +kernel
theorem dX9_image_77 : decode cX9_image 77 = .ok (.bipush (-2), 2) := by decide +kernel
theorem dX9_image_79 : decode cX9_image 79 = .ok (.ireturn, 1) := by decide +kernel
theorem dX9_image_80 : decode cX9_image 80 = .ok (.aload 7, 2) := by decide +kernel
theorem dX9_image_82 : decode cX9_image 82 = .ok (.iconst 0, 1) := by decide +kernel
theorem dX9_image_83 : decode cX9_image 83 = .ok (.aload_n 0, 1) := by decide +kernel
theorem dX9_image_84 : decode cX9_image 84 = .ok (.getfield 46, 3) := by decide +kernel
theorem dX9_image_87 : decode cX9_image 87 = .ok (.iload 8, 2) := by decide +kernel
theorem dX9_image_89 : decode cX9_image 89 = .ok (.invokevirtual 162, 3) := by decide +kernel
theorem dX9_image_92 : decode cX9_image 92 = .ok (.iload 8, 2) := by decide +kernel
theorem dX9_image_94 : decode cX9_image 94 = .ok (.ireturn, 1) := by decide +kernel
theorem dX9_keeps_0 : decode cX9_keeps 0 = .ok (.aload_n 0, 1) := by decide +kernel
theorem dX9_keeps_1 : decode cX9_keeps 1 = .ok (.iload_n 1, 1) := by decide +kernel
theorem dX9_keeps_2 : decode cX9_keeps 2 = .ok (.invokevirtual 198, 3) := by decide +kernel
theorem dX9_keeps_5 : decode cX9_keeps 5 = .ok (.astore_n 3, 1) := by decide +kernel
theorem dX9_keeps_6 : decode cX9_keeps 6 = .ok (.aload_n 0, 1) := by decide +kernel
theorem dX9_keeps_7 : decode cX9_keeps 7 = .ok (.iload_n 2, 1) := by decide +kernel
theorem dX9_keeps_8 : decode cX9_keeps 8 = .ok (.invokevirtual 150, 3) := by decide +kernel
theorem dX9_keeps_11 : decode cX9_keeps 11 = .ok (.astore 4, 2) := by decide +kernel
theorem dX9_keeps_13 : decode cX9_keeps 13 = .ok (.aload_n 0, 1) := by decide +kernel
theorem dX9_keeps_14 : decode cX9_keeps 14 = .ok (.getfield 38, 3) := by decide +kernel
theorem dX9_keeps_17 : decode cX9_keeps 17 = .ok (.invokevirtual 137, 3) := by decide +kernel
theorem dX9_keeps_20 : decode cX9_keeps 20 = .ok (.aload_n 3, 1) := by decide +kernel
theorem dX9_keeps_21 : decode cX9_keeps 21 = .ok (.invokevirtual 209, 3) := by decide +kernel
theorem dX9_keeps_24 : decode cX9_keeps 24 = .ok (.istore 5, 2) := by decide +kernel
theorem dX9_keeps_26 : decode cX9_keeps 26 = .ok (.iconst 1, 1) := by decide +kernel
theorem dX9_keeps_27 : decode cX9_keeps 27 = .ok (.istore 6, 2) := by decide +kernel
theorem dX9_keeps_29 : decode cX9_keeps 29 = .ok (.iload 6, 2) := by decide +kernel
theorem dX9_keeps_31 : decode cX9_keeps 31 = .ok (.iload 5, 2) := by decide +kernel
theorem dX9_keeps_33 : decode cX9_keeps 33 = .ok (.if_icmp .gt 51, 3) := by decide +kernel
theorem dX9_keeps_36 : decode cX9_keeps 36 = .ok (.aload_n 0, 1) := by decide +kernel
theorem dX9_keeps_37 : decode cX9_keeps 37 = .ok (.aload_n 3, 1) := by decide +kernel
theorem dX9_keeps_38 : decode cX9_keeps 38 = .ok (.iload 6, 2) := by decide +kernel
theorem dX9_keeps_40 : decode cX9_keeps 40 = .ok (.invokevirtual 212, 3) := by decide +kernel
theorem dX9_keeps_43 : decode cX9_keeps 43 = .ok (.istore 7, 2) := by decide +kernel
theorem dX9_keeps_45 : decode cX9_keeps 45 = .ok (.iload 7, 2) := by decide +kernel
theorem dX9_keeps_47 : decode cX9_keeps 47 = .ok (.bipush (-2), 2) := by decide +kernel
theorem dX9_keeps_49 : decode cX9_keeps 49 = .ok (.if_icmp .ne 6, 3) := by decide +kernel
theorem dX9_keeps_52 : decode cX9_keeps 52 = .ok (.bipush (-2), 2) := by decide +kernel
theorem dX9_keeps_54 : decode cX9_keeps 54 = .ok (.ireturn, 1) := by decide +kernel
theorem dX9_keeps_55 : decode cX9_keeps 55 = .ok (.iload 7, 2) := by decide +kernel
theorem dX9_keeps_57 : decode cX9_keeps 57 = .ok (.iconst 1, 1) := by decide +kernel
theorem dX9_keeps_58 : decode cX9_keeps 58 = .ok (.if_icmp .ne 20, 3) := by decide +kernel
theorem dX9_keeps_61 : decode cX9_keeps 61 = .ok (.aload 4, 2) := by decide +kernel
theorem dX9_keeps_63 : decode cX9_keeps 63 = .ok (.iconst 0, 1) := by decide +kernel
theorem dX9_keeps_64 : decode cX9_keeps 64 = .ok (.aload_n 0, 1) := by decide +kernel
theorem dX9_keeps_65 : decode cX9_keeps 65 = .ok (.getfield 38, 3) := by decide +kernel
theorem dX9_keeps_68 : decode cX9_keeps 68 = .ok (.getfield 159, 3) := by decide +kernel
theorem dX9_keeps_71 : decode cX9_keeps 71 = .ok (.iload 6, 2) := by decide +kernel
theorem dX9_keeps_73 : decode cX9_keeps 73 = .ok (.invokevirtual 162, 3) := by decide +kernel
theorem dX9_keeps_76 : decode cX9_keeps 76 = .ok (.iconst 0, 1) := by decide +kernel
theorem dX9_keeps_77 : decode cX9_keeps 77 = .ok (.ireturn, 1) := by decide +kernel
theorem dX9_keeps_78 : decode cX9_keeps 78 = .ok (.iinc 6 1, 3) := by decide +kernel
theorem dX9_keeps_81 : decode cX9_keeps 81 = .ok (.goto (-52), 3) := by decide +kernel
theorem dX9_keeps_84 : decode cX9_keeps 84 = .ok (.iconst 1, 1) := by decide +kernel
theorem dX9_keeps_85 : decode cX9_keeps 85 = .ok (.ireturn, 1) := by decide +kernel
theorem dX9_at_0 : decode cX9_at 0 = .ok (.aload_n 0, 1) := by decide +kernel
theorem dX9_at_1 : decode cX9_at 1 = .ok (.iload_n 1, 1) := by decide +kernel
theorem dX9_at_2 : decode cX9_at 2 = .ok (.invokevirtual 198, 3) := by decide +kernel
theorem dX9_at_5 : decode cX9_at 5 = .ok (.astore 4, 2) := by decide +kernel
theorem dX9_at_7 : decode cX9_at 7 = .ok (.iload_n 3, 1) := by decide +kernel
theorem dX9_at_8 : decode cX9_at 8 = .ok (.ifCond .lt 12, 3) := by decide +kernel
theorem dX9_at_11 : decode cX9_at 11 = .ok (.aload 4, 2) := by decide +kernel
theorem dX9_at_13 : decode cX9_at 13 = .ok (.iload_n 2, 1) := by decide +kernel
theorem dX9_at_14 : decode cX9_at 14 = .ok (.invokevirtual 216, 3) := by decide +kernel
theorem dX9_at_17 : decode cX9_at 17 = .ok (.ifCond .ne 7, 3) := by decide +kernel
theorem dX9_at_20 : decode cX9_at 20 = .ok (.iconst (-1), 1) := by decide +kernel
theorem dX9_at_21 : decode cX9_at 21 = .ok (.goto 10, 3) := by decide +kernel
theorem dX9_at_24 : decode cX9_at 24 = .ok (.aload 4, 2) := by decide +kernel
theorem dX9_at_26 : decode cX9_at 26 = .ok (.iload_n 2, 1) := by decide +kernel
theorem dX9_at_27 : decode cX9_at 27 = .ok (.iload_n 3, 1) := by decide +kernel
theorem dX9_at_28 : decode cX9_at 28 = .ok (.invokevirtual 220, 3) := by decide +kernel
theorem dX9_at_31 : decode cX9_at 31 = .ok (.ireturn, 1) := by decide +kernel
theorem dX9_shape_0 : decode cX9_shape 0 = .ok (.iload_n 1, 1) := by decide +kernel
theorem dX9_shape_1 : decode cX9_shape 1 = .ok (.ifCond .lt 20, 3) := by decide +kernel
theorem dX9_shape_4 : decode cX9_shape 4 = .ok (.iload_n 1, 1) := by decide +kernel
theorem dX9_shape_5 : decode cX9_shape 5 = .ok (.aload_n 0, 1) := by decide +kernel
theorem dX9_shape_6 : decode cX9_shape 6 = .ok (.getfield 100, 3) := by decide +kernel
theorem dX9_shape_9 : decode cX9_shape 9 = .ok (.if_icmp .ge 12, 3) := by decide +kernel
theorem dX9_shape_12 : decode cX9_shape 12 = .ok (.iload_n 1, 1) := by decide +kernel
theorem dX9_shape_13 : decode cX9_shape 13 = .ok (.aload_n 0, 1) := by decide +kernel
theorem dX9_shape_14 : decode cX9_shape 14 = .ok (.getfield 17, 3) := by decide +kernel
theorem dX9_shape_17 : decode cX9_shape 17 = .ok (.arraylength, 1) := by decide +kernel
theorem dX9_shape_18 : decode cX9_shape 18 = .ok (.if_icmp .lt 13, 3) := by decide +kernel
theorem dX9_shape_21 : decode cX9_shape 21 = .ok (.new 223, 3) := by decide +kernel
theorem dX9_shape_24 : decode cX9_shape 24 = .ok (.dup, 1) := by decide +kernel
theorem dX9_shape_25 : decode cX9_shape 25 = .ok (.ldc 225, 2) := by decide +kernel
theorem dX9_shape_27 : decode cX9_shape 27 = .ok (.invokespecial 227, 3) := by decide +kernel
theorem dX9_shape_30 : decode cX9_shape 30 = .ok (.athrow, 1) := by decide +kernel
theorem dX9_shape_31 : decode cX9_shape 31 = .ok (.iload_n 2, 1) := by decide +kernel
theorem dX9_shape_32 : decode cX9_shape 32 = .ok (.ifCond .ge 13, 3) := by decide +kernel
theorem dX9_shape_35 : decode cX9_shape 35 = .ok (.new 49, 3) := by decide +kernel
theorem dX9_shape_38 : decode cX9_shape 38 = .ok (.dup, 1) := by decide +kernel
theorem dX9_shape_39 : decode cX9_shape 39 = .ok (.ldc 228, 2) := by decide +kernel
theorem dX9_shape_41 : decode cX9_shape 41 = .ok (.invokespecial 53, 3) := by decide +kernel
theorem dX9_shape_44 : decode cX9_shape 44 = .ok (.athrow, 1) := by decide +kernel
theorem dX9_shape_45 : decode cX9_shape 45 = .ok (.aload_n 0, 1) := by decide +kernel
theorem dX9_shape_46 : decode cX9_shape 46 = .ok (.getfield 17, 3) := by decide +kernel
theorem dX9_shape_49 : decode cX9_shape 49 = .ok (.iload_n 1, 1) := by decide +kernel
theorem dX9_shape_50 : decode cX9_shape 50 = .ok (.aaload, 1) := by decide +kernel
theorem dX9_shape_51 : decode cX9_shape 51 = .ok (.instanceof 230, 3) := by decide +kernel
theorem dX9_shape_54 : decode cX9_shape 54 = .ok (.ifCond .eq 19, 3) := by decide +kernel
theorem dX9_shape_57 : decode cX9_shape 57 = .ok (.aload_n 0, 1) := by decide +kernel
theorem dX9_shape_58 : decode cX9_shape 58 = .ok (.getfield 17, 3) := by decide +kernel
theorem dX9_shape_61 : decode cX9_shape 61 = .ok (.iload_n 1, 1) := by decide +kernel
theorem dX9_shape_62 : decode cX9_shape 62 = .ok (.aaload, 1) := by decide +kernel
theorem dX9_shape_63 : decode cX9_shape 63 = .ok (.checkcast 230, 3) := by decide +kernel
theorem dX9_shape_66 : decode cX9_shape 66 = .ok (.iload_n 2, 1) := by decide +kernel
theorem dX9_shape_67 : decode cX9_shape 67 = .ok (.invokestatic 232, 3) := by decide +kernel
theorem dX9_shape_70 : decode cX9_shape 70 = .ok (.goto 4, 3) := by decide +kernel
theorem dX9_shape_73 : decode cX9_shape 73 = .ok (.iconst (-1), 1) := by decide +kernel
theorem dX9_shape_74 : decode cX9_shape 74 = .ok (.ireturn, 1) := by decide +kernel
theorem dX9_tellShape_0 : decode cX9_tellShape 0 = .ok (.iload_n 1, 1) := by decide +kernel
theorem dX9_tellShape_1 : decode cX9_tellShape 1 = .ok (.iconst 1, 1) := by decide +kernel
theorem dX9_tellShape_2 : decode cX9_tellShape 2 = .ok (.if_icmp .ne 16, 3) := by decide +kernel
theorem dX9_tellShape_5 : decode cX9_tellShape 5 = .ok (.aload_n 0, 1) := by decide +kernel
theorem dX9_tellShape_6 : decode cX9_tellShape 6 = .ok (.invokevirtual 236, 3) := by decide +kernel
theorem dX9_tellShape_9 : decode cX9_tellShape 9 = .ok (.ifCond .eq 7, 3) := by decide +kernel
theorem dX9_tellShape_12 : decode cX9_tellShape 12 = .ok (.iconst 1, 1) := by decide +kernel
theorem dX9_tellShape_13 : decode cX9_tellShape 13 = .ok (.goto 4, 3) := by decide +kernel
theorem dX9_tellShape_16 : decode cX9_tellShape 16 = .ok (.iconst 0, 1) := by decide +kernel
theorem dX9_tellShape_17 : decode cX9_tellShape 17 = .ok (.ireturn, 1) := by decide +kernel
theorem dX9_tellShape_18 : decode cX9_tellShape 18 = .ok (.aload_n 0, 1) := by decide +kernel
theorem dX9_tellShape_19 : decode cX9_tellShape 19 = .ok (.invokevirtual 240, 3) := by decide +kernel
theorem dX9_tellShape_22 : decode cX9_tellShape 22 = .ok (.istore_n 2, 1) := by decide +kernel
theorem dX9_tellShape_23 : decode cX9_tellShape 23 = .ok (.iload_n 1, 1) := by decide +kernel
theorem dX9_tellShape_24 : decode cX9_tellShape 24 = .ok (.ifCond .ne 13, 3) := by decide +kernel
theorem dX9_tellShape_27 : decode cX9_tellShape 27 = .ok (.iload_n 2, 1) := by decide +kernel
theorem dX9_tellShape_28 : decode cX9_tellShape 28 = .ok (.ifCond .le 7, 3) := by decide +kernel
theorem dX9_tellShape_31 : decode cX9_tellShape 31 = .ok (.iconst 1, 1) := by decide +kernel
theorem dX9_tellShape_32 : decode cX9_tellShape 32 = .ok (.goto 4, 3) := by decide +kernel
theorem dX9_tellShape_35 : decode cX9_tellShape 35 = .ok (.iconst 0, 1) := by decide +kernel
theorem dX9_tellShape_36 : decode cX9_tellShape 36 = .ok (.ireturn, 1) := by decide +kernel
theorem dX9_tellShape_37 : decode cX9_tellShape 37 = .ok (.iload_n 1, 1) := by decide +kernel
theorem dX9_tellShape_38 : decode cX9_tellShape 38 = .ok (.iconst 2, 1) := by decide +kernel
theorem dX9_tellShape_39 : decode cX9_tellShape 39 = .ok (.if_icmp .ne 5, 3) := by decide +kernel
theorem dX9_tellShape_42 : decode cX9_tellShape 42 = .ok (.iload_n 2, 1) := by decide +kernel
theorem dX9_tellShape_43 : decode cX9_tellShape 43 = .ok (.ireturn, 1) := by decide +kernel
theorem dX9_tellShape_44 : decode cX9_tellShape 44 = .ok (.iload_n 1, 1) := by decide +kernel
theorem dX9_tellShape_45 : decode cX9_tellShape 45 = .ok (.iconst 3, 1) := by decide +kernel
theorem dX9_tellShape_46 : decode cX9_tellShape 46 = .ok (.isub, 1) := by decide +kernel
theorem dX9_tellShape_47 : decode cX9_tellShape 47 = .ok (.iload_n 2, 1) := by decide +kernel
theorem dX9_tellShape_48 : decode cX9_tellShape 48 = .ok (.if_icmp .ge 13, 3) := by decide +kernel
theorem dX9_tellShape_51 : decode cX9_tellShape 51 = .ok (.aload_n 0, 1) := by decide +kernel
theorem dX9_tellShape_52 : decode cX9_tellShape 52 = .ok (.iload_n 1, 1) := by decide +kernel
theorem dX9_tellShape_53 : decode cX9_tellShape 53 = .ok (.iconst 3, 1) := by decide +kernel
theorem dX9_tellShape_54 : decode cX9_tellShape 54 = .ok (.isub, 1) := by decide +kernel
theorem dX9_tellShape_55 : decode cX9_tellShape 55 = .ok (.invokevirtual 243, 3) := by decide +kernel
theorem dX9_tellShape_58 : decode cX9_tellShape 58 = .ok (.goto 4, 3) := by decide +kernel
theorem dX9_tellShape_61 : decode cX9_tellShape 61 = .ok (.iconst 0, 1) := by decide +kernel
theorem dX9_tellShape_62 : decode cX9_tellShape 62 = .ok (.ireturn, 1) := by decide +kernel
theorem dX9_sheetOf_0 : decode cX9_sheetOf 0 = .ok (.iload_n 1, 1) := by decide +kernel
theorem dX9_sheetOf_1 : decode cX9_sheetOf 1 = .ok (.ifCond .lt 21, 3) := by decide +kernel
theorem dX9_sheetOf_4 : decode cX9_sheetOf 4 = .ok (.iload_n 1, 1) := by decide +kernel
theorem dX9_sheetOf_5 : decode cX9_sheetOf 5 = .ok (.aload_n 0, 1) := by decide +kernel
theorem dX9_sheetOf_6 : decode cX9_sheetOf 6 = .ok (.getfield 11, 3) := by decide +kernel
theorem dX9_sheetOf_9 : decode cX9_sheetOf 9 = .ok (.arraylength, 1) := by decide +kernel
theorem dX9_sheetOf_10 : decode cX9_sheetOf 10 = .ok (.if_icmp .ge 12, 3) := by decide +kernel
theorem dX9_sheetOf_13 : decode cX9_sheetOf 13 = .ok (.aload_n 0, 1) := by decide +kernel
theorem dX9_sheetOf_14 : decode cX9_sheetOf 14 = .ok (.getfield 11, 3) := by decide +kernel
theorem dX9_sheetOf_17 : decode cX9_sheetOf 17 = .ok (.iload_n 1, 1) := by decide +kernel
theorem dX9_sheetOf_18 : decode cX9_sheetOf 18 = .ok (.aaload, 1) := by decide +kernel
theorem dX9_sheetOf_19 : decode cX9_sheetOf 19 = .ok (.goto 4, 3) := by decide +kernel
theorem dX9_sheetOf_22 : decode cX9_sheetOf 22 = .ok (.aconst_null, 1) := by decide +kernel
theorem dX9_sheetOf_23 : decode cX9_sheetOf 23 = .ok (.astore_n 2, 1) := by decide +kernel
theorem dX9_sheetOf_24 : decode cX9_sheetOf 24 = .ok (.aload_n 2, 1) := by decide +kernel
theorem dX9_sheetOf_25 : decode cX9_sheetOf 25 = .ok (.ifnonnull 13, 3) := by decide +kernel
theorem dX9_sheetOf_28 : decode cX9_sheetOf 28 = .ok (.new 223, 3) := by decide +kernel
theorem dX9_sheetOf_31 : decode cX9_sheetOf 31 = .ok (.dup, 1) := by decide +kernel
theorem dX9_sheetOf_32 : decode cX9_sheetOf 32 = .ok (.ldc 246, 2) := by decide +kernel
theorem dX9_sheetOf_34 : decode cX9_sheetOf 34 = .ok (.invokespecial 227, 3) := by decide +kernel
theorem dX9_sheetOf_37 : decode cX9_sheetOf 37 = .ok (.athrow, 1) := by decide +kernel
theorem dX9_sheetOf_38 : decode cX9_sheetOf 38 = .ok (.aload_n 2, 1) := by decide +kernel
theorem dX9_sheetOf_39 : decode cX9_sheetOf 39 = .ok (.areturn, 1) := by decide +kernel
theorem dX9_needRow_0 : decode cX9_needRow 0 = .ok (.iload_n 0, 1) := by decide +kernel
theorem dX9_needRow_1 : decode cX9_needRow 1 = .ok (.ifCond .lt 9, 3) := by decide +kernel
theorem dX9_needRow_4 : decode cX9_needRow 4 = .ok (.iload_n 0, 1) := by decide +kernel
theorem dX9_needRow_5 : decode cX9_needRow 5 = .ok (.bipush 10, 2) := by decide +kernel
theorem dX9_needRow_7 : decode cX9_needRow 7 = .ok (.if_icmp .lt 13, 3) := by decide +kernel
theorem dX9_needRow_10 : decode cX9_needRow 10 = .ok (.new 223, 3) := by decide +kernel
theorem dX9_needRow_13 : decode cX9_needRow 13 = .ok (.dup, 1) := by decide +kernel
theorem dX9_needRow_14 : decode cX9_needRow 14 = .ok (.ldc 248, 2) := by decide +kernel
theorem dX9_needRow_16 : decode cX9_needRow 16 = .ok (.invokespecial 227, 3) := by decide +kernel
theorem dX9_needRow_19 : decode cX9_needRow 19 = .ok (.athrow, 1) := by decide +kernel
theorem dX9_needRow_20 : decode cX9_needRow 20 = .ok (.return_, 1) := by decide +kernel
theorem dX9_sheetWithRow_0 : decode cX9_sheetWithRow 0 = .ok (.aload_n 0, 1) := by decide +kernel
theorem dX9_sheetWithRow_1 : decode cX9_sheetWithRow 1 = .ok (.iload_n 1, 1) := by decide +kernel
theorem dX9_sheetWithRow_2 : decode cX9_sheetWithRow 2 = .ok (.invokevirtual 150, 3) := by decide +kernel
theorem dX9_sheetWithRow_5 : decode cX9_sheetWithRow 5 = .ok (.astore_n 3, 1) := by decide +kernel
theorem dX9_sheetWithRow_6 : decode cX9_sheetWithRow 6 = .ok (.iload_n 2, 1) := by decide +kernel
theorem dX9_sheetWithRow_7 : decode cX9_sheetWithRow 7 = .ok (.invokestatic 186, 3) := by decide +kernel
theorem dX9_sheetWithRow_10 : decode cX9_sheetWithRow 10 = .ok (.aload_n 3, 1) := by decide +kernel
theorem dX9_sheetWithRow_11 : decode cX9_sheetWithRow 11 = .ok (.areturn, 1) := by decide +kernel
theorem dX9_readWord_0 : decode cX9_readWord 0 = .ok (.aload_n 0, 1) := by decide +kernel
theorem dX9_readWord_1 : decode cX9_readWord 1 = .ok (.iload_n 1, 1) := by decide +kernel
theorem dX9_readWord_2 : decode cX9_readWord 2 = .ok (.iload_n 2, 1) := by decide +kernel
theorem dX9_readWord_3 : decode cX9_readWord 3 = .ok (.invokevirtual 68, 3) := by decide +kernel
theorem dX9_readWord_6 : decode cX9_readWord 6 = .ok (.iload_n 2, 1) := by decide +kernel
theorem dX9_readWord_7 : decode cX9_readWord 7 = .ok (.aload_n 0, 1) := by decide +kernel
theorem dX9_readWord_8 : decode cX9_readWord 8 = .ok (.getfield 42, 3) := by decide +kernel
theorem dX9_readWord_11 : decode cX9_readWord 11 = .ok (.invokevirtual 189, 3) := by decide +kernel
theorem dX9_readWord_14 : decode cX9_readWord 14 = .ok (.ireturn, 1) := by decide +kernel
theorem dX9_mapOf_0 : decode cX9_mapOf 0 = .ok (.iload_n 1, 1) := by decide +kernel
theorem dX9_mapOf_1 : decode cX9_mapOf 1 = .ok (.ifCond .lt 21, 3) := by decide +kernel
theorem dX9_mapOf_4 : decode cX9_mapOf 4 = .ok (.iload_n 1, 1) := by decide +kernel
theorem dX9_mapOf_5 : decode cX9_mapOf 5 = .ok (.aload_n 0, 1) := by decide +kernel
theorem dX9_mapOf_6 : decode cX9_mapOf 6 = .ok (.getfield 23, 3) := by decide +kernel
theorem dX9_mapOf_9 : decode cX9_mapOf 9 = .ok (.arraylength, 1) := by decide +kernel
theorem dX9_mapOf_10 : decode cX9_mapOf 10 = .ok (.if_icmp .ge 12, 3) := by decide +kernel
theorem dX9_mapOf_13 : decode cX9_mapOf 13 = .ok (.aload_n 0, 1) := by decide +kernel
theorem dX9_mapOf_14 : decode cX9_mapOf 14 = .ok (.getfield 23, 3) := by decide +kernel
theorem dX9_mapOf_17 : decode cX9_mapOf 17 = .ok (.iload_n 1, 1) := by decide +kernel
theorem dX9_mapOf_18 : decode cX9_mapOf 18 = .ok (.aaload, 1) := by decide +kernel
theorem dX9_mapOf_19 : decode cX9_mapOf 19 = .ok (.goto 4, 3) := by decide +kernel
theorem dX9_mapOf_22 : decode cX9_mapOf 22 = .ok (.aconst_null, 1) := by decide +kernel
theorem dX9_mapOf_23 : decode cX9_mapOf 23 = .ok (.astore_n 2, 1) := by decide +kernel
theorem dX9_mapOf_24 : decode cX9_mapOf 24 = .ok (.aload_n 2, 1) := by decide +kernel
theorem dX9_mapOf_25 : decode cX9_mapOf 25 = .ok (.ifnonnull 13, 3) := by decide +kernel
theorem dX9_mapOf_28 : decode cX9_mapOf 28 = .ok (.new 250, 3) := by decide +kernel
theorem dX9_mapOf_31 : decode cX9_mapOf 31 = .ok (.dup, 1) := by decide +kernel
theorem dX9_mapOf_32 : decode cX9_mapOf 32 = .ok (.ldc 252, 2) := by decide +kernel
theorem dX9_mapOf_34 : decode cX9_mapOf 34 = .ok (.invokespecial 254, 3) := by decide +kernel
theorem dX9_mapOf_37 : decode cX9_mapOf 37 = .ok (.athrow, 1) := by decide +kernel
theorem dX9_mapOf_38 : decode cX9_mapOf 38 = .ok (.aload_n 2, 1) := by decide +kernel
theorem dX9_mapOf_39 : decode cX9_mapOf 39 = .ok (.areturn, 1) := by decide +kernel
theorem dX9_needWhat_0 : decode cX9_needWhat 0 = .ok (.iload_n 0, 1) := by decide +kernel
theorem dX9_needWhat_1 : decode cX9_needWhat 1 = .ok (.ifCond .lt 8, 3) := by decide +kernel
theorem dX9_needWhat_4 : decode cX9_needWhat 4 = .ok (.iload_n 0, 1) := by decide +kernel
theorem dX9_needWhat_5 : decode cX9_needWhat 5 = .ok (.iload_n 1, 1) := by decide +kernel
theorem dX9_needWhat_6 : decode cX9_needWhat 6 = .ok (.if_icmp .le 13, 3) := by decide +kernel
theorem dX9_needWhat_9 : decode cX9_needWhat 9 = .ok (.new 49, 3) := by decide +kernel
theorem dX9_needWhat_12 : decode cX9_needWhat 12 = .ok (.dup, 1) := by decide +kernel
theorem dX9_needWhat_13 : decode cX9_needWhat 13 = .ok (.ldc 228, 2) := by decide +kernel
theorem dX9_needWhat_15 : decode cX9_needWhat 15 = .ok (.invokespecial 53, 3) := by decide +kernel
theorem dX9_needWhat_18 : decode cX9_needWhat 18 = .ok (.athrow, 1) := by decide +kernel
theorem dX9_needWhat_19 : decode cX9_needWhat 19 = .ok (.return_, 1) := by decide +kernel
theorem dX9_needSet_0 : decode cX9_needSet 0 = .ok (.iload_n 1, 1) := by decide +kernel
theorem dX9_needSet_1 : decode cX9_needSet 1 = .ok (.aload_n 0, 1) := by decide +kernel
theorem dX9_needSet_2 : decode cX9_needSet 2 = .ok (.getfield 100, 3) := by decide +kernel
theorem dX9_needSet_5 : decode cX9_needSet 5 = .ok (.iushr, 1) := by decide +kernel
theorem dX9_needSet_6 : decode cX9_needSet 6 = .ok (.ifCond .eq 13, 3) := by decide +kernel
theorem dX9_needSet_9 : decode cX9_needSet 9 = .ok (.new 49, 3) := by decide +kernel
theorem dX9_needSet_12 : decode cX9_needSet 12 = .ok (.dup, 1) := by decide +kernel
theorem dX9_needSet_13 : decode cX9_needSet 13 = .ok (.ldc 255, 2) := by decide +kernel
theorem dX9_needSet_15 : decode cX9_needSet 15 = .ok (.invokespecial 53, 3) := by decide +kernel
theorem dX9_needSet_18 : decode cX9_needSet 18 = .ok (.athrow, 1) := by decide +kernel
theorem dX9_needSet_19 : decode cX9_needSet 19 = .ok (.return_, 1) := by decide +kernel
theorem dX9_needAlphabet_0 : decode cX9_needAlphabet 0 = .ok (.iload_n 0, 1) := by decide +kernel
theorem dX9_needAlphabet_1 : decode cX9_needAlphabet 1 = .ok (.iconst 1, 1) := by decide +kernel
theorem dX9_needAlphabet_2 : decode cX9_needAlphabet 2 = .ok (.if_icmp .lt 9, 3) := by decide +kernel
theorem dX9_needAlphabet_5 : decode cX9_needAlphabet 5 = .ok (.iload_n 0, 1) := by decide +kernel
theorem dX9_needAlphabet_6 : decode cX9_needAlphabet 6 = .ok (.bipush 8, 2) := by decide +kernel
theorem dX9_needAlphabet_8 : decode cX9_needAlphabet 8 = .ok (.if_icmp .le 14, 3) := by decide +kernel
theorem dX9_needAlphabet_11 : decode cX9_needAlphabet 11 = .ok (.new 49, 3) := by decide +kernel
theorem dX9_needAlphabet_14 : decode cX9_needAlphabet 14 = .ok (.dup, 1) := by decide +kernel
theorem dX9_needAlphabet_15 : decode cX9_needAlphabet 15 = .ok (.ldc_w 257, 3) := by decide +kernel
theorem dX9_needAlphabet_18 : decode cX9_needAlphabet 18 = .ok (.invokespecial 53, 3) := by decide +kernel
theorem dX9_needAlphabet_21 : decode cX9_needAlphabet 21 = .ok (.athrow, 1) := by decide +kernel
theorem dX9_needAlphabet_22 : decode cX9_needAlphabet 22 = .ok (.return_, 1) := by decide +kernel
theorem dX9_needSearch_0 : decode cX9_needSearch 0 = .ok (.aload_n 0, 1) := by decide +kernel
theorem dX9_needSearch_1 : decode cX9_needSearch 1 = .ok (.iload_n 1, 1) := by decide +kernel
theorem dX9_needSearch_2 : decode cX9_needSearch 2 = .ok (.invokevirtual 120, 3) := by decide +kernel
theorem dX9_needSearch_5 : decode cX9_needSearch 5 = .ok (.iload_n 2, 1) := by decide +kernel
theorem dX9_needSearch_6 : decode cX9_needSearch 6 = .ok (.invokestatic 166, 3) := by decide +kernel
theorem dX9_needSearch_9 : decode cX9_needSearch 9 = .ok (.iload_n 3, 1) := by decide +kernel
theorem dX9_needSearch_10 : decode cX9_needSearch 10 = .ok (.ifCond .lt 9, 3) := by decide +kernel
theorem dX9_needSearch_13 : decode cX9_needSearch 13 = .ok (.iload_n 3, 1) := by decide +kernel
theorem dX9_needSearch_14 : decode cX9_needSearch 14 = .ok (.bipush 60, 2) := by decide +kernel
theorem dX9_needSearch_16 : decode cX9_needSearch 16 = .ok (.if_icmp .le 14, 3) := by decide +kernel
theorem dX9_needSearch_19 : decode cX9_needSearch 19 = .ok (.new 49, 3) := by decide +kernel
theorem dX9_needSearch_22 : decode cX9_needSearch 22 = .ok (.dup, 1) := by decide +kernel
theorem dX9_needSearch_23 : decode cX9_needSearch 23 = .ok (.ldc_w 259, 3) := by decide +kernel
theorem dX9_needSearch_26 : decode cX9_needSearch 26 = .ok (.invokespecial 53, 3) := by decide +kernel
theorem dX9_needSearch_29 : decode cX9_needSearch 29 = .ok (.athrow, 1) := by decide +kernel
theorem dX9_needSearch_30 : decode cX9_needSearch 30 = .ok (.return_, 1) := by decide +kernel
theorem dX9_lawOfRow_0 : decode cX9_lawOfRow 0 = .ok (.aload_n 0, 1) := by decide +kernel
theorem dX9_lawOfRow_1 : decode cX9_lawOfRow 1 = .ok (.iload_n 2, 1) := by decide +kernel
theorem dX9_lawOfRow_2 : decode cX9_lawOfRow 2 = .ok (.iload_n 3, 1) := by decide +kernel
theorem dX9_lawOfRow_3 : decode cX9_lawOfRow 3 = .ok (.invokevirtual 87, 3) := by decide +kernel
theorem dX9_lawOfRow_6 : decode cX9_lawOfRow 6 = .ok (.istore 4, 2) := by decide +kernel
theorem dX9_lawOfRow_8 : decode cX9_lawOfRow 8 = .ok (.iload 4, 2) := by decide +kernel
theorem dX9_lawOfRow_10 : decode cX9_lawOfRow 10 = .ok (.iconst 1, 1) := by decide +kernel
theorem dX9_lawOfRow_11 : decode cX9_lawOfRow 11 = .ok (.if_icmp .ge 5, 3) := by decide +kernel
theorem dX9_lawOfRow_14 : decode cX9_lawOfRow 14 = .ok (.aconst_null, 1) := by decide +kernel
theorem dX9_lawOfRow_15 : decode cX9_lawOfRow 15 = .ok (.areturn, 1) := by decide +kernel
theorem dX9_lawOfRow_16 : decode cX9_lawOfRow 16 = .ok (.iload_n 1, 1) := by decide +kernel
theorem dX9_lawOfRow_17 : decode cX9_lawOfRow 17 = .ok (.ifCond .ne 20, 3) := by decide +kernel
theorem dX9_lawOfRow_20 : decode cX9_lawOfRow 20 = .ok (.new 261, 3) := by decide +kernel
theorem dX9_lawOfRow_23 : decode cX9_lawOfRow 23 = .ok (.dup, 1) := by decide +kernel
theorem dX9_lawOfRow_24 : decode cX9_lawOfRow 24 = .ok (.aload_n 0, 1) := by decide +kernel
theorem dX9_lawOfRow_25 : decode cX9_lawOfRow 25 = .ok (.getfield 42, 3) := by decide +kernel
theorem dX9_lawOfRow_28 : decode cX9_lawOfRow 28 = .ok (.iload 4, 2) := by decide +kernel
theorem dX9_lawOfRow_30 : decode cX9_lawOfRow 30 = .ok (.invokestatic 263, 3) := by decide +kernel
theorem dX9_lawOfRow_33 : decode cX9_lawOfRow 33 = .ok (.invokespecial 269, 3) := by decide +kernel
theorem dX9_lawOfRow_36 : decode cX9_lawOfRow 36 = .ok (.areturn, 1) := by decide +kernel
theorem dX9_lawOfRow_37 : decode cX9_lawOfRow 37 = .ok (.iload 4, 2) := by decide +kernel
theorem dX9_lawOfRow_39 : decode cX9_lawOfRow 39 = .ok (.bipush 6, 2) := by decide +kernel
theorem dX9_lawOfRow_41 : decode cX9_lawOfRow 41 = .ok (.if_icmp .gt 16, 3) := by decide +kernel
theorem dX9_lawOfRow_44 : decode cX9_lawOfRow 44 = .ok (.aload_n 0, 1) := by decide +kernel
theorem dX9_lawOfRow_45 : decode cX9_lawOfRow 45 = .ok (.getfield 42, 3) := by decide +kernel
theorem dX9_lawOfRow_48 : decode cX9_lawOfRow 48 = .ok (.iload 4, 2) := by decide +kernel
theorem dX9_lawOfRow_50 : decode cX9_lawOfRow 50 = .ok (.iconst 3, 1) := by decide +kernel
theorem dX9_lawOfRow_51 : decode cX9_lawOfRow 51 = .ok (.invokestatic 169, 3) := by decide +kernel
theorem dX9_lawOfRow_54 : decode cX9_lawOfRow 54 = .ok (.ifCond .ne 7, 3) := by decide +kernel
theorem dX9_lawOfRow_57 : decode cX9_lawOfRow 57 = .ok (.aconst_null, 1) := by decide +kernel
theorem dX9_lawOfRow_58 : decode cX9_lawOfRow 58 = .ok (.goto 19, 3) := by decide +kernel
theorem dX9_lawOfRow_61 : decode cX9_lawOfRow 61 = .ok (.new 230, 3) := by decide +kernel
theorem dX9_lawOfRow_64 : decode cX9_lawOfRow 64 = .ok (.dup, 1) := by decide +kernel
theorem dX9_lawOfRow_65 : decode cX9_lawOfRow 65 = .ok (.aload_n 0, 1) := by decide +kernel
theorem dX9_lawOfRow_66 : decode cX9_lawOfRow 66 = .ok (.getfield 42, 3) := by decide +kernel
theorem dX9_lawOfRow_69 : decode cX9_lawOfRow 69 = .ok (.iload 4, 2) := by decide +kernel
theorem dX9_lawOfRow_71 : decode cX9_lawOfRow 71 = .ok (.invokestatic 263, 3) := by decide +kernel
theorem dX9_lawOfRow_74 : decode cX9_lawOfRow 74 = .ok (.invokespecial 272, 3) := by decide +kernel
theorem dX9_lawOfRow_77 : decode cX9_lawOfRow 77 = .ok (.areturn, 1) := by decide +kernel
theorem dX9_lawOfNumbers_0 : decode cX9_lawOfNumbers 0 = .ok (.iload_n 0, 1) := by decide +kernel
theorem dX9_lawOfNumbers_1 : decode cX9_lawOfNumbers 1 = .ok (.iload_n 1, 1) := by decide +kernel
theorem dX9_lawOfNumbers_2 : decode cX9_lawOfNumbers 2 = .ok (.iload_n 2, 1) := by decide +kernel
theorem dX9_lawOfNumbers_3 : decode cX9_lawOfNumbers 3 = .ok (.invokestatic 273, 3) := by decide +kernel
theorem dX9_lawOfNumbers_6 : decode cX9_lawOfNumbers 6 = .ok (.ifCond .ne 14, 3) := by decide +kernel
theorem dX9_lawOfNumbers_9 : decode cX9_lawOfNumbers 9 = .ok (.new 49, 3) := by decide +kernel
theorem dX9_lawOfNumbers_12 : decode cX9_lawOfNumbers 12 = .ok (.dup, 1) := by decide +kernel
theorem dX9_lawOfNumbers_13 : decode cX9_lawOfNumbers 13 = .ok (.ldc_w 277, 3) := by decide +kernel
theorem dX9_lawOfNumbers_16 : decode cX9_lawOfNumbers 16 = .ok (.invokespecial 53, 3) := by decide +kernel
theorem dX9_lawOfNumbers_19 : decode cX9_lawOfNumbers 19 = .ok (.athrow, 1) := by decide +kernel
theorem dX9_lawOfNumbers_20 : decode cX9_lawOfNumbers 20 = .ok (.iload_n 0, 1) := by decide +kernel
theorem dX9_lawOfNumbers_21 : decode cX9_lawOfNumbers 21 = .ok (.tableswitch 58 1 3 #[27, 38, 49], 27) := by decide +kernel
theorem dX9_lawOfNumbers_48 : decode cX9_lawOfNumbers 48 = .ok (.new 27, 3) := by decide +kernel
theorem dX9_lawOfNumbers_51 : decode cX9_lawOfNumbers 51 = .ok (.dup, 1) := by decide +kernel
theorem dX9_lawOfNumbers_52 : decode cX9_lawOfNumbers 52 = .ok (.iload_n 1, 1) := by decide +kernel
theorem dX9_lawOfNumbers_53 : decode cX9_lawOfNumbers 53 = .ok (.iload_n 2, 1) := by decide +kernel
theorem dX9_lawOfNumbers_54 : decode cX9_lawOfNumbers 54 = .ok (.iconst 0, 1) := by decide +kernel
theorem dX9_lawOfNumbers_55 : decode cX9_lawOfNumbers 55 = .ok (.invokespecial 29, 3) := by decide +kernel
theorem dX9_lawOfNumbers_58 : decode cX9_lawOfNumbers 58 = .ok (.areturn, 1) := by decide +kernel
theorem dX9_lawOfNumbers_59 : decode cX9_lawOfNumbers 59 = .ok (.new 27, 3) := by decide +kernel
theorem dX9_lawOfNumbers_62 : decode cX9_lawOfNumbers 62 = .ok (.dup, 1) := by decide +kernel
theorem dX9_lawOfNumbers_63 : decode cX9_lawOfNumbers 63 = .ok (.iload_n 1, 1) := by decide +kernel
theorem dX9_lawOfNumbers_64 : decode cX9_lawOfNumbers 64 = .ok (.iload_n 2, 1) := by decide +kernel
theorem dX9_lawOfNumbers_65 : decode cX9_lawOfNumbers 65 = .ok (.iconst 1, 1) := by decide +kernel
theorem dX9_lawOfNumbers_66 : decode cX9_lawOfNumbers 66 = .ok (.invokespecial 29, 3) := by decide +kernel
theorem dX9_lawOfNumbers_69 : decode cX9_lawOfNumbers 69 = .ok (.areturn, 1) := by decide +kernel
theorem dX9_lawOfNumbers_70 : decode cX9_lawOfNumbers 70 = .ok (.new 279, 3) := by decide +kernel
theorem dX9_lawOfNumbers_73 : decode cX9_lawOfNumbers 73 = .ok (.dup, 1) := by decide +kernel
theorem dX9_lawOfNumbers_74 : decode cX9_lawOfNumbers 74 = .ok (.iload_n 1, 1) := by decide +kernel
theorem dX9_lawOfNumbers_75 : decode cX9_lawOfNumbers 75 = .ok (.invokespecial 281, 3) := by decide +kernel
theorem dX9_lawOfNumbers_78 : decode cX9_lawOfNumbers 78 = .ok (.areturn, 1) := by decide +kernel
theorem dX9_lawOfNumbers_79 : decode cX9_lawOfNumbers 79 = .ok (.new 282, 3) := by decide +kernel
theorem dX9_lawOfNumbers_82 : decode cX9_lawOfNumbers 82 = .ok (.dup, 1) := by decide +kernel
theorem dX9_lawOfNumbers_83 : decode cX9_lawOfNumbers 83 = .ok (.invokespecial 284, 3) := by decide +kernel
theorem dX9_lawOfNumbers_86 : decode cX9_lawOfNumbers 86 = .ok (.areturn, 1) := by decide +kernel
theorem dX9_areNumbersFor_0 : decode cX9_areNumbersFor 0 = .ok (.iload_n 0, 1) := by decide +kernel
theorem dX9_areNumbersFor_1 : decode cX9_areNumbersFor 1 = .ok (.tableswitch 109 1 4 #[31, 53, 75, 95], 31) := by decide +kernel
theorem dX9_areNumbersFor_32 : decode cX9_areNumbersFor 32 = .ok (.iload_n 2, 1) := by decide +kernel
theorem dX9_areNumbersFor_33 : decode cX9_areNumbersFor 33 = .ok (.iconst 1, 1) := by decide +kernel
theorem dX9_areNumbersFor_34 : decode cX9_areNumbersFor 34 = .ok (.if_icmp .lt 18, 3) := by decide +kernel
theorem dX9_areNumbersFor_37 : decode cX9_areNumbersFor 37 = .ok (.iload_n 1, 1) := by decide +kernel
theorem dX9_areNumbersFor_38 : decode cX9_areNumbersFor 38 = .ok (.iload_n 2, 1) := by decide +kernel
theorem dX9_areNumbersFor_39 : decode cX9_areNumbersFor 39 = .ok (.if_icmp .le 13, 3) := by decide +kernel
theorem dX9_areNumbersFor_42 : decode cX9_areNumbersFor 42 = .ok (.iload_n 1, 1) := by decide +kernel
theorem dX9_areNumbersFor_43 : decode cX9_areNumbersFor 43 = .ok (.bipush 30, 2) := by decide +kernel
theorem dX9_areNumbersFor_45 : decode cX9_areNumbersFor 45 = .ok (.if_icmp .gt 7, 3) := by decide +kernel
theorem dX9_areNumbersFor_48 : decode cX9_areNumbersFor 48 = .ok (.iconst 1, 1) := by decide +kernel
theorem dX9_areNumbersFor_49 : decode cX9_areNumbersFor 49 = .ok (.goto 4, 3) := by decide +kernel
theorem dX9_areNumbersFor_52 : decode cX9_areNumbersFor 52 = .ok (.iconst 0, 1) := by decide +kernel
theorem dX9_areNumbersFor_53 : decode cX9_areNumbersFor 53 = .ok (.ireturn, 1) := by decide +kernel
theorem dX9_areNumbersFor_54 : decode cX9_areNumbersFor 54 = .ok (.iload_n 2, 1) := by decide +kernel
theorem dX9_areNumbersFor_55 : decode cX9_areNumbersFor 55 = .ok (.iconst 1, 1) := by decide +kernel
theorem dX9_areNumbersFor_56 : decode cX9_areNumbersFor 56 = .ok (.if_icmp .lt 18, 3) := by decide +kernel
theorem dX9_areNumbersFor_59 : decode cX9_areNumbersFor 59 = .ok (.iload_n 1, 1) := by decide +kernel
theorem dX9_areNumbersFor_60 : decode cX9_areNumbersFor 60 = .ok (.iload_n 2, 1) := by decide +kernel
theorem dX9_areNumbersFor_61 : decode cX9_areNumbersFor 61 = .ok (.if_icmp .lt 13, 3) := by decide +kernel
theorem dX9_areNumbersFor_64 : decode cX9_areNumbersFor 64 = .ok (.iload_n 1, 1) := by decide +kernel
theorem dX9_areNumbersFor_65 : decode cX9_areNumbersFor 65 = .ok (.bipush 30, 2) := by decide +kernel
theorem dX9_areNumbersFor_67 : decode cX9_areNumbersFor 67 = .ok (.if_icmp .gt 7, 3) := by decide +kernel
theorem dX9_areNumbersFor_70 : decode cX9_areNumbersFor 70 = .ok (.iconst 1, 1) := by decide +kernel
theorem dX9_areNumbersFor_71 : decode cX9_areNumbersFor 71 = .ok (.goto 4, 3) := by decide +kernel
theorem dX9_areNumbersFor_74 : decode cX9_areNumbersFor 74 = .ok (.iconst 0, 1) := by decide +kernel
theorem dX9_areNumbersFor_75 : decode cX9_areNumbersFor 75 = .ok (.ireturn, 1) := by decide +kernel
theorem dX9_areNumbersFor_76 : decode cX9_areNumbersFor 76 = .ok (.iload_n 1, 1) := by decide +kernel
theorem dX9_areNumbersFor_77 : decode cX9_areNumbersFor 77 = .ok (.ifCond .lt 17, 3) := by decide +kernel
theorem dX9_areNumbersFor_80 : decode cX9_areNumbersFor 80 = .ok (.iload_n 1, 1) := by decide +kernel
theorem dX9_areNumbersFor_81 : decode cX9_areNumbersFor 81 = .ok (.bipush 9, 2) := by decide +kernel
theorem dX9_areNumbersFor_83 : decode cX9_areNumbersFor 83 = .ok (.if_icmp .gt 11, 3) := by decide +kernel
theorem dX9_areNumbersFor_86 : decode cX9_areNumbersFor 86 = .ok (.iload_n 2, 1) := by decide +kernel
theorem dX9_areNumbersFor_87 : decode cX9_areNumbersFor 87 = .ok (.ifCond .ne 7, 3) := by decide +kernel
theorem dX9_areNumbersFor_90 : decode cX9_areNumbersFor 90 = .ok (.iconst 1, 1) := by decide +kernel
theorem dX9_areNumbersFor_91 : decode cX9_areNumbersFor 91 = .ok (.goto 4, 3) := by decide +kernel
theorem dX9_areNumbersFor_94 : decode cX9_areNumbersFor 94 = .ok (.iconst 0, 1) := by decide +kernel
theorem dX9_areNumbersFor_95 : decode cX9_areNumbersFor 95 = .ok (.ireturn, 1) := by decide +kernel
theorem dX9_areNumbersFor_96 : decode cX9_areNumbersFor 96 = .ok (.iload_n 1, 1) := by decide +kernel
theorem dX9_areNumbersFor_97 : decode cX9_areNumbersFor 97 = .ok (.ifCond .ne 11, 3) := by decide +kernel
theorem dX9_areNumbersFor_100 : decode cX9_areNumbersFor 100 = .ok (.iload_n 2, 1) := by decide +kernel
theorem dX9_areNumbersFor_101 : decode cX9_areNumbersFor 101 = .ok (.ifCond .ne 7, 3) := by decide +kernel
theorem dX9_areNumbersFor_104 : decode cX9_areNumbersFor 104 = .ok (.iconst 1, 1) := by decide +kernel
theorem dX9_areNumbersFor_105 : decode cX9_areNumbersFor 105 = .ok (.goto 4, 3) := by decide +kernel
theorem dX9_areNumbersFor_108 : decode cX9_areNumbersFor 108 = .ok (.iconst 0, 1) := by decide +kernel
theorem dX9_areNumbersFor_109 : decode cX9_areNumbersFor 109 = .ok (.ireturn, 1) := by decide +kernel
theorem dX9_areNumbersFor_110 : decode cX9_areNumbersFor 110 = .ok (.iconst 0, 1) := by decide +kernel
theorem dX9_areNumbersFor_111 : decode cX9_areNumbersFor 111 = .ok (.ireturn, 1) := by decide +kernel
theorem dX9_areBelow_0 : decode cX9_areBelow 0 = .ok (.iconst 0, 1) := by decide +kernel
theorem dX9_areBelow_1 : decode cX9_areBelow 1 = .ok (.istore_n 3, 1) := by decide +kernel
theorem dX9_areBelow_2 : decode cX9_areBelow 2 = .ok (.iload_n 3, 1) := by decide +kernel
theorem dX9_areBelow_3 : decode cX9_areBelow 3 = .ok (.iload_n 1, 1) := by decide +kernel
theorem dX9_areBelow_4 : decode cX9_areBelow 4 = .ok (.if_icmp .ge 24, 3) := by decide +kernel
theorem dX9_areBelow_7 : decode cX9_areBelow 7 = .ok (.iload_n 3, 1) := by decide +kernel
theorem dX9_areBelow_8 : decode cX9_areBelow 8 = .ok (.aload_n 0, 1) := by decide +kernel
theorem dX9_areBelow_9 : decode cX9_areBelow 9 = .ok (.arraylength, 1) := by decide +kernel
theorem dX9_areBelow_10 : decode cX9_areBelow 10 = .ok (.if_icmp .ge 18, 3) := by decide +kernel
theorem dX9_areBelow_13 : decode cX9_areBelow 13 = .ok (.aload_n 0, 1) := by decide +kernel
theorem dX9_areBelow_14 : decode cX9_areBelow 14 = .ok (.iload_n 3, 1) := by decide +kernel
theorem dX9_areBelow_15 : decode cX9_areBelow 15 = .ok (.iaload, 1) := by decide +kernel
theorem dX9_areBelow_16 : decode cX9_areBelow 16 = .ok (.iload_n 2, 1) := by decide +kernel
theorem dX9_areBelow_17 : decode cX9_areBelow 17 = .ok (.if_icmp .lt 5, 3) := by decide +kernel
theorem dX9_areBelow_20 : decode cX9_areBelow 20 = .ok (.iconst 0, 1) := by decide +kernel
theorem dX9_areBelow_21 : decode cX9_areBelow 21 = .ok (.ireturn, 1) := by decide +kernel
theorem dX9_areBelow_22 : decode cX9_areBelow 22 = .ok (.iinc 3 1, 3) := by decide +kernel
theorem dX9_areBelow_25 : decode cX9_areBelow 25 = .ok (.goto (-23), 3) := by decide +kernel
theorem dX9_areBelow_28 : decode cX9_areBelow 28 = .ok (.iconst 1, 1) := by decide +kernel
theorem dX9_areBelow_29 : decode cX9_areBelow 29 = .ok (.ireturn, 1) := by decide +kernel
theorem dX9_areAlike_0 : decode cX9_areAlike 0 = .ok (.iconst 0, 1) := by decide +kernel
theorem dX9_areAlike_1 : decode cX9_areAlike 1 = .ok (.istore_n 3, 1) := by decide +kernel
theorem dX9_areAlike_2 : decode cX9_areAlike 2 = .ok (.iload_n 3, 1) := by decide +kernel
theorem dX9_areAlike_3 : decode cX9_areAlike 3 = .ok (.iload_n 2, 1) := by decide +kernel
theorem dX9_areAlike_4 : decode cX9_areAlike 4 = .ok (.if_icmp .ge 32, 3) := by decide +kernel
theorem dX9_areAlike_7 : decode cX9_areAlike 7 = .ok (.iload_n 3, 1) := by decide +kernel
theorem dX9_areAlike_8 : decode cX9_areAlike 8 = .ok (.aload_n 0, 1) := by decide +kernel
theorem dX9_areAlike_9 : decode cX9_areAlike 9 = .ok (.arraylength, 1) := by decide +kernel
theorem dX9_areAlike_10 : decode cX9_areAlike 10 = .ok (.if_icmp .ge 26, 3) := by decide +kernel
theorem dX9_areAlike_13 : decode cX9_areAlike 13 = .ok (.iload_n 3, 1) := by decide +kernel
theorem dX9_areAlike_14 : decode cX9_areAlike 14 = .ok (.aload_n 1, 1) := by decide +kernel
theorem dX9_areAlike_15 : decode cX9_areAlike 15 = .ok (.arraylength, 1) := by decide +kernel
theorem dX9_areAlike_16 : decode cX9_areAlike 16 = .ok (.if_icmp .ge 20, 3) := by decide +kernel
theorem dX9_areAlike_19 : decode cX9_areAlike 19 = .ok (.aload_n 0, 1) := by decide +kernel
theorem dX9_areAlike_20 : decode cX9_areAlike 20 = .ok (.iload_n 3, 1) := by decide +kernel
theorem dX9_areAlike_21 : decode cX9_areAlike 21 = .ok (.iaload, 1) := by decide +kernel
theorem dX9_areAlike_22 : decode cX9_areAlike 22 = .ok (.aload_n 1, 1) := by decide +kernel
theorem dX9_areAlike_23 : decode cX9_areAlike 23 = .ok (.iload_n 3, 1) := by decide +kernel
theorem dX9_areAlike_24 : decode cX9_areAlike 24 = .ok (.iaload, 1) := by decide +kernel
theorem dX9_areAlike_25 : decode cX9_areAlike 25 = .ok (.if_icmp .eq 5, 3) := by decide +kernel
theorem dX9_areAlike_28 : decode cX9_areAlike 28 = .ok (.iconst 0, 1) := by decide +kernel
theorem dX9_areAlike_29 : decode cX9_areAlike 29 = .ok (.ireturn, 1) := by decide +kernel
theorem dX9_areAlike_30 : decode cX9_areAlike 30 = .ok (.iinc 3 1, 3) := by decide +kernel
theorem dX9_areAlike_33 : decode cX9_areAlike 33 = .ok (.goto (-31), 3) := by decide +kernel
theorem dX9_areAlike_36 : decode cX9_areAlike 36 = .ok (.iconst 1, 1) := by decide +kernel
theorem dX9_areAlike_37 : decode cX9_areAlike 37 = .ok (.ireturn, 1) := by decide +kernel
theorem dX9_periodEnd_0 : decode cX9_periodEnd 0 = .ok (.iload_n 1, 1) := by decide +kernel
theorem dX9_periodEnd_1 : decode cX9_periodEnd 1 = .ok (.iload_n 3, 1) := by decide +kernel
theorem dX9_periodEnd_2 : decode cX9_periodEnd 2 = .ok (.iadd, 1) := by decide +kernel
theorem dX9_periodEnd_3 : decode cX9_periodEnd 3 = .ok (.istore 4, 2) := by decide +kernel
theorem dX9_periodEnd_5 : decode cX9_periodEnd 5 = .ok (.iload 4, 2) := by decide +kernel
theorem dX9_periodEnd_7 : decode cX9_periodEnd 7 = .ok (.iload_n 2, 1) := by decide +kernel
theorem dX9_periodEnd_8 : decode cX9_periodEnd 8 = .ok (.if_icmp .ge 32, 3) := by decide +kernel
theorem dX9_periodEnd_11 : decode cX9_periodEnd 11 = .ok (.iload 4, 2) := by decide +kernel
theorem dX9_periodEnd_13 : decode cX9_periodEnd 13 = .ok (.aload_n 0, 1) := by decide +kernel
theorem dX9_periodEnd_14 : decode cX9_periodEnd 14 = .ok (.arraylength, 1) := by decide +kernel
theorem dX9_periodEnd_15 : decode cX9_periodEnd 15 = .ok (.if_icmp .ge 25, 3) := by decide +kernel
theorem dX9_periodEnd_18 : decode cX9_periodEnd 18 = .ok (.aload_n 0, 1) := by decide +kernel
theorem dX9_periodEnd_19 : decode cX9_periodEnd 19 = .ok (.iload 4, 2) := by decide +kernel
theorem dX9_periodEnd_21 : decode cX9_periodEnd 21 = .ok (.iaload, 1) := by decide +kernel
theorem dX9_periodEnd_22 : decode cX9_periodEnd 22 = .ok (.aload_n 0, 1) := by decide +kernel
theorem dX9_periodEnd_23 : decode cX9_periodEnd 23 = .ok (.iload 4, 2) := by decide +kernel
theorem dX9_periodEnd_25 : decode cX9_periodEnd 25 = .ok (.iload_n 3, 1) := by decide +kernel
theorem dX9_periodEnd_26 : decode cX9_periodEnd 26 = .ok (.isub, 1) := by decide +kernel
theorem dX9_periodEnd_27 : decode cX9_periodEnd 27 = .ok (.iaload, 1) := by decide +kernel
theorem dX9_periodEnd_28 : decode cX9_periodEnd 28 = .ok (.if_icmp .eq 6, 3) := by decide +kernel
theorem dX9_periodEnd_31 : decode cX9_periodEnd 31 = .ok (.iload 4, 2) := by decide +kernel
theorem dX9_periodEnd_33 : decode cX9_periodEnd 33 = .ok (.ireturn, 1) := by decide +kernel
theorem dX9_periodEnd_34 : decode cX9_periodEnd 34 = .ok (.iinc 4 1, 3) := by decide +kernel
theorem dX9_periodEnd_37 : decode cX9_periodEnd 37 = .ok (.goto (-32), 3) := by decide +kernel
theorem dX9_periodEnd_40 : decode cX9_periodEnd 40 = .ok (.iload_n 2, 1) := by decide +kernel
theorem dX9_periodEnd_41 : decode cX9_periodEnd 41 = .ok (.ireturn, 1) := by decide +kernel
theorem dX9_leastPeriod_0 : decode cX9_leastPeriod 0 = .ok (.iconst 1, 1) := by decide +kernel
theorem dX9_leastPeriod_1 : decode cX9_leastPeriod 1 = .ok (.istore_n 3, 1) := by decide +kernel
theorem dX9_leastPeriod_2 : decode cX9_leastPeriod 2 = .ok (.iload_n 3, 1) := by decide +kernel
theorem dX9_leastPeriod_3 : decode cX9_leastPeriod 3 = .ok (.iload_n 2, 1) := by decide +kernel
theorem dX9_leastPeriod_4 : decode cX9_leastPeriod 4 = .ok (.iload_n 1, 1) := by decide +kernel
theorem dX9_leastPeriod_5 : decode cX9_leastPeriod 5 = .ok (.isub, 1) := by decide +kernel
theorem dX9_leastPeriod_6 : decode cX9_leastPeriod 6 = .ok (.if_icmp .ge 22, 3) := by decide +kernel
theorem dX9_leastPeriod_9 : decode cX9_leastPeriod 9 = .ok (.aload_n 0, 1) := by decide +kernel
theorem dX9_leastPeriod_10 : decode cX9_leastPeriod 10 = .ok (.iload_n 1, 1) := by decide +kernel
theorem dX9_leastPeriod_11 : decode cX9_leastPeriod 11 = .ok (.iload_n 2, 1) := by decide +kernel
theorem dX9_leastPeriod_12 : decode cX9_leastPeriod 12 = .ok (.iload_n 3, 1) := by decide +kernel
theorem dX9_leastPeriod_13 : decode cX9_leastPeriod 13 = .ok (.invokestatic 285, 3) := by decide +kernel
theorem dX9_leastPeriod_16 : decode cX9_leastPeriod 16 = .ok (.iload_n 2, 1) := by decide +kernel
theorem dX9_leastPeriod_17 : decode cX9_leastPeriod 17 = .ok (.if_icmp .ne 5, 3) := by decide +kernel
theorem dX9_leastPeriod_20 : decode cX9_leastPeriod 20 = .ok (.iload_n 3, 1) := by decide +kernel
theorem dX9_leastPeriod_21 : decode cX9_leastPeriod 21 = .ok (.ireturn, 1) := by decide +kernel
theorem dX9_leastPeriod_22 : decode cX9_leastPeriod 22 = .ok (.iinc 3 1, 3) := by decide +kernel
theorem dX9_leastPeriod_25 : decode cX9_leastPeriod 25 = .ok (.goto (-23), 3) := by decide +kernel
theorem dX9_leastPeriod_28 : decode cX9_leastPeriod 28 = .ok (.iload_n 2, 1) := by decide +kernel
theorem dX9_leastPeriod_29 : decode cX9_leastPeriod 29 = .ok (.iload_n 1, 1) := by decide +kernel
theorem dX9_leastPeriod_30 : decode cX9_leastPeriod 30 = .ok (.isub, 1) := by decide +kernel
theorem dX9_leastPeriod_31 : decode cX9_leastPeriod 31 = .ok (.ireturn, 1) := by decide +kernel
theorem dX9_lowestTerm_0 : decode cX9_lowestTerm 0 = .ok (.iload_n 0, 1) := by decide +kernel
theorem dX9_lowestTerm_1 : decode cX9_lowestTerm 1 = .ok (.istore_n 2, 1) := by decide +kernel
theorem dX9_lowestTerm_2 : decode cX9_lowestTerm 2 = .ok (.iload_n 2, 1) := by decide +kernel
theorem dX9_lowestTerm_3 : decode cX9_lowestTerm 3 = .ok (.iconst 1, 1) := by decide +kernel
theorem dX9_lowestTerm_4 : decode cX9_lowestTerm 4 = .ok (.if_icmp .le 25, 3) := by decide +kernel
theorem dX9_lowestTerm_7 : decode cX9_lowestTerm 7 = .ok (.iload_n 0, 1) := by decide +kernel
theorem dX9_lowestTerm_8 : decode cX9_lowestTerm 8 = .ok (.iload_n 2, 1) := by decide +kernel
theorem dX9_lowestTerm_9 : decode cX9_lowestTerm 9 = .ok (.irem, 1) := by decide +kernel
theorem dX9_lowestTerm_10 : decode cX9_lowestTerm 10 = .ok (.ifCond .ne 13, 3) := by decide +kernel
theorem dX9_lowestTerm_13 : decode cX9_lowestTerm 13 = .ok (.iload_n 1, 1) := by decide +kernel
theorem dX9_lowestTerm_14 : decode cX9_lowestTerm 14 = .ok (.iload_n 2, 1) := by decide +kernel
theorem dX9_lowestTerm_15 : decode cX9_lowestTerm 15 = .ok (.irem, 1) := by decide +kernel
theorem dX9_lowestTerm_16 : decode cX9_lowestTerm 16 = .ok (.ifCond .ne 7, 3) := by decide +kernel
theorem dX9_lowestTerm_19 : decode cX9_lowestTerm 19 = .ok (.iload_n 0, 1) := by decide +kernel
theorem dX9_lowestTerm_20 : decode cX9_lowestTerm 20 = .ok (.iload_n 2, 1) := by decide +kernel
theorem dX9_lowestTerm_21 : decode cX9_lowestTerm 21 = .ok (.idiv, 1) := by decide +kernel
theorem dX9_lowestTerm_22 : decode cX9_lowestTerm 22 = .ok (.ireturn, 1) := by decide +kernel
theorem dX9_lowestTerm_23 : decode cX9_lowestTerm 23 = .ok (.iinc 2 (-1), 3) := by decide +kernel
theorem dX9_lowestTerm_26 : decode cX9_lowestTerm 26 = .ok (.goto (-24), 3) := by decide +kernel
theorem dX9_lowestTerm_29 : decode cX9_lowestTerm 29 = .ok (.iload_n 0, 1) := by decide +kernel
theorem dX9_lowestTerm_30 : decode cX9_lowestTerm 30 = .ok (.ireturn, 1) := by decide +kernel
theorem dX9_seekRun_0 : decode cX9_seekRun 0 = .ok (.iconst 0, 1) := by decide +kernel
theorem dX9_seekRun_1 : decode cX9_seekRun 1 = .ok (.istore 4, 2) := by decide +kernel
theorem dX9_seekRun_3 : decode cX9_seekRun 3 = .ok (.iconst 0, 1) := by decide +kernel
theorem dX9_seekRun_4 : decode cX9_seekRun 4 = .ok (.istore 5, 2) := by decide +kernel
theorem dX9_seekRun_6 : decode cX9_seekRun 6 = .ok (.iload 5, 2) := by decide +kernel
theorem dX9_seekRun_8 : decode cX9_seekRun 8 = .ok (.iload_n 1, 1) := by decide +kernel
theorem dX9_seekRun_9 : decode cX9_seekRun 9 = .ok (.if_icmp .ge 80, 3) := by decide +kernel
theorem dX9_seekRun_12 : decode cX9_seekRun 12 = .ok (.iconst 1, 1) := by decide +kernel
theorem dX9_seekRun_13 : decode cX9_seekRun 13 = .ok (.istore 6, 2) := by decide +kernel
theorem dX9_seekRun_15 : decode cX9_seekRun 15 = .ok (.iload 5, 2) := by decide +kernel
theorem dX9_seekRun_17 : decode cX9_seekRun 17 = .ok (.iconst 2, 1) := by decide +kernel
theorem dX9_seekRun_18 : decode cX9_seekRun 18 = .ok (.iload 6, 2) := by decide +kernel
theorem dX9_seekRun_20 : decode cX9_seekRun 20 = .ok (.imul, 1) := by decide +kernel
theorem dX9_seekRun_21 : decode cX9_seekRun 21 = .ok (.iadd, 1) := by decide +kernel
theorem dX9_seekRun_22 : decode cX9_seekRun 22 = .ok (.iload_n 1, 1) := by decide +kernel
theorem dX9_seekRun_23 : decode cX9_seekRun 23 = .ok (.if_icmp .gt 60, 3) := by decide +kernel
theorem dX9_seekRun_26 : decode cX9_seekRun 26 = .ok (.aload_n 0, 1) := by decide +kernel
theorem dX9_seekRun_27 : decode cX9_seekRun 27 = .ok (.iload 5, 2) := by decide +kernel
theorem dX9_seekRun_29 : decode cX9_seekRun 29 = .ok (.iload_n 1, 1) := by decide +kernel
theorem dX9_seekRun_30 : decode cX9_seekRun 30 = .ok (.iload 6, 2) := by decide +kernel
theorem dX9_seekRun_32 : decode cX9_seekRun 32 = .ok (.invokevirtual 289, 3) := by decide +kernel
theorem dX9_seekRun_35 : decode cX9_seekRun 35 = .ok (.istore 7, 2) := by decide +kernel
theorem dX9_seekRun_37 : decode cX9_seekRun 37 = .ok (.iload 7, 2) := by decide +kernel
theorem dX9_seekRun_39 : decode cX9_seekRun 39 = .ok (.iconst (-1), 1) := by decide +kernel
theorem dX9_seekRun_40 : decode cX9_seekRun 40 = .ok (.if_icmp .ne 6, 3) := by decide +kernel
theorem dX9_seekRun_43 : decode cX9_seekRun 43 = .ok (.goto 34, 3) := by decide +kernel
theorem dX9_seekRun_46 : decode cX9_seekRun 46 = .ok (.iload 4, 2) := by decide +kernel
theorem dX9_seekRun_48 : decode cX9_seekRun 48 = .ok (.iload_n 2, 1) := by decide +kernel
theorem dX9_seekRun_49 : decode cX9_seekRun 49 = .ok (.if_icmp .ne 25, 3) := by decide +kernel
theorem dX9_seekRun_52 : decode cX9_seekRun 52 = .ok (.iload_n 3, 1) := by decide +kernel
theorem dX9_seekRun_53 : decode cX9_seekRun 53 = .ok (.ifCond .ne 8, 3) := by decide +kernel
theorem dX9_seekRun_56 : decode cX9_seekRun 56 = .ok (.iload 5, 2) := by decide +kernel
theorem dX9_seekRun_58 : decode cX9_seekRun 58 = .ok (.goto 15, 3) := by decide +kernel
theorem dX9_seekRun_61 : decode cX9_seekRun 61 = .ok (.iload_n 3, 1) := by decide +kernel
theorem dX9_seekRun_62 : decode cX9_seekRun 62 = .ok (.iconst 1, 1) := by decide +kernel
theorem dX9_seekRun_63 : decode cX9_seekRun 63 = .ok (.if_icmp .ne 8, 3) := by decide +kernel
theorem dX9_seekRun_66 : decode cX9_seekRun 66 = .ok (.iload 7, 2) := by decide +kernel
theorem dX9_seekRun_68 : decode cX9_seekRun 68 = .ok (.goto 5, 3) := by decide +kernel
theorem dX9_seekRun_71 : decode cX9_seekRun 71 = .ok (.iload 6, 2) := by decide +kernel
theorem dX9_seekRun_73 : decode cX9_seekRun 73 = .ok (.ireturn, 1) := by decide +kernel
theorem dX9_seekRun_74 : decode cX9_seekRun 74 = .ok (.iinc 4 1, 3) := by decide +kernel
theorem dX9_seekRun_77 : decode cX9_seekRun 77 = .ok (.iinc 6 1, 3) := by decide +kernel
theorem dX9_seekRun_80 : decode cX9_seekRun 80 = .ok (.goto (-65), 3) := by decide +kernel
theorem dX9_seekRun_83 : decode cX9_seekRun 83 = .ok (.iinc 5 1, 3) := by decide +kernel
theorem dX9_seekRun_86 : decode cX9_seekRun 86 = .ok (.goto (-80), 3) := by decide +kernel
theorem dX9_seekRun_89 : decode cX9_seekRun 89 = .ok (.iload_n 2, 1) := by decide +kernel
theorem dX9_seekRun_90 : decode cX9_seekRun 90 = .ok (.iconst (-1), 1) := by decide +kernel
theorem dX9_seekRun_91 : decode cX9_seekRun 91 = .ok (.if_icmp .ne 8, 3) := by decide +kernel
theorem dX9_seekRun_94 : decode cX9_seekRun 94 = .ok (.iload 4, 2) := by decide +kernel
theorem dX9_seekRun_96 : decode cX9_seekRun 96 = .ok (.goto 4, 3) := by decide +kernel
theorem dX9_seekRun_99 : decode cX9_seekRun 99 = .ok (.iconst (-1), 1) := by decide +kernel
theorem dX9_seekRun_100 : decode cX9_seekRun 100 = .ok (.ireturn, 1) := by decide +kernel
theorem dX9_runEnd_0 : decode cX9_runEnd 0 = .ok (.iload_n 1, 1) := by decide +kernel
theorem dX9_runEnd_1 : decode cX9_runEnd 1 = .ok (.ifCond .le 26, 3) := by decide +kernel
theorem dX9_runEnd_4 : decode cX9_runEnd 4 = .ok (.aload_n 0, 1) := by decide +kernel
theorem dX9_runEnd_5 : decode cX9_runEnd 5 = .ok (.getfield 42, 3) := by decide +kernel
theorem dX9_runEnd_8 : decode cX9_runEnd 8 = .ok (.iload_n 1, 1) := by decide +kernel
theorem dX9_runEnd_9 : decode cX9_runEnd 9 = .ok (.iconst 1, 1) := by decide +kernel
theorem dX9_runEnd_10 : decode cX9_runEnd 10 = .ok (.isub, 1) := by decide +kernel
theorem dX9_runEnd_11 : decode cX9_runEnd 11 = .ok (.iaload, 1) := by decide +kernel
theorem dX9_runEnd_12 : decode cX9_runEnd 12 = .ok (.aload_n 0, 1) := by decide +kernel
theorem dX9_runEnd_13 : decode cX9_runEnd 13 = .ok (.getfield 42, 3) := by decide +kernel
theorem dX9_runEnd_16 : decode cX9_runEnd 16 = .ok (.iload_n 1, 1) := by decide +kernel
theorem dX9_runEnd_17 : decode cX9_runEnd 17 = .ok (.iconst 1, 1) := by decide +kernel
theorem dX9_runEnd_18 : decode cX9_runEnd 18 = .ok (.isub, 1) := by decide +kernel
theorem dX9_runEnd_19 : decode cX9_runEnd 19 = .ok (.iload_n 3, 1) := by decide +kernel
theorem dX9_runEnd_20 : decode cX9_runEnd 20 = .ok (.iadd, 1) := by decide +kernel
theorem dX9_runEnd_21 : decode cX9_runEnd 21 = .ok (.iaload, 1) := by decide +kernel
theorem dX9_runEnd_22 : decode cX9_runEnd 22 = .ok (.if_icmp .ne 5, 3) := by decide +kernel
theorem dX9_runEnd_25 : decode cX9_runEnd 25 = .ok (.iconst (-1), 1) := by decide +kernel
theorem dX9_runEnd_26 : decode cX9_runEnd 26 = .ok (.ireturn, 1) := by decide +kernel
theorem dX9_runEnd_27 : decode cX9_runEnd 27 = .ok (.aload_n 0, 1) := by decide +kernel
theorem dX9_runEnd_28 : decode cX9_runEnd 28 = .ok (.getfield 42, 3) := by decide +kernel
theorem dX9_runEnd_31 : decode cX9_runEnd 31 = .ok (.iload_n 1, 1) := by decide +kernel
theorem dX9_runEnd_32 : decode cX9_runEnd 32 = .ok (.iload_n 2, 1) := by decide +kernel
theorem dX9_runEnd_33 : decode cX9_runEnd 33 = .ok (.iload_n 3, 1) := by decide +kernel
theorem dX9_runEnd_34 : decode cX9_runEnd 34 = .ok (.invokestatic 285, 3) := by decide +kernel
theorem dX9_runEnd_37 : decode cX9_runEnd 37 = .ok (.istore 4, 2) := by decide +kernel
theorem dX9_runEnd_39 : decode cX9_runEnd 39 = .ok (.iload 4, 2) := by decide +kernel
theorem dX9_runEnd_41 : decode cX9_runEnd 41 = .ok (.iload_n 1, 1) := by decide +kernel
theorem dX9_runEnd_42 : decode cX9_runEnd 42 = .ok (.isub, 1) := by decide +kernel
theorem dX9_runEnd_43 : decode cX9_runEnd 43 = .ok (.iconst 2, 1) := by decide +kernel
theorem dX9_runEnd_44 : decode cX9_runEnd 44 = .ok (.iload_n 3, 1) := by decide +kernel
theorem dX9_runEnd_45 : decode cX9_runEnd 45 = .ok (.imul, 1) := by decide +kernel
theorem dX9_runEnd_46 : decode cX9_runEnd 46 = .ok (.if_icmp .lt 22, 3) := by decide +kernel
theorem dX9_runEnd_49 : decode cX9_runEnd 49 = .ok (.aload_n 0, 1) := by decide +kernel
theorem dX9_runEnd_50 : decode cX9_runEnd 50 = .ok (.getfield 42, 3) := by decide +kernel
theorem dX9_runEnd_53 : decode cX9_runEnd 53 = .ok (.iload_n 1, 1) := by decide +kernel
theorem dX9_runEnd_54 : decode cX9_runEnd 54 = .ok (.iload 4, 2) := by decide +kernel
theorem dX9_runEnd_56 : decode cX9_runEnd 56 = .ok (.invokestatic 113, 3) := by decide +kernel
theorem dX9_runEnd_59 : decode cX9_runEnd 59 = .ok (.iload_n 3, 1) := by decide +kernel
theorem dX9_runEnd_60 : decode cX9_runEnd 60 = .ok (.if_icmp .ne 8, 3) := by decide +kernel
theorem dX9_runEnd_63 : decode cX9_runEnd 63 = .ok (.iload 4, 2) := by decide +kernel
theorem dX9_runEnd_65 : decode cX9_runEnd 65 = .ok (.goto 4, 3) := by decide +kernel
theorem dX9_runEnd_68 : decode cX9_runEnd 68 = .ok (.iconst (-1), 1) := by decide +kernel
theorem dX9_runEnd_69 : decode cX9_runEnd 69 = .ok (.ireturn, 1) := by decide +kernel
theorem dX9_clashLetters_0 : decode cX9_clashLetters 0 = .ok (.iconst 1, 1) := by decide +kernel
theorem dX9_clashLetters_1 : decode cX9_clashLetters 1 = .ok (.istore_n 3, 1) := by decide +kernel
theorem dX9_clashLetters_2 : decode cX9_clashLetters 2 = .ok (.iload_n 3, 1) := by decide +kernel
theorem dX9_clashLetters_3 : decode cX9_clashLetters 3 = .ok (.iload_n 2, 1) := by decide +kernel
theorem dX9_clashLetters_4 : decode cX9_clashLetters 4 = .ok (.if_icmp .gt 28, 3) := by decide +kernel
theorem dX9_clashLetters_7 : decode cX9_clashLetters 7 = .ok (.aload_n 0, 1) := by decide +kernel
theorem dX9_clashLetters_8 : decode cX9_clashLetters 8 = .ok (.getfield 17, 3) := by decide +kernel
theorem dX9_clashLetters_11 : decode cX9_clashLetters 11 = .ok (.iload_n 1, 1) := by decide +kernel
theorem dX9_clashLetters_12 : decode cX9_clashLetters 12 = .ok (.aload_n 0, 1) := by decide +kernel
theorem dX9_clashLetters_13 : decode cX9_clashLetters 13 = .ok (.getfield 42, 3) := by decide +kernel
theorem dX9_clashLetters_16 : decode cX9_clashLetters 16 = .ok (.iload_n 3, 1) := by decide +kernel
theorem dX9_clashLetters_17 : decode cX9_clashLetters 17 = .ok (.invokestatic 126, 3) := by decide +kernel
theorem dX9_clashLetters_20 : decode cX9_clashLetters 20 = .ok (.iconst (-1), 1) := by decide +kernel
theorem dX9_clashLetters_21 : decode cX9_clashLetters 21 = .ok (.if_icmp .eq 5, 3) := by decide +kernel
theorem dX9_clashLetters_24 : decode cX9_clashLetters 24 = .ok (.iload_n 3, 1) := by decide +kernel
theorem dX9_clashLetters_25 : decode cX9_clashLetters 25 = .ok (.ireturn, 1) := by decide +kernel
theorem dX9_clashLetters_26 : decode cX9_clashLetters 26 = .ok (.iinc 3 1, 3) := by decide +kernel
theorem dX9_clashLetters_29 : decode cX9_clashLetters 29 = .ok (.goto (-27), 3) := by decide +kernel
theorem dX9_clashLetters_32 : decode cX9_clashLetters 32 = .ok (.iconst (-1), 1) := by decide +kernel
theorem dX9_clashLetters_33 : decode cX9_clashLetters 33 = .ok (.ireturn, 1) := by decide +kernel
theorem dX9_barringLaw_0 : decode cX9_barringLaw 0 = .ok (.iload_n 3, 1) := by decide +kernel
theorem dX9_barringLaw_1 : decode cX9_barringLaw 1 = .ok (.iconst 1, 1) := by decide +kernel
theorem dX9_barringLaw_2 : decode cX9_barringLaw 2 = .ok (.if_icmp .lt 9, 3) := by decide +kernel
theorem dX9_barringLaw_5 : decode cX9_barringLaw 5 = .ok (.iload_n 3, 1) := by decide +kernel
theorem dX9_barringLaw_6 : decode cX9_barringLaw 6 = .ok (.aload_n 2, 1) := by decide +kernel
theorem dX9_barringLaw_7 : decode cX9_barringLaw 7 = .ok (.arraylength, 1) := by decide +kernel
theorem dX9_barringLaw_8 : decode cX9_barringLaw 8 = .ok (.if_icmp .le 5, 3) := by decide +kernel
theorem dX9_barringLaw_11 : decode cX9_barringLaw 11 = .ok (.iconst (-1), 1) := by decide +kernel
theorem dX9_barringLaw_12 : decode cX9_barringLaw 12 = .ok (.ireturn, 1) := by decide +kernel
theorem dX9_barringLaw_13 : decode cX9_barringLaw 13 = .ok (.iconst 0, 1) := by decide +kernel
theorem dX9_barringLaw_14 : decode cX9_barringLaw 14 = .ok (.istore 4, 2) := by decide +kernel
theorem dX9_barringLaw_16 : decode cX9_barringLaw 16 = .ok (.iload 4, 2) := by decide +kernel
theorem dX9_barringLaw_18 : decode cX9_barringLaw 18 = .ok (.aload_n 0, 1) := by decide +kernel
theorem dX9_barringLaw_19 : decode cX9_barringLaw 19 = .ok (.arraylength, 1) := by decide +kernel
theorem dX9_barringLaw_20 : decode cX9_barringLaw 20 = .ok (.if_icmp .ge 47, 3) := by decide +kernel
theorem dX9_barringLaw_23 : decode cX9_barringLaw 23 = .ok (.iload_n 1, 1) := by decide +kernel
theorem dX9_barringLaw_24 : decode cX9_barringLaw 24 = .ok (.iload 4, 2) := by decide +kernel
theorem dX9_barringLaw_26 : decode cX9_barringLaw 26 = .ok (.ishr, 1) := by decide +kernel
theorem dX9_barringLaw_27 : decode cX9_barringLaw 27 = .ok (.ifCond .eq 40, 3) := by decide +kernel
theorem dX9_barringLaw_30 : decode cX9_barringLaw 30 = .ok (.iload_n 1, 1) := by decide +kernel
theorem dX9_barringLaw_31 : decode cX9_barringLaw 31 = .ok (.iload 4, 2) := by decide +kernel
theorem dX9_barringLaw_33 : decode cX9_barringLaw 33 = .ok (.ishr, 1) := by decide +kernel
theorem dX9_barringLaw_34 : decode cX9_barringLaw 34 = .ok (.iconst 1, 1) := by decide +kernel
theorem dX9_barringLaw_35 : decode cX9_barringLaw 35 = .ok (.iand, 1) := by decide +kernel
theorem dX9_barringLaw_36 : decode cX9_barringLaw 36 = .ok (.ifCond .eq 25, 3) := by decide +kernel
theorem dX9_barringLaw_39 : decode cX9_barringLaw 39 = .ok (.aload_n 0, 1) := by decide +kernel
theorem dX9_barringLaw_40 : decode cX9_barringLaw 40 = .ok (.iload 4, 2) := by decide +kernel
theorem dX9_barringLaw_42 : decode cX9_barringLaw 42 = .ok (.aaload, 1) := by decide +kernel
theorem dX9_barringLaw_43 : decode cX9_barringLaw 43 = .ok (.ifnull 18, 3) := by decide +kernel
theorem dX9_barringLaw_46 : decode cX9_barringLaw 46 = .ok (.aload_n 0, 1) := by decide +kernel
theorem dX9_barringLaw_47 : decode cX9_barringLaw 47 = .ok (.iload 4, 2) := by decide +kernel
theorem dX9_barringLaw_49 : decode cX9_barringLaw 49 = .ok (.aaload, 1) := by decide +kernel
theorem dX9_barringLaw_50 : decode cX9_barringLaw 50 = .ok (.aload_n 2, 1) := by decide +kernel
theorem dX9_barringLaw_51 : decode cX9_barringLaw 51 = .ok (.iload_n 3, 1) := by decide +kernel
theorem dX9_barringLaw_52 : decode cX9_barringLaw 52 = .ok (.invokevirtual 130, 3) := by decide +kernel
theorem dX9_barringLaw_55 : decode cX9_barringLaw 55 = .ok (.ifCond .le 6, 3) := by decide +kernel
theorem dX9_barringLaw_58 : decode cX9_barringLaw 58 = .ok (.iload 4, 2) := by decide +kernel
theorem dX9_barringLaw_60 : decode cX9_barringLaw 60 = .ok (.ireturn, 1) := by decide +kernel
theorem dX9_barringLaw_61 : decode cX9_barringLaw 61 = .ok (.iinc 4 1, 3) := by decide +kernel
theorem dX9_barringLaw_64 : decode cX9_barringLaw 64 = .ok (.goto (-48), 3) := by decide +kernel
theorem dX9_barringLaw_67 : decode cX9_barringLaw 67 = .ok (.iconst (-1), 1) := by decide +kernel
theorem dX9_barringLaw_68 : decode cX9_barringLaw 68 = .ok (.ireturn, 1) := by decide +kernel
theorem dX9_fillMap_0 : decode cX9_fillMap 0 = .ok (.aload_n 1, 1) := by decide +kernel
theorem dX9_fillMap_1 : decode cX9_fillMap 1 = .ok (.iload_n 2, 1) := by decide +kernel
theorem dX9_fillMap_2 : decode cX9_fillMap 2 = .ok (.putfield 202, 3) := by decide +kernel
theorem dX9_fillMap_5 : decode cX9_fillMap 5 = .ok (.iconst 0, 1) := by decide +kernel
theorem dX9_fillMap_6 : decode cX9_fillMap 6 = .ok (.istore 5, 2) := by decide +kernel
theorem dX9_fillMap_8 : decode cX9_fillMap 8 = .ok (.iload 5, 2) := by decide +kernel
theorem dX9_fillMap_10 : decode cX9_fillMap 10 = .ok (.iload_n 2, 1) := by decide +kernel
theorem dX9_fillMap_11 : decode cX9_fillMap 11 = .ok (.if_icmp .ge 32, 3) := by decide +kernel
theorem dX9_fillMap_14 : decode cX9_fillMap 14 = .ok (.aload_n 1, 1) := by decide +kernel
theorem dX9_fillMap_15 : decode cX9_fillMap 15 = .ok (.iload 5, 2) := by decide +kernel
theorem dX9_fillMap_17 : decode cX9_fillMap 17 = .ok (.aload_n 0, 1) := by decide +kernel
theorem dX9_fillMap_18 : decode cX9_fillMap 18 = .ok (.getfield 42, 3) := by decide +kernel
theorem dX9_fillMap_21 : decode cX9_fillMap 21 = .ok (.aload_n 3, 1) := by decide +kernel
theorem dX9_fillMap_22 : decode cX9_fillMap 22 = .ok (.iload 4, 2) := by decide +kernel
theorem dX9_fillMap_24 : decode cX9_fillMap 24 = .ok (.iload 5, 2) := by decide +kernel
theorem dX9_fillMap_26 : decode cX9_fillMap 26 = .ok (.iadd, 1) := by decide +kernel
theorem dX9_fillMap_27 : decode cX9_fillMap 27 = .ok (.aload_n 0, 1) := by decide +kernel
theorem dX9_fillMap_28 : decode cX9_fillMap 28 = .ok (.getfield 42, 3) := by decide +kernel
theorem dX9_fillMap_31 : decode cX9_fillMap 31 = .ok (.invokevirtual 189, 3) := by decide +kernel
theorem dX9_fillMap_34 : decode cX9_fillMap 34 = .ok (.invokevirtual 292, 3) := by decide +kernel
theorem dX9_fillMap_37 : decode cX9_fillMap 37 = .ok (.iinc 5 1, 3) := by decide +kernel
theorem dX9_fillMap_40 : decode cX9_fillMap 40 = .ok (.goto (-32), 3) := by decide +kernel
theorem dX9_fillMap_43 : decode cX9_fillMap 43 = .ok (.aload_n 1, 1) := by decide +kernel
theorem dX9_fillMap_44 : decode cX9_fillMap 44 = .ok (.invokevirtual 295, 3) := by decide +kernel
theorem dX9_fillMap_47 : decode cX9_fillMap 47 = .ok (.return_, 1) := by decide +kernel
theorem dX9_seekFailure_0 : decode cX9_seekFailure 0 = .ok (.aload_n 0, 1) := by decide +kernel
theorem dX9_seekFailure_1 : decode cX9_seekFailure 1 = .ok (.getfield 38, 3) := by decide +kernel
theorem dX9_seekFailure_4 : decode cX9_seekFailure 4 = .ok (.aload_n 0, 1) := by decide +kernel
theorem dX9_seekFailure_5 : decode cX9_seekFailure 5 = .ok (.getfield 32, 3) := by decide +kernel
theorem dX9_seekFailure_8 : decode cX9_seekFailure 8 = .ok (.iconst 1, 1) := by decide +kernel
theorem dX9_seekFailure_9 : decode cX9_seekFailure 9 = .ok (.aload_n 1, 1) := by decide +kernel
theorem dX9_seekFailure_10 : decode cX9_seekFailure 10 = .ok (.getfield 202, 3) := by decide +kernel
theorem dX9_seekFailure_13 : decode cX9_seekFailure 13 = .ok (.iload_n 2, 1) := by decide +kernel
theorem dX9_seekFailure_14 : decode cX9_seekFailure 14 = .ok (.invokevirtual 140, 3) := by decide +kernel
theorem dX9_seekFailure_17 : decode cX9_seekFailure 17 = .ok (.iconst 0, 1) := by decide +kernel
theorem dX9_seekFailure_18 : decode cX9_seekFailure 18 = .ok (.istore_n 3, 1) := by decide +kernel
theorem dX9_seekFailure_19 : decode cX9_seekFailure 19 = .ok (.iload_n 3, 1) := by decide +kernel
theorem dX9_seekFailure_20 : decode cX9_seekFailure 20 = .ok (.sipush 20000, 3) := by decide +kernel
theorem dX9_seekFailure_23 : decode cX9_seekFailure 23 = .ok (.if_icmp .gt 36, 3) := by decide +kernel
theorem dX9_seekFailure_26 : decode cX9_seekFailure 26 = .ok (.aload_n 0, 1) := by decide +kernel
theorem dX9_seekFailure_27 : decode cX9_seekFailure 27 = .ok (.getfield 38, 3) := by decide +kernel
theorem dX9_seekFailure_30 : decode cX9_seekFailure 30 = .ok (.invokevirtual 173, 3) := by decide +kernel
theorem dX9_seekFailure_33 : decode cX9_seekFailure 33 = .ok (.istore 4, 2) := by decide +kernel
theorem dX9_seekFailure_35 : decode cX9_seekFailure 35 = .ok (.iload 4, 2) := by decide +kernel
theorem dX9_seekFailure_37 : decode cX9_seekFailure 37 = .ok (.iconst 1, 1) := by decide +kernel
theorem dX9_seekFailure_38 : decode cX9_seekFailure 38 = .ok (.if_icmp .ne 12, 3) := by decide +kernel
theorem dX9_seekFailure_41 : decode cX9_seekFailure 41 = .ok (.aload_n 0, 1) := by decide +kernel
theorem dX9_seekFailure_42 : decode cX9_seekFailure 42 = .ok (.aload_n 1, 1) := by decide +kernel
theorem dX9_seekFailure_43 : decode cX9_seekFailure 43 = .ok (.iload_n 2, 1) := by decide +kernel
theorem dX9_seekFailure_44 : decode cX9_seekFailure 44 = .ok (.invokevirtual 298, 3) := by decide +kernel
theorem dX9_seekFailure_47 : decode cX9_seekFailure 47 = .ok (.ifCond .eq 6, 3) := by decide +kernel
theorem dX9_seekFailure_50 : decode cX9_seekFailure 50 = .ok (.iload 4, 2) := by decide +kernel
theorem dX9_seekFailure_52 : decode cX9_seekFailure 52 = .ok (.ireturn, 1) := by decide +kernel
theorem dX9_seekFailure_53 : decode cX9_seekFailure 53 = .ok (.iinc 3 1, 3) := by decide +kernel
theorem dX9_seekFailure_56 : decode cX9_seekFailure 56 = .ok (.goto (-37), 3) := by decide +kernel
theorem dX9_seekFailure_59 : decode cX9_seekFailure 59 = .ok (.iconst 0, 1) := by decide +kernel
theorem dX9_seekFailure_60 : decode cX9_seekFailure 60 = .ok (.ireturn, 1) := by decide +kernel
theorem dX9_isFailure_0 : decode cX9_isFailure 0 = .ok (.aload_n 1, 1) := by decide +kernel
theorem dX9_isFailure_1 : decode cX9_isFailure 1 = .ok (.aload_n 0, 1) := by decide +kernel
theorem dX9_isFailure_2 : decode cX9_isFailure 2 = .ok (.getfield 38, 3) := by decide +kernel
theorem dX9_isFailure_5 : decode cX9_isFailure 5 = .ok (.getfield 159, 3) := by decide +kernel
theorem dX9_isFailure_8 : decode cX9_isFailure 8 = .ok (.iload_n 2, 1) := by decide +kernel
theorem dX9_isFailure_9 : decode cX9_isFailure 9 = .ok (.aload_n 0, 1) := by decide +kernel
theorem dX9_isFailure_10 : decode cX9_isFailure 10 = .ok (.getfield 46, 3) := by decide +kernel
theorem dX9_isFailure_13 : decode cX9_isFailure 13 = .ok (.invokevirtual 205, 3) := by decide +kernel
theorem dX9_isFailure_16 : decode cX9_isFailure 16 = .ok (.istore_n 3, 1) := by decide +kernel
theorem dX9_isFailure_17 : decode cX9_isFailure 17 = .ok (.iload_n 3, 1) := by decide +kernel
theorem dX9_isFailure_18 : decode cX9_isFailure 18 = .ok (.aload_n 1, 1) := by decide +kernel
theorem dX9_isFailure_19 : decode cX9_isFailure 19 = .ok (.aload_n 0, 1) := by decide +kernel
theorem dX9_isFailure_20 : decode cX9_isFailure 20 = .ok (.getfield 38, 3) := by decide +kernel
theorem dX9_isFailure_23 : decode cX9_isFailure 23 = .ok (.getfield 159, 3) := by decide +kernel
theorem dX9_isFailure_26 : decode cX9_isFailure 26 = .ok (.iload_n 2, 1) := by decide +kernel
theorem dX9_isFailure_27 : decode cX9_isFailure 27 = .ok (.iconst 1, 1) := by decide +kernel
theorem dX9_isFailure_28 : decode cX9_isFailure 28 = .ok (.isub, 1) := by decide +kernel
theorem dX9_isFailure_29 : decode cX9_isFailure 29 = .ok (.iaload, 1) := by decide +kernel
theorem dX9_isFailure_30 : decode cX9_isFailure 30 = .ok (.invokevirtual 302, 3) := by decide +kernel
theorem dX9_isFailure_33 : decode cX9_isFailure 33 = .ok (.isub, 1) := by decide +kernel
theorem dX9_isFailure_34 : decode cX9_isFailure 34 = .ok (.istore 4, 2) := by decide +kernel
theorem dX9_isFailure_36 : decode cX9_isFailure 36 = .ok (.iload 4, 2) := by decide +kernel
theorem dX9_isFailure_38 : decode cX9_isFailure 38 = .ok (.iconst 1, 1) := by decide +kernel
theorem dX9_isFailure_39 : decode cX9_isFailure 39 = .ok (.iadd, 1) := by decide +kernel
theorem dX9_isFailure_40 : decode cX9_isFailure 40 = .ok (.istore 5, 2) := by decide +kernel
theorem dX9_isFailure_42 : decode cX9_isFailure 42 = .ok (.iload 5, 2) := by decide +kernel
theorem dX9_isFailure_44 : decode cX9_isFailure 44 = .ok (.iload_n 3, 1) := by decide +kernel
theorem dX9_isFailure_45 : decode cX9_isFailure 45 = .ok (.if_icmp .gt 29, 3) := by decide +kernel
theorem dX9_isFailure_48 : decode cX9_isFailure 48 = .ok (.aload_n 0, 1) := by decide +kernel
theorem dX9_isFailure_49 : decode cX9_isFailure 49 = .ok (.getfield 32, 3) := by decide +kernel
theorem dX9_isFailure_52 : decode cX9_isFailure 52 = .ok (.iconst 1, 1) := by decide +kernel
theorem dX9_isFailure_53 : decode cX9_isFailure 53 = .ok (.aload_n 0, 1) := by decide +kernel
theorem dX9_isFailure_54 : decode cX9_isFailure 54 = .ok (.getfield 46, 3) := by decide +kernel
theorem dX9_isFailure_57 : decode cX9_isFailure 57 = .ok (.iload 5, 2) := by decide +kernel
theorem dX9_isFailure_59 : decode cX9_isFailure 59 = .ok (.invokestatic 126, 3) := by decide +kernel
theorem dX9_isFailure_62 : decode cX9_isFailure 62 = .ok (.iconst (-1), 1) := by decide +kernel
theorem dX9_isFailure_63 : decode cX9_isFailure 63 = .ok (.if_icmp .eq 5, 3) := by decide +kernel
theorem dX9_isFailure_66 : decode cX9_isFailure 66 = .ok (.iconst 1, 1) := by decide +kernel
theorem dX9_isFailure_67 : decode cX9_isFailure 67 = .ok (.ireturn, 1) := by decide +kernel
theorem dX9_isFailure_68 : decode cX9_isFailure 68 = .ok (.iinc 5 1, 3) := by decide +kernel
theorem dX9_isFailure_71 : decode cX9_isFailure 71 = .ok (.goto (-29), 3) := by decide +kernel
theorem dX9_isFailure_74 : decode cX9_isFailure 74 = .ok (.iconst 0, 1) := by decide +kernel
theorem dX9_isFailure_75 : decode cX9_isFailure 75 = .ok (.ireturn, 1) := by decide +kernel
