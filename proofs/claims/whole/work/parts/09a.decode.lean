theorem dX0_init_0 : decode MX0_init.2.1 0 = .ok (.aload_n 0, 1) := by decide +kernel
theorem dX0_init_1 : decode MX0_init.2.1 1 = .ok (.invokespecial 3, 3) := by decide +kernel
theorem dX0_init_4 : decode MX0_init.2.1 4 = .ok (.aload_n 0, 1) := by decide +kernel
theorem dX0_init_5 : decode MX0_init.2.1 5 = .ok (.bipush 36, 2) := by decide +kernel
theorem dX0_init_7 : decode MX0_init.2.1 7 = .ok (.newarray .int, 2) := by decide +kernel
theorem dX0_init_9 : decode MX0_init.2.1 9 = .ok (.putfield 9, 3) := by decide +kernel
theorem dX0_init_12 : decode MX0_init.2.1 12 = .ok (.return_, 1) := by decide +kernel
theorem dX0_run_0 : decode MX0_run.2.1 0 = .ok (.iconst 0, 1) := by decide +kernel
theorem dX0_run_1 : decode MX0_run.2.1 1 = .ok (.istore 4, 2) := by decide +kernel
theorem dX0_run_3 : decode MX0_run.2.1 3 = .ok (.iconst 0, 1) := by decide +kernel
theorem dX0_run_4 : decode MX0_run.2.1 4 = .ok (.istore 5, 2) := by decide +kernel
theorem dX0_run_6 : decode MX0_run.2.1 6 = .ok (.iload 5, 2) := by decide +kernel
theorem dX0_run_8 : decode MX0_run.2.1 8 = .ok (.iload_n 3, 1) := by decide +kernel
theorem dX0_run_9 : decode MX0_run.2.1 9 = .ok (.if_icmp .ge 20, 3) := by decide +kernel
theorem dX0_run_12 : decode MX0_run.2.1 12 = .ok (.iload 4, 2) := by decide +kernel
theorem dX0_run_14 : decode MX0_run.2.1 14 = .ok (.aload_n 0, 1) := by decide +kernel
theorem dX0_run_15 : decode MX0_run.2.1 15 = .ok (.aload_n 1, 1) := by decide +kernel
theorem dX0_run_16 : decode MX0_run.2.1 16 = .ok (.aload_n 2, 1) := by decide +kernel
theorem dX0_run_17 : decode MX0_run.2.1 17 = .ok (.invokevirtual 15, 3) := by decide +kernel
theorem dX0_run_20 : decode MX0_run.2.1 20 = .ok (.iadd, 1) := by decide +kernel
theorem dX0_run_21 : decode MX0_run.2.1 21 = .ok (.istore 4, 2) := by decide +kernel
theorem dX0_run_23 : decode MX0_run.2.1 23 = .ok (.iinc 5 1, 3) := by decide +kernel
theorem dX0_run_26 : decode MX0_run.2.1 26 = .ok (.goto (-20), 3) := by decide +kernel
theorem dX0_run_29 : decode MX0_run.2.1 29 = .ok (.iload 4, 2) := by decide +kernel
theorem dX0_run_31 : decode MX0_run.2.1 31 = .ok (.ireturn, 1) := by decide +kernel
theorem dX0_pass_0 : decode MX0_pass.2.1 0 = .ok (.aload_n 0, 1) := by decide +kernel
theorem dX0_pass_1 : decode MX0_pass.2.1 1 = .ok (.aload_n 1, 1) := by decide +kernel
theorem dX0_pass_2 : decode MX0_pass.2.1 2 = .ok (.aload_n 2, 1) := by decide +kernel
theorem dX0_pass_3 : decode MX0_pass.2.1 3 = .ok (.invokevirtual 19, 3) := by decide +kernel
theorem dX0_pass_6 : decode MX0_pass.2.1 6 = .ok (.aload_n 0, 1) := by decide +kernel
theorem dX0_pass_7 : decode MX0_pass.2.1 7 = .ok (.aload_n 1, 1) := by decide +kernel
theorem dX0_pass_8 : decode MX0_pass.2.1 8 = .ok (.invokevirtual 23, 3) := by decide +kernel
theorem dX0_pass_11 : decode MX0_pass.2.1 11 = .ok (.aload_n 0, 1) := by decide +kernel
theorem dX0_pass_12 : decode MX0_pass.2.1 12 = .ok (.aload_n 1, 1) := by decide +kernel
theorem dX0_pass_13 : decode MX0_pass.2.1 13 = .ok (.invokevirtual 27, 3) := by decide +kernel
theorem dX0_pass_16 : decode MX0_pass.2.1 16 = .ok (.aload_n 0, 1) := by decide +kernel
theorem dX0_pass_17 : decode MX0_pass.2.1 17 = .ok (.aload_n 1, 1) := by decide +kernel
theorem dX0_pass_18 : decode MX0_pass.2.1 18 = .ok (.invokevirtual 30, 3) := by decide +kernel
theorem dX0_pass_21 : decode MX0_pass.2.1 21 = .ok (.istore_n 3, 1) := by decide +kernel
theorem dX0_pass_22 : decode MX0_pass.2.1 22 = .ok (.aload_n 1, 1) := by decide +kernel
theorem dX0_pass_23 : decode MX0_pass.2.1 23 = .ok (.dup, 1) := by decide +kernel
theorem dX0_pass_24 : decode MX0_pass.2.1 24 = .ok (.getfield 34, 3) := by decide +kernel
theorem dX0_pass_27 : decode MX0_pass.2.1 27 = .ok (.iconst 1, 1) := by decide +kernel
theorem dX0_pass_28 : decode MX0_pass.2.1 28 = .ok (.iadd, 1) := by decide +kernel
theorem dX0_pass_29 : decode MX0_pass.2.1 29 = .ok (.putfield 34, 3) := by decide +kernel
theorem dX0_pass_32 : decode MX0_pass.2.1 32 = .ok (.iload_n 3, 1) := by decide +kernel
theorem dX0_pass_33 : decode MX0_pass.2.1 33 = .ok (.ireturn, 1) := by decide +kernel
theorem dX0_gatherWords_0 : decode MX0_gatherWords.2.1 0 = .ok (.iconst 0, 1) := by decide +kernel
theorem dX0_gatherWords_1 : decode MX0_gatherWords.2.1 1 = .ok (.istore_n 3, 1) := by decide +kernel
theorem dX0_gatherWords_2 : decode MX0_gatherWords.2.1 2 = .ok (.iload_n 3, 1) := by decide +kernel
theorem dX0_gatherWords_3 : decode MX0_gatherWords.2.1 3 = .ok (.aload_n 1, 1) := by decide +kernel
theorem dX0_gatherWords_4 : decode MX0_gatherWords.2.1 4 = .ok (.getfield 40, 3) := by decide +kernel
theorem dX0_gatherWords_7 : decode MX0_gatherWords.2.1 7 = .ok (.if_icmp .ge 94, 3) := by decide +kernel
theorem dX0_gatherWords_10 : decode MX0_gatherWords.2.1 10 = .ok (.aload_n 1, 1) := by decide +kernel
theorem dX0_gatherWords_11 : decode MX0_gatherWords.2.1 11 = .ok (.iload_n 3, 1) := by decide +kernel
theorem dX0_gatherWords_12 : decode MX0_gatherWords.2.1 12 = .ok (.invokevirtual 43, 3) := by decide +kernel
theorem dX0_gatherWords_15 : decode MX0_gatherWords.2.1 15 = .ok (.ifCond .eq 6, 3) := by decide +kernel
theorem dX0_gatherWords_18 : decode MX0_gatherWords.2.1 18 = .ok (.goto 77, 3) := by decide +kernel
theorem dX0_gatherWords_21 : decode MX0_gatherWords.2.1 21 = .ok (.aload_n 1, 1) := by decide +kernel
theorem dX0_gatherWords_22 : decode MX0_gatherWords.2.1 22 = .ok (.getfield 47, 3) := by decide +kernel
theorem dX0_gatherWords_25 : decode MX0_gatherWords.2.1 25 = .ok (.iload_n 3, 1) := by decide +kernel
theorem dX0_gatherWords_26 : decode MX0_gatherWords.2.1 26 = .ok (.iaload, 1) := by decide +kernel
theorem dX0_gatherWords_27 : decode MX0_gatherWords.2.1 27 = .ok (.iconst 1, 1) := by decide +kernel
theorem dX0_gatherWords_28 : decode MX0_gatherWords.2.1 28 = .ok (.if_icmp .ne 7, 3) := by decide +kernel
theorem dX0_gatherWords_31 : decode MX0_gatherWords.2.1 31 = .ok (.iconst 1, 1) := by decide +kernel
theorem dX0_gatherWords_32 : decode MX0_gatherWords.2.1 32 = .ok (.goto 4, 3) := by decide +kernel
theorem dX0_gatherWords_35 : decode MX0_gatherWords.2.1 35 = .ok (.iconst 0, 1) := by decide +kernel
theorem dX0_gatherWords_36 : decode MX0_gatherWords.2.1 36 = .ok (.istore 4, 2) := by decide +kernel
theorem dX0_gatherWords_38 : decode MX0_gatherWords.2.1 38 = .ok (.iconst 0, 1) := by decide +kernel
theorem dX0_gatherWords_39 : decode MX0_gatherWords.2.1 39 = .ok (.istore 5, 2) := by decide +kernel
theorem dX0_gatherWords_41 : decode MX0_gatherWords.2.1 41 = .ok (.iload 5, 2) := by decide +kernel
theorem dX0_gatherWords_43 : decode MX0_gatherWords.2.1 43 = .ok (.aload_n 1, 1) := by decide +kernel
theorem dX0_gatherWords_44 : decode MX0_gatherWords.2.1 44 = .ok (.getfield 40, 3) := by decide +kernel
theorem dX0_gatherWords_47 : decode MX0_gatherWords.2.1 47 = .ok (.if_icmp .ge 48, 3) := by decide +kernel
theorem dX0_gatherWords_50 : decode MX0_gatherWords.2.1 50 = .ok (.iload_n 3, 1) := by decide +kernel
theorem dX0_gatherWords_51 : decode MX0_gatherWords.2.1 51 = .ok (.iload 5, 2) := by decide +kernel
theorem dX0_gatherWords_53 : decode MX0_gatherWords.2.1 53 = .ok (.if_icmp .eq 36, 3) := by decide +kernel
theorem dX0_gatherWords_56 : decode MX0_gatherWords.2.1 56 = .ok (.iload 4, 2) := by decide +kernel
theorem dX0_gatherWords_58 : decode MX0_gatherWords.2.1 58 = .ok (.ifCond .ne 12, 3) := by decide +kernel
theorem dX0_gatherWords_61 : decode MX0_gatherWords.2.1 61 = .ok (.aload_n 1, 1) := by decide +kernel
theorem dX0_gatherWords_62 : decode MX0_gatherWords.2.1 62 = .ok (.iload 5, 2) := by decide +kernel
theorem dX0_gatherWords_64 : decode MX0_gatherWords.2.1 64 = .ok (.invokevirtual 43, 3) := by decide +kernel
theorem dX0_gatherWords_67 : decode MX0_gatherWords.2.1 67 = .ok (.ifCond .eq 22, 3) := by decide +kernel
theorem dX0_gatherWords_70 : decode MX0_gatherWords.2.1 70 = .ok (.aload_n 0, 1) := by decide +kernel
theorem dX0_gatherWords_71 : decode MX0_gatherWords.2.1 71 = .ok (.getfield 9, 3) := by decide +kernel
theorem dX0_gatherWords_74 : decode MX0_gatherWords.2.1 74 = .ok (.iload 5, 2) := by decide +kernel
theorem dX0_gatherWords_76 : decode MX0_gatherWords.2.1 76 = .ok (.iload_n 3, 1) := by decide +kernel
theorem dX0_gatherWords_77 : decode MX0_gatherWords.2.1 77 = .ok (.invokestatic 50, 3) := by decide +kernel
theorem dX0_gatherWords_80 : decode MX0_gatherWords.2.1 80 = .ok (.aload_n 2, 1) := by decide +kernel
theorem dX0_gatherWords_81 : decode MX0_gatherWords.2.1 81 = .ok (.aload_n 1, 1) := by decide +kernel
theorem dX0_gatherWords_82 : decode MX0_gatherWords.2.1 82 = .ok (.iload 5, 2) := by decide +kernel
theorem dX0_gatherWords_84 : decode MX0_gatherWords.2.1 84 = .ok (.iload_n 3, 1) := by decide +kernel
theorem dX0_gatherWords_85 : decode MX0_gatherWords.2.1 85 = .ok (.invokevirtual 54, 3) := by decide +kernel
theorem dX0_gatherWords_88 : decode MX0_gatherWords.2.1 88 = .ok (.iastore, 1) := by decide +kernel
theorem dX0_gatherWords_89 : decode MX0_gatherWords.2.1 89 = .ok (.iinc 5 1, 3) := by decide +kernel
theorem dX0_gatherWords_92 : decode MX0_gatherWords.2.1 92 = .ok (.goto (-51), 3) := by decide +kernel
theorem dX0_gatherWords_95 : decode MX0_gatherWords.2.1 95 = .ok (.iinc 3 1, 3) := by decide +kernel
theorem dX0_gatherWords_98 : decode MX0_gatherWords.2.1 98 = .ok (.goto (-96), 3) := by decide +kernel
theorem dX0_gatherWords_101 : decode MX0_gatherWords.2.1 101 = .ok (.return_, 1) := by decide +kernel
theorem dX0_hear_0 : decode MX0_hear.2.1 0 = .ok (.aload_n 1, 1) := by decide +kernel
theorem dX0_hear_1 : decode MX0_hear.2.1 1 = .ok (.invokevirtual 59, 3) := by decide +kernel
theorem dX0_hear_4 : decode MX0_hear.2.1 4 = .ok (.istore_n 2, 1) := by decide +kernel
theorem dX0_hear_5 : decode MX0_hear.2.1 5 = .ok (.iconst 0, 1) := by decide +kernel
theorem dX0_hear_6 : decode MX0_hear.2.1 6 = .ok (.istore_n 3, 1) := by decide +kernel
theorem dX0_hear_7 : decode MX0_hear.2.1 7 = .ok (.iload_n 3, 1) := by decide +kernel
theorem dX0_hear_8 : decode MX0_hear.2.1 8 = .ok (.aload_n 1, 1) := by decide +kernel
theorem dX0_hear_9 : decode MX0_hear.2.1 9 = .ok (.getfield 40, 3) := by decide +kernel
theorem dX0_hear_12 : decode MX0_hear.2.1 12 = .ok (.if_icmp .ge 56, 3) := by decide +kernel
theorem dX0_hear_15 : decode MX0_hear.2.1 15 = .ok (.aload_n 1, 1) := by decide +kernel
theorem dX0_hear_16 : decode MX0_hear.2.1 16 = .ok (.iload_n 3, 1) := by decide +kernel
theorem dX0_hear_17 : decode MX0_hear.2.1 17 = .ok (.invokevirtual 43, 3) := by decide +kernel
theorem dX0_hear_20 : decode MX0_hear.2.1 20 = .ok (.ifCond .ne 42, 3) := by decide +kernel
theorem dX0_hear_23 : decode MX0_hear.2.1 23 = .ok (.aload_n 1, 1) := by decide +kernel
theorem dX0_hear_24 : decode MX0_hear.2.1 24 = .ok (.getfield 63, 3) := by decide +kernel
theorem dX0_hear_27 : decode MX0_hear.2.1 27 = .ok (.iload_n 3, 1) := by decide +kernel
theorem dX0_hear_28 : decode MX0_hear.2.1 28 = .ok (.sipush 9999, 3) := by decide +kernel
theorem dX0_hear_31 : decode MX0_hear.2.1 31 = .ok (.aload_n 1, 1) := by decide +kernel
theorem dX0_hear_32 : decode MX0_hear.2.1 32 = .ok (.getfield 63, 3) := by decide +kernel
theorem dX0_hear_35 : decode MX0_hear.2.1 35 = .ok (.iload_n 3, 1) := by decide +kernel
theorem dX0_hear_36 : decode MX0_hear.2.1 36 = .ok (.iaload, 1) := by decide +kernel
theorem dX0_hear_37 : decode MX0_hear.2.1 37 = .ok (.aload_n 0, 1) := by decide +kernel
theorem dX0_hear_38 : decode MX0_hear.2.1 38 = .ok (.iload_n 3, 1) := by decide +kernel
theorem dX0_hear_39 : decode MX0_hear.2.1 39 = .ok (.iload_n 2, 1) := by decide +kernel
theorem dX0_hear_40 : decode MX0_hear.2.1 40 = .ok (.aload_n 1, 1) := by decide +kernel
theorem dX0_hear_41 : decode MX0_hear.2.1 41 = .ok (.getfield 40, 3) := by decide +kernel
theorem dX0_hear_44 : decode MX0_hear.2.1 44 = .ok (.invokevirtual 66, 3) := by decide +kernel
theorem dX0_hear_47 : decode MX0_hear.2.1 47 = .ok (.iadd, 1) := by decide +kernel
theorem dX0_hear_48 : decode MX0_hear.2.1 48 = .ok (.invokestatic 70, 3) := by decide +kernel
theorem dX0_hear_51 : decode MX0_hear.2.1 51 = .ok (.iastore, 1) := by decide +kernel
theorem dX0_hear_52 : decode MX0_hear.2.1 52 = .ok (.aload_n 1, 1) := by decide +kernel
theorem dX0_hear_53 : decode MX0_hear.2.1 53 = .ok (.getfield 75, 3) := by decide +kernel
theorem dX0_hear_56 : decode MX0_hear.2.1 56 = .ok (.iload_n 3, 1) := by decide +kernel
theorem dX0_hear_57 : decode MX0_hear.2.1 57 = .ok (.dup2, 1) := by decide +kernel
theorem dX0_hear_58 : decode MX0_hear.2.1 58 = .ok (.iaload, 1) := by decide +kernel
theorem dX0_hear_59 : decode MX0_hear.2.1 59 = .ok (.iload_n 2, 1) := by decide +kernel
theorem dX0_hear_60 : decode MX0_hear.2.1 60 = .ok (.ior, 1) := by decide +kernel
theorem dX0_hear_61 : decode MX0_hear.2.1 61 = .ok (.iastore, 1) := by decide +kernel
theorem dX0_hear_62 : decode MX0_hear.2.1 62 = .ok (.iinc 3 1, 3) := by decide +kernel
theorem dX0_hear_65 : decode MX0_hear.2.1 65 = .ok (.goto (-58), 3) := by decide +kernel
theorem dX0_hear_68 : decode MX0_hear.2.1 68 = .ok (.return_, 1) := by decide +kernel
theorem dX0_wordsOf_0 : decode MX0_wordsOf.2.1 0 = .ok (.iconst 0, 1) := by decide +kernel
theorem dX0_wordsOf_1 : decode MX0_wordsOf.2.1 1 = .ok (.istore 4, 2) := by decide +kernel
theorem dX0_wordsOf_3 : decode MX0_wordsOf.2.1 3 = .ok (.iconst 0, 1) := by decide +kernel
theorem dX0_wordsOf_4 : decode MX0_wordsOf.2.1 4 = .ok (.istore 5, 2) := by decide +kernel
theorem dX0_wordsOf_6 : decode MX0_wordsOf.2.1 6 = .ok (.iload 5, 2) := by decide +kernel
theorem dX0_wordsOf_8 : decode MX0_wordsOf.2.1 8 = .ok (.iload_n 3, 1) := by decide +kernel
theorem dX0_wordsOf_9 : decode MX0_wordsOf.2.1 9 = .ok (.if_icmp .ge 41, 3) := by decide +kernel
theorem dX0_wordsOf_12 : decode MX0_wordsOf.2.1 12 = .ok (.iload 5, 2) := by decide +kernel
theorem dX0_wordsOf_14 : decode MX0_wordsOf.2.1 14 = .ok (.bipush 6, 2) := by decide +kernel
theorem dX0_wordsOf_16 : decode MX0_wordsOf.2.1 16 = .ok (.if_icmp .ge 34, 3) := by decide +kernel
theorem dX0_wordsOf_19 : decode MX0_wordsOf.2.1 19 = .ok (.iload 5, 2) := by decide +kernel
theorem dX0_wordsOf_21 : decode MX0_wordsOf.2.1 21 = .ok (.iload_n 2, 1) := by decide +kernel
theorem dX0_wordsOf_22 : decode MX0_wordsOf.2.1 22 = .ok (.invokestatic 78, 3) := by decide +kernel
theorem dX0_wordsOf_25 : decode MX0_wordsOf.2.1 25 = .ok (.ifCond .eq 19, 3) := by decide +kernel
theorem dX0_wordsOf_28 : decode MX0_wordsOf.2.1 28 = .ok (.iload 4, 2) := by decide +kernel
theorem dX0_wordsOf_30 : decode MX0_wordsOf.2.1 30 = .ok (.aload_n 0, 1) := by decide +kernel
theorem dX0_wordsOf_31 : decode MX0_wordsOf.2.1 31 = .ok (.getfield 9, 3) := by decide +kernel
theorem dX0_wordsOf_34 : decode MX0_wordsOf.2.1 34 = .ok (.iload 5, 2) := by decide +kernel
theorem dX0_wordsOf_36 : decode MX0_wordsOf.2.1 36 = .ok (.iload_n 1, 1) := by decide +kernel
theorem dX0_wordsOf_37 : decode MX0_wordsOf.2.1 37 = .ok (.invokestatic 50, 3) := by decide +kernel
theorem dX0_wordsOf_40 : decode MX0_wordsOf.2.1 40 = .ok (.iaload, 1) := by decide +kernel
theorem dX0_wordsOf_41 : decode MX0_wordsOf.2.1 41 = .ok (.iadd, 1) := by decide +kernel
theorem dX0_wordsOf_42 : decode MX0_wordsOf.2.1 42 = .ok (.istore 4, 2) := by decide +kernel
theorem dX0_wordsOf_44 : decode MX0_wordsOf.2.1 44 = .ok (.iinc 5 1, 3) := by decide +kernel
theorem dX0_wordsOf_47 : decode MX0_wordsOf.2.1 47 = .ok (.goto (-41), 3) := by decide +kernel
theorem dX0_wordsOf_50 : decode MX0_wordsOf.2.1 50 = .ok (.iload 4, 2) := by decide +kernel
theorem dX0_wordsOf_52 : decode MX0_wordsOf.2.1 52 = .ok (.ireturn, 1) := by decide +kernel
theorem dX0_growDebts_0 : decode MX0_growDebts.2.1 0 = .ok (.iconst 0, 1) := by decide +kernel
theorem dX0_growDebts_1 : decode MX0_growDebts.2.1 1 = .ok (.istore_n 2, 1) := by decide +kernel
theorem dX0_growDebts_2 : decode MX0_growDebts.2.1 2 = .ok (.iload_n 2, 1) := by decide +kernel
theorem dX0_growDebts_3 : decode MX0_growDebts.2.1 3 = .ok (.aload_n 1, 1) := by decide +kernel
theorem dX0_growDebts_4 : decode MX0_growDebts.2.1 4 = .ok (.getfield 40, 3) := by decide +kernel
theorem dX0_growDebts_7 : decode MX0_growDebts.2.1 7 = .ok (.if_icmp .ge 93, 3) := by decide +kernel
theorem dX0_growDebts_10 : decode MX0_growDebts.2.1 10 = .ok (.iconst 0, 1) := by decide +kernel
theorem dX0_growDebts_11 : decode MX0_growDebts.2.1 11 = .ok (.istore_n 3, 1) := by decide +kernel
theorem dX0_growDebts_12 : decode MX0_growDebts.2.1 12 = .ok (.iload_n 3, 1) := by decide +kernel
theorem dX0_growDebts_13 : decode MX0_growDebts.2.1 13 = .ok (.aload_n 1, 1) := by decide +kernel
theorem dX0_growDebts_14 : decode MX0_growDebts.2.1 14 = .ok (.getfield 40, 3) := by decide +kernel
theorem dX0_growDebts_17 : decode MX0_growDebts.2.1 17 = .ok (.if_icmp .ge 77, 3) := by decide +kernel
theorem dX0_growDebts_20 : decode MX0_growDebts.2.1 20 = .ok (.iload_n 2, 1) := by decide +kernel
theorem dX0_growDebts_21 : decode MX0_growDebts.2.1 21 = .ok (.iload_n 3, 1) := by decide +kernel
theorem dX0_growDebts_22 : decode MX0_growDebts.2.1 22 = .ok (.invokestatic 50, 3) := by decide +kernel
theorem dX0_growDebts_25 : decode MX0_growDebts.2.1 25 = .ok (.istore 4, 2) := by decide +kernel
theorem dX0_growDebts_27 : decode MX0_growDebts.2.1 27 = .ok (.aload_n 1, 1) := by decide +kernel
theorem dX0_growDebts_28 : decode MX0_growDebts.2.1 28 = .ok (.getfield 82, 3) := by decide +kernel
theorem dX0_growDebts_31 : decode MX0_growDebts.2.1 31 = .ok (.iload 4, 2) := by decide +kernel
theorem dX0_growDebts_33 : decode MX0_growDebts.2.1 33 = .ok (.iaload, 1) := by decide +kernel
theorem dX0_growDebts_34 : decode MX0_growDebts.2.1 34 = .ok (.ifCond .le 19, 3) := by decide +kernel
theorem dX0_growDebts_37 : decode MX0_growDebts.2.1 37 = .ok (.aload_n 1, 1) := by decide +kernel
theorem dX0_growDebts_38 : decode MX0_growDebts.2.1 38 = .ok (.getfield 82, 3) := by decide +kernel
theorem dX0_growDebts_41 : decode MX0_growDebts.2.1 41 = .ok (.iload 4, 2) := by decide +kernel
theorem dX0_growDebts_43 : decode MX0_growDebts.2.1 43 = .ok (.iaload, 1) := by decide +kernel
theorem dX0_growDebts_44 : decode MX0_growDebts.2.1 44 = .ok (.bipush 99, 2) := by decide +kernel
theorem dX0_growDebts_46 : decode MX0_growDebts.2.1 46 = .ok (.if_icmp .ge 7, 3) := by decide +kernel
theorem dX0_growDebts_49 : decode MX0_growDebts.2.1 49 = .ok (.iconst 1, 1) := by decide +kernel
theorem dX0_growDebts_50 : decode MX0_growDebts.2.1 50 = .ok (.goto 4, 3) := by decide +kernel
theorem dX0_growDebts_53 : decode MX0_growDebts.2.1 53 = .ok (.iconst 0, 1) := by decide +kernel
theorem dX0_growDebts_54 : decode MX0_growDebts.2.1 54 = .ok (.istore 5, 2) := by decide +kernel
theorem dX0_growDebts_56 : decode MX0_growDebts.2.1 56 = .ok (.iload 5, 2) := by decide +kernel
theorem dX0_growDebts_58 : decode MX0_growDebts.2.1 58 = .ok (.ifCond .eq 30, 3) := by decide +kernel
theorem dX0_growDebts_61 : decode MX0_growDebts.2.1 61 = .ok (.aload_n 1, 1) := by decide +kernel
theorem dX0_growDebts_62 : decode MX0_growDebts.2.1 62 = .ok (.iload_n 2, 1) := by decide +kernel
theorem dX0_growDebts_63 : decode MX0_growDebts.2.1 63 = .ok (.invokevirtual 43, 3) := by decide +kernel
theorem dX0_growDebts_66 : decode MX0_growDebts.2.1 66 = .ok (.ifCond .eq 22, 3) := by decide +kernel
theorem dX0_growDebts_69 : decode MX0_growDebts.2.1 69 = .ok (.aload_n 1, 1) := by decide +kernel
theorem dX0_growDebts_70 : decode MX0_growDebts.2.1 70 = .ok (.iload_n 3, 1) := by decide +kernel
theorem dX0_growDebts_71 : decode MX0_growDebts.2.1 71 = .ok (.invokevirtual 43, 3) := by decide +kernel
theorem dX0_growDebts_74 : decode MX0_growDebts.2.1 74 = .ok (.ifCond .eq 14, 3) := by decide +kernel
theorem dX0_growDebts_77 : decode MX0_growDebts.2.1 77 = .ok (.aload_n 1, 1) := by decide +kernel
theorem dX0_growDebts_78 : decode MX0_growDebts.2.1 78 = .ok (.getfield 82, 3) := by decide +kernel
theorem dX0_growDebts_81 : decode MX0_growDebts.2.1 81 = .ok (.iload 4, 2) := by decide +kernel
theorem dX0_growDebts_83 : decode MX0_growDebts.2.1 83 = .ok (.dup2, 1) := by decide +kernel
theorem dX0_growDebts_84 : decode MX0_growDebts.2.1 84 = .ok (.iaload, 1) := by decide +kernel
theorem dX0_growDebts_85 : decode MX0_growDebts.2.1 85 = .ok (.iconst 1, 1) := by decide +kernel
theorem dX0_growDebts_86 : decode MX0_growDebts.2.1 86 = .ok (.iadd, 1) := by decide +kernel
theorem dX0_growDebts_87 : decode MX0_growDebts.2.1 87 = .ok (.iastore, 1) := by decide +kernel
theorem dX0_growDebts_88 : decode MX0_growDebts.2.1 88 = .ok (.iinc 3 1, 3) := by decide +kernel
theorem dX0_growDebts_91 : decode MX0_growDebts.2.1 91 = .ok (.goto (-79), 3) := by decide +kernel
theorem dX0_growDebts_94 : decode MX0_growDebts.2.1 94 = .ok (.iinc 2 1, 3) := by decide +kernel
theorem dX0_growDebts_97 : decode MX0_growDebts.2.1 97 = .ok (.goto (-95), 3) := by decide +kernel
theorem dX0_growDebts_100 : decode MX0_growDebts.2.1 100 = .ok (.return_, 1) := by decide +kernel
theorem dX0_wake_0 : decode MX0_wake.2.1 0 = .ok (.iconst 0, 1) := by decide +kernel
theorem dX0_wake_1 : decode MX0_wake.2.1 1 = .ok (.istore_n 2, 1) := by decide +kernel
theorem dX0_wake_2 : decode MX0_wake.2.1 2 = .ok (.iconst 0, 1) := by decide +kernel
theorem dX0_wake_3 : decode MX0_wake.2.1 3 = .ok (.istore_n 3, 1) := by decide +kernel
theorem dX0_wake_4 : decode MX0_wake.2.1 4 = .ok (.iload_n 3, 1) := by decide +kernel
theorem dX0_wake_5 : decode MX0_wake.2.1 5 = .ok (.aload_n 1, 1) := by decide +kernel
theorem dX0_wake_6 : decode MX0_wake.2.1 6 = .ok (.getfield 40, 3) := by decide +kernel
theorem dX0_wake_9 : decode MX0_wake.2.1 9 = .ok (.if_icmp .ge 44, 3) := by decide +kernel
theorem dX0_wake_12 : decode MX0_wake.2.1 12 = .ok (.aload_n 1, 1) := by decide +kernel
theorem dX0_wake_13 : decode MX0_wake.2.1 13 = .ok (.iload_n 3, 1) := by decide +kernel
theorem dX0_wake_14 : decode MX0_wake.2.1 14 = .ok (.invokevirtual 43, 3) := by decide +kernel
theorem dX0_wake_17 : decode MX0_wake.2.1 17 = .ok (.ifCond .ne 30, 3) := by decide +kernel
theorem dX0_wake_20 : decode MX0_wake.2.1 20 = .ok (.aload_n 1, 1) := by decide +kernel
theorem dX0_wake_21 : decode MX0_wake.2.1 21 = .ok (.getfield 47, 3) := by decide +kernel
theorem dX0_wake_24 : decode MX0_wake.2.1 24 = .ok (.iload_n 3, 1) := by decide +kernel
theorem dX0_wake_25 : decode MX0_wake.2.1 25 = .ok (.dup2, 1) := by decide +kernel
theorem dX0_wake_26 : decode MX0_wake.2.1 26 = .ok (.iaload, 1) := by decide +kernel
theorem dX0_wake_27 : decode MX0_wake.2.1 27 = .ok (.iconst 1, 1) := by decide +kernel
theorem dX0_wake_28 : decode MX0_wake.2.1 28 = .ok (.isub, 1) := by decide +kernel
theorem dX0_wake_29 : decode MX0_wake.2.1 29 = .ok (.iastore, 1) := by decide +kernel
theorem dX0_wake_30 : decode MX0_wake.2.1 30 = .ok (.aload_n 1, 1) := by decide +kernel
theorem dX0_wake_31 : decode MX0_wake.2.1 31 = .ok (.iload_n 3, 1) := by decide +kernel
theorem dX0_wake_32 : decode MX0_wake.2.1 32 = .ok (.invokevirtual 43, 3) := by decide +kernel
theorem dX0_wake_35 : decode MX0_wake.2.1 35 = .ok (.ifCond .eq 12, 3) := by decide +kernel
theorem dX0_wake_38 : decode MX0_wake.2.1 38 = .ok (.iinc 2 1, 3) := by decide +kernel
theorem dX0_wake_41 : decode MX0_wake.2.1 41 = .ok (.aload_n 0, 1) := by decide +kernel
theorem dX0_wake_42 : decode MX0_wake.2.1 42 = .ok (.aload_n 1, 1) := by decide +kernel
theorem dX0_wake_43 : decode MX0_wake.2.1 43 = .ok (.iload_n 3, 1) := by decide +kernel
theorem dX0_wake_44 : decode MX0_wake.2.1 44 = .ok (.invokevirtual 85, 3) := by decide +kernel
theorem dX0_wake_47 : decode MX0_wake.2.1 47 = .ok (.iinc 3 1, 3) := by decide +kernel
theorem dX0_wake_50 : decode MX0_wake.2.1 50 = .ok (.goto (-46), 3) := by decide +kernel
theorem dX0_wake_53 : decode MX0_wake.2.1 53 = .ok (.iload_n 2, 1) := by decide +kernel
theorem dX0_wake_54 : decode MX0_wake.2.1 54 = .ok (.ireturn, 1) := by decide +kernel
theorem dX0_lookRound_0 : decode MX0_lookRound.2.1 0 = .ok (.iconst 0, 1) := by decide +kernel
theorem dX0_lookRound_1 : decode MX0_lookRound.2.1 1 = .ok (.istore_n 3, 1) := by decide +kernel
theorem dX0_lookRound_2 : decode MX0_lookRound.2.1 2 = .ok (.iload_n 3, 1) := by decide +kernel
theorem dX0_lookRound_3 : decode MX0_lookRound.2.1 3 = .ok (.aload_n 1, 1) := by decide +kernel
theorem dX0_lookRound_4 : decode MX0_lookRound.2.1 4 = .ok (.getfield 40, 3) := by decide +kernel
theorem dX0_lookRound_7 : decode MX0_lookRound.2.1 7 = .ok (.if_icmp .ge 59, 3) := by decide +kernel
theorem dX0_lookRound_10 : decode MX0_lookRound.2.1 10 = .ok (.iload_n 3, 1) := by decide +kernel
theorem dX0_lookRound_11 : decode MX0_lookRound.2.1 11 = .ok (.aload_n 1, 1) := by decide +kernel
theorem dX0_lookRound_12 : decode MX0_lookRound.2.1 12 = .ok (.getfield 75, 3) := by decide +kernel
theorem dX0_lookRound_15 : decode MX0_lookRound.2.1 15 = .ok (.iload_n 2, 1) := by decide +kernel
theorem dX0_lookRound_16 : decode MX0_lookRound.2.1 16 = .ok (.iaload, 1) := by decide +kernel
theorem dX0_lookRound_17 : decode MX0_lookRound.2.1 17 = .ok (.invokestatic 78, 3) := by decide +kernel
theorem dX0_lookRound_20 : decode MX0_lookRound.2.1 20 = .ok (.ifCond .eq 40, 3) := by decide +kernel
theorem dX0_lookRound_23 : decode MX0_lookRound.2.1 23 = .ok (.iload_n 2, 1) := by decide +kernel
theorem dX0_lookRound_24 : decode MX0_lookRound.2.1 24 = .ok (.iload_n 3, 1) := by decide +kernel
theorem dX0_lookRound_25 : decode MX0_lookRound.2.1 25 = .ok (.invokestatic 50, 3) := by decide +kernel
theorem dX0_lookRound_28 : decode MX0_lookRound.2.1 28 = .ok (.istore 4, 2) := by decide +kernel
theorem dX0_lookRound_30 : decode MX0_lookRound.2.1 30 = .ok (.aload_n 1, 1) := by decide +kernel
theorem dX0_lookRound_31 : decode MX0_lookRound.2.1 31 = .ok (.getfield 89, 3) := by decide +kernel
theorem dX0_lookRound_34 : decode MX0_lookRound.2.1 34 = .ok (.iload 4, 2) := by decide +kernel
theorem dX0_lookRound_36 : decode MX0_lookRound.2.1 36 = .ok (.dup2, 1) := by decide +kernel
theorem dX0_lookRound_37 : decode MX0_lookRound.2.1 37 = .ok (.iaload, 1) := by decide +kernel
theorem dX0_lookRound_38 : decode MX0_lookRound.2.1 38 = .ok (.aload_n 0, 1) := by decide +kernel
theorem dX0_lookRound_39 : decode MX0_lookRound.2.1 39 = .ok (.getfield 9, 3) := by decide +kernel
theorem dX0_lookRound_42 : decode MX0_lookRound.2.1 42 = .ok (.iload_n 3, 1) := by decide +kernel
theorem dX0_lookRound_43 : decode MX0_lookRound.2.1 43 = .ok (.iload_n 2, 1) := by decide +kernel
theorem dX0_lookRound_44 : decode MX0_lookRound.2.1 44 = .ok (.invokestatic 50, 3) := by decide +kernel
theorem dX0_lookRound_47 : decode MX0_lookRound.2.1 47 = .ok (.iaload, 1) := by decide +kernel
theorem dX0_lookRound_48 : decode MX0_lookRound.2.1 48 = .ok (.aload_n 1, 1) := by decide +kernel
theorem dX0_lookRound_49 : decode MX0_lookRound.2.1 49 = .ok (.getfield 89, 3) := by decide +kernel
theorem dX0_lookRound_52 : decode MX0_lookRound.2.1 52 = .ok (.iload 4, 2) := by decide +kernel
theorem dX0_lookRound_54 : decode MX0_lookRound.2.1 54 = .ok (.iaload, 1) := by decide +kernel
theorem dX0_lookRound_55 : decode MX0_lookRound.2.1 55 = .ok (.invokestatic 92, 3) := by decide +kernel
theorem dX0_lookRound_58 : decode MX0_lookRound.2.1 58 = .ok (.iadd, 1) := by decide +kernel
theorem dX0_lookRound_59 : decode MX0_lookRound.2.1 59 = .ok (.iastore, 1) := by decide +kernel
theorem dX0_lookRound_60 : decode MX0_lookRound.2.1 60 = .ok (.iinc 3 1, 3) := by decide +kernel
theorem dX0_lookRound_63 : decode MX0_lookRound.2.1 63 = .ok (.goto (-61), 3) := by decide +kernel
theorem dX0_lookRound_66 : decode MX0_lookRound.2.1 66 = .ok (.return_, 1) := by decide +kernel
theorem dX1_init_0 : decode MX1_init.2.1 0 = .ok (.aload_n 0, 1) := by decide +kernel
theorem dX1_init_1 : decode MX1_init.2.1 1 = .ok (.invokespecial 1, 3) := by decide +kernel
theorem dX1_init_4 : decode MX1_init.2.1 4 = .ok (.return_, 1) := by decide +kernel
theorem dX1_start_0 : decode MX1_start.2.1 0 = .ok (.aload_n 0, 1) := by decide +kernel
theorem dX1_start_1 : decode MX1_start.2.1 1 = .ok (.iload_n 1, 1) := by decide +kernel
theorem dX1_start_2 : decode MX1_start.2.1 2 = .ok (.putfield 7, 3) := by decide +kernel
theorem dX1_start_5 : decode MX1_start.2.1 5 = .ok (.return_, 1) := by decide +kernel
theorem dX1_of_0 : decode MX1_of.2.1 0 = .ok (.aload_n 0, 1) := by decide +kernel
theorem dX1_of_1 : decode MX1_of.2.1 1 = .ok (.aload_n 0, 1) := by decide +kernel
theorem dX1_of_2 : decode MX1_of.2.1 2 = .ok (.getfield 7, 3) := by decide +kernel
theorem dX1_of_5 : decode MX1_of.2.1 5 = .ok (.ldc 13, 2) := by decide +kernel
theorem dX1_of_7 : decode MX1_of.2.1 7 = .ok (.imul, 1) := by decide +kernel
theorem dX1_of_8 : decode MX1_of.2.1 8 = .ok (.sipush 12345, 3) := by decide +kernel
theorem dX1_of_11 : decode MX1_of.2.1 11 = .ok (.iadd, 1) := by decide +kernel
theorem dX1_of_12 : decode MX1_of.2.1 12 = .ok (.putfield 7, 3) := by decide +kernel
theorem dX1_of_15 : decode MX1_of.2.1 15 = .ok (.iload_n 1, 1) := by decide +kernel
theorem dX1_of_16 : decode MX1_of.2.1 16 = .ok (.ifCond .gt 7, 3) := by decide +kernel
theorem dX1_of_19 : decode MX1_of.2.1 19 = .ok (.iconst 0, 1) := by decide +kernel
theorem dX1_of_20 : decode MX1_of.2.1 20 = .ok (.goto 12, 3) := by decide +kernel
theorem dX1_of_23 : decode MX1_of.2.1 23 = .ok (.aload_n 0, 1) := by decide +kernel
theorem dX1_of_24 : decode MX1_of.2.1 24 = .ok (.getfield 7, 3) := by decide +kernel
theorem dX1_of_27 : decode MX1_of.2.1 27 = .ok (.bipush 16, 2) := by decide +kernel
theorem dX1_of_29 : decode MX1_of.2.1 29 = .ok (.iushr, 1) := by decide +kernel
theorem dX1_of_30 : decode MX1_of.2.1 30 = .ok (.iload_n 1, 1) := by decide +kernel
theorem dX1_of_31 : decode MX1_of.2.1 31 = .ok (.irem, 1) := by decide +kernel
theorem dX1_of_32 : decode MX1_of.2.1 32 = .ok (.ireturn, 1) := by decide +kernel
theorem dX2_init_0 : decode MX2_init.2.1 0 = .ok (.aload_n 0, 1) := by decide +kernel
theorem dX2_init_1 : decode MX2_init.2.1 1 = .ok (.invokespecial 3, 3) := by decide +kernel
theorem dX2_init_4 : decode MX2_init.2.1 4 = .ok (.aload_n 0, 1) := by decide +kernel
theorem dX2_init_5 : decode MX2_init.2.1 5 = .ok (.sipush 400, 3) := by decide +kernel
theorem dX2_init_8 : decode MX2_init.2.1 8 = .ok (.newarray .boolean, 2) := by decide +kernel
theorem dX2_init_10 : decode MX2_init.2.1 10 = .ok (.putfield 11, 3) := by decide +kernel
theorem dX2_init_13 : decode MX2_init.2.1 13 = .ok (.aload_n 0, 1) := by decide +kernel
theorem dX2_init_14 : decode MX2_init.2.1 14 = .ok (.bipush 7, 2) := by decide +kernel
theorem dX2_init_16 : decode MX2_init.2.1 16 = .ok (.newarray .long, 2) := by decide +kernel
theorem dX2_init_18 : decode MX2_init.2.1 18 = .ok (.putfield 15, 3) := by decide +kernel
theorem dX2_init_21 : decode MX2_init.2.1 21 = .ok (.aload_n 0, 1) := by decide +kernel
theorem dX2_init_22 : decode MX2_init.2.1 22 = .ok (.bipush 10, 2) := by decide +kernel
theorem dX2_init_24 : decode MX2_init.2.1 24 = .ok (.newarray .int, 2) := by decide +kernel
theorem dX2_init_26 : decode MX2_init.2.1 26 = .ok (.putfield 19, 3) := by decide +kernel
theorem dX2_init_29 : decode MX2_init.2.1 29 = .ok (.return_, 1) := by decide +kernel
theorem dX2_winningTake_0 : decode MX2_winningTake.2.1 0 = .ok (.iload_n 1, 1) := by decide +kernel
theorem dX2_winningTake_1 : decode MX2_winningTake.2.1 1 = .ok (.iconst 1, 1) := by decide +kernel
theorem dX2_winningTake_2 : decode MX2_winningTake.2.1 2 = .ok (.if_icmp .lt 14, 3) := by decide +kernel
theorem dX2_winningTake_5 : decode MX2_winningTake.2.1 5 = .ok (.iload_n 1, 1) := by decide +kernel
theorem dX2_winningTake_6 : decode MX2_winningTake.2.1 6 = .ok (.bipush 99, 2) := by decide +kernel
theorem dX2_winningTake_8 : decode MX2_winningTake.2.1 8 = .ok (.if_icmp .gt 8, 3) := by decide +kernel
theorem dX2_winningTake_11 : decode MX2_winningTake.2.1 11 = .ok (.iload_n 2, 1) := by decide +kernel
theorem dX2_winningTake_12 : decode MX2_winningTake.2.1 12 = .ok (.iconst 2, 1) := by decide +kernel
theorem dX2_winningTake_13 : decode MX2_winningTake.2.1 13 = .ok (.if_icmp .ge 5, 3) := by decide +kernel
theorem dX2_winningTake_16 : decode MX2_winningTake.2.1 16 = .ok (.iconst 0, 1) := by decide +kernel
theorem dX2_winningTake_17 : decode MX2_winningTake.2.1 17 = .ok (.ireturn, 1) := by decide +kernel
theorem dX2_winningTake_18 : decode MX2_winningTake.2.1 18 = .ok (.iconst 0, 1) := by decide +kernel
theorem dX2_winningTake_19 : decode MX2_winningTake.2.1 19 = .ok (.istore_n 3, 1) := by decide +kernel
theorem dX2_winningTake_20 : decode MX2_winningTake.2.1 20 = .ok (.iload_n 3, 1) := by decide +kernel
theorem dX2_winningTake_21 : decode MX2_winningTake.2.1 21 = .ok (.iconst 4, 1) := by decide +kernel
theorem dX2_winningTake_22 : decode MX2_winningTake.2.1 22 = .ok (.if_icmp .ge 16, 3) := by decide +kernel
theorem dX2_winningTake_25 : decode MX2_winningTake.2.1 25 = .ok (.aload_n 0, 1) := by decide +kernel
theorem dX2_winningTake_26 : decode MX2_winningTake.2.1 26 = .ok (.getfield 11, 3) := by decide +kernel
theorem dX2_winningTake_29 : decode MX2_winningTake.2.1 29 = .ok (.iload_n 3, 1) := by decide +kernel
theorem dX2_winningTake_30 : decode MX2_winningTake.2.1 30 = .ok (.iconst 1, 1) := by decide +kernel
theorem dX2_winningTake_31 : decode MX2_winningTake.2.1 31 = .ok (.bastore, 1) := by decide +kernel
theorem dX2_winningTake_32 : decode MX2_winningTake.2.1 32 = .ok (.iinc 3 1, 3) := by decide +kernel
theorem dX2_winningTake_35 : decode MX2_winningTake.2.1 35 = .ok (.goto (-15), 3) := by decide +kernel
theorem dX2_winningTake_38 : decode MX2_winningTake.2.1 38 = .ok (.iconst 1, 1) := by decide +kernel
theorem dX2_winningTake_39 : decode MX2_winningTake.2.1 39 = .ok (.istore_n 3, 1) := by decide +kernel
theorem dX2_winningTake_40 : decode MX2_winningTake.2.1 40 = .ok (.iload_n 3, 1) := by decide +kernel
theorem dX2_winningTake_41 : decode MX2_winningTake.2.1 41 = .ok (.iload_n 1, 1) := by decide +kernel
theorem dX2_winningTake_42 : decode MX2_winningTake.2.1 42 = .ok (.if_icmp .gt 51, 3) := by decide +kernel
theorem dX2_winningTake_45 : decode MX2_winningTake.2.1 45 = .ok (.iconst 0, 1) := by decide +kernel
theorem dX2_winningTake_46 : decode MX2_winningTake.2.1 46 = .ok (.istore 4, 2) := by decide +kernel
theorem dX2_winningTake_48 : decode MX2_winningTake.2.1 48 = .ok (.iload 4, 2) := by decide +kernel
theorem dX2_winningTake_50 : decode MX2_winningTake.2.1 50 = .ok (.iconst 4, 1) := by decide +kernel
theorem dX2_winningTake_51 : decode MX2_winningTake.2.1 51 = .ok (.if_icmp .ge 36, 3) := by decide +kernel
theorem dX2_winningTake_54 : decode MX2_winningTake.2.1 54 = .ok (.aload_n 0, 1) := by decide +kernel
theorem dX2_winningTake_55 : decode MX2_winningTake.2.1 55 = .ok (.getfield 11, 3) := by decide +kernel
theorem dX2_winningTake_58 : decode MX2_winningTake.2.1 58 = .ok (.iload_n 3, 1) := by decide +kernel
theorem dX2_winningTake_59 : decode MX2_winningTake.2.1 59 = .ok (.iconst 4, 1) := by decide +kernel
theorem dX2_winningTake_60 : decode MX2_winningTake.2.1 60 = .ok (.imul, 1) := by decide +kernel
theorem dX2_winningTake_61 : decode MX2_winningTake.2.1 61 = .ok (.iload 4, 2) := by decide +kernel
theorem dX2_winningTake_63 : decode MX2_winningTake.2.1 63 = .ok (.iadd, 1) := by decide +kernel
theorem dX2_winningTake_64 : decode MX2_winningTake.2.1 64 = .ok (.aload_n 0, 1) := by decide +kernel
theorem dX2_winningTake_65 : decode MX2_winningTake.2.1 65 = .ok (.iload_n 3, 1) := by decide +kernel
theorem dX2_winningTake_66 : decode MX2_winningTake.2.1 66 = .ok (.iload 4, 2) := by decide +kernel
theorem dX2_winningTake_68 : decode MX2_winningTake.2.1 68 = .ok (.iload_n 2, 1) := by decide +kernel
theorem dX2_winningTake_69 : decode MX2_winningTake.2.1 69 = .ok (.invokevirtual 23, 3) := by decide +kernel
theorem dX2_winningTake_72 : decode MX2_winningTake.2.1 72 = .ok (.ifCond .le 7, 3) := by decide +kernel
theorem dX2_winningTake_75 : decode MX2_winningTake.2.1 75 = .ok (.iconst 1, 1) := by decide +kernel
theorem dX2_winningTake_76 : decode MX2_winningTake.2.1 76 = .ok (.goto 4, 3) := by decide +kernel
theorem dX2_winningTake_79 : decode MX2_winningTake.2.1 79 = .ok (.iconst 0, 1) := by decide +kernel
theorem dX2_winningTake_80 : decode MX2_winningTake.2.1 80 = .ok (.bastore, 1) := by decide +kernel
theorem dX2_winningTake_81 : decode MX2_winningTake.2.1 81 = .ok (.iinc 4 1, 3) := by decide +kernel
theorem dX2_winningTake_84 : decode MX2_winningTake.2.1 84 = .ok (.goto (-36), 3) := by decide +kernel
theorem dX2_winningTake_87 : decode MX2_winningTake.2.1 87 = .ok (.iinc 3 1, 3) := by decide +kernel
theorem dX2_winningTake_90 : decode MX2_winningTake.2.1 90 = .ok (.goto (-50), 3) := by decide +kernel
theorem dX2_winningTake_93 : decode MX2_winningTake.2.1 93 = .ok (.aload_n 0, 1) := by decide +kernel
theorem dX2_winningTake_94 : decode MX2_winningTake.2.1 94 = .ok (.iload_n 1, 1) := by decide +kernel
theorem dX2_winningTake_95 : decode MX2_winningTake.2.1 95 = .ok (.iconst 3, 1) := by decide +kernel
theorem dX2_winningTake_96 : decode MX2_winningTake.2.1 96 = .ok (.iload_n 2, 1) := by decide +kernel
theorem dX2_winningTake_97 : decode MX2_winningTake.2.1 97 = .ok (.invokevirtual 23, 3) := by decide +kernel
theorem dX2_winningTake_100 : decode MX2_winningTake.2.1 100 = .ok (.ireturn, 1) := by decide +kernel
theorem dX2_leastTake_0 : decode MX2_leastTake.2.1 0 = .ok (.iload_n 2, 1) := by decide +kernel
theorem dX2_leastTake_1 : decode MX2_leastTake.2.1 1 = .ok (.iconst 2, 1) := by decide +kernel
theorem dX2_leastTake_2 : decode MX2_leastTake.2.1 2 = .ok (.irem, 1) := by decide +kernel
theorem dX2_leastTake_3 : decode MX2_leastTake.2.1 3 = .ok (.iconst 2, 1) := by decide +kernel
theorem dX2_leastTake_4 : decode MX2_leastTake.2.1 4 = .ok (.imul, 1) := by decide +kernel
theorem dX2_leastTake_5 : decode MX2_leastTake.2.1 5 = .ok (.iload_n 2, 1) := by decide +kernel
theorem dX2_leastTake_6 : decode MX2_leastTake.2.1 6 = .ok (.iconst 2, 1) := by decide +kernel
theorem dX2_leastTake_7 : decode MX2_leastTake.2.1 7 = .ok (.idiv, 1) := by decide +kernel
theorem dX2_leastTake_8 : decode MX2_leastTake.2.1 8 = .ok (.iadd, 1) := by decide +kernel
theorem dX2_leastTake_9 : decode MX2_leastTake.2.1 9 = .ok (.istore 4, 2) := by decide +kernel
theorem dX2_leastTake_11 : decode MX2_leastTake.2.1 11 = .ok (.aload_n 0, 1) := by decide +kernel
theorem dX2_leastTake_12 : decode MX2_leastTake.2.1 12 = .ok (.iload_n 1, 1) := by decide +kernel
theorem dX2_leastTake_13 : decode MX2_leastTake.2.1 13 = .ok (.iconst 1, 1) := by decide +kernel
theorem dX2_leastTake_14 : decode MX2_leastTake.2.1 14 = .ok (.isub, 1) := by decide +kernel
theorem dX2_leastTake_15 : decode MX2_leastTake.2.1 15 = .ok (.iload 4, 2) := by decide +kernel
theorem dX2_leastTake_17 : decode MX2_leastTake.2.1 17 = .ok (.invokevirtual 27, 3) := by decide +kernel
theorem dX2_leastTake_20 : decode MX2_leastTake.2.1 20 = .ok (.ifCond .eq 5, 3) := by decide +kernel
theorem dX2_leastTake_23 : decode MX2_leastTake.2.1 23 = .ok (.iconst 1, 1) := by decide +kernel
theorem dX2_leastTake_24 : decode MX2_leastTake.2.1 24 = .ok (.ireturn, 1) := by decide +kernel
theorem dX2_leastTake_25 : decode MX2_leastTake.2.1 25 = .ok (.iload_n 1, 1) := by decide +kernel
theorem dX2_leastTake_26 : decode MX2_leastTake.2.1 26 = .ok (.iconst 2, 1) := by decide +kernel
theorem dX2_leastTake_27 : decode MX2_leastTake.2.1 27 = .ok (.idiv, 1) := by decide +kernel
theorem dX2_leastTake_28 : decode MX2_leastTake.2.1 28 = .ok (.istore 5, 2) := by decide +kernel
theorem dX2_leastTake_30 : decode MX2_leastTake.2.1 30 = .ok (.iload 5, 2) := by decide +kernel
theorem dX2_leastTake_32 : decode MX2_leastTake.2.1 32 = .ok (.ifCond .le 20, 3) := by decide +kernel
theorem dX2_leastTake_35 : decode MX2_leastTake.2.1 35 = .ok (.aload_n 0, 1) := by decide +kernel
theorem dX2_leastTake_36 : decode MX2_leastTake.2.1 36 = .ok (.iload_n 1, 1) := by decide +kernel
theorem dX2_leastTake_37 : decode MX2_leastTake.2.1 37 = .ok (.iload 5, 2) := by decide +kernel
theorem dX2_leastTake_39 : decode MX2_leastTake.2.1 39 = .ok (.isub, 1) := by decide +kernel
theorem dX2_leastTake_40 : decode MX2_leastTake.2.1 40 = .ok (.iload 4, 2) := by decide +kernel
theorem dX2_leastTake_42 : decode MX2_leastTake.2.1 42 = .ok (.invokevirtual 27, 3) := by decide +kernel
theorem dX2_leastTake_45 : decode MX2_leastTake.2.1 45 = .ok (.ifCond .eq 7, 3) := by decide +kernel
theorem dX2_leastTake_48 : decode MX2_leastTake.2.1 48 = .ok (.iconst 1, 1) := by decide +kernel
theorem dX2_leastTake_49 : decode MX2_leastTake.2.1 49 = .ok (.goto 4, 3) := by decide +kernel
theorem dX2_leastTake_52 : decode MX2_leastTake.2.1 52 = .ok (.iconst 0, 1) := by decide +kernel
theorem dX2_leastTake_53 : decode MX2_leastTake.2.1 53 = .ok (.istore 6, 2) := by decide +kernel
theorem dX2_leastTake_55 : decode MX2_leastTake.2.1 55 = .ok (.iload_n 2, 1) := by decide +kernel
theorem dX2_leastTake_56 : decode MX2_leastTake.2.1 56 = .ok (.iconst 2, 1) := by decide +kernel
theorem dX2_leastTake_57 : decode MX2_leastTake.2.1 57 = .ok (.if_icmp .lt 27, 3) := by decide +kernel
theorem dX2_leastTake_60 : decode MX2_leastTake.2.1 60 = .ok (.iload_n 1, 1) := by decide +kernel
theorem dX2_leastTake_61 : decode MX2_leastTake.2.1 61 = .ok (.iload_n 3, 1) := by decide +kernel
theorem dX2_leastTake_62 : decode MX2_leastTake.2.1 62 = .ok (.if_icmp .lt 22, 3) := by decide +kernel
theorem dX2_leastTake_65 : decode MX2_leastTake.2.1 65 = .ok (.aload_n 0, 1) := by decide +kernel
theorem dX2_leastTake_66 : decode MX2_leastTake.2.1 66 = .ok (.iload_n 1, 1) := by decide +kernel
theorem dX2_leastTake_67 : decode MX2_leastTake.2.1 67 = .ok (.iload_n 3, 1) := by decide +kernel
theorem dX2_leastTake_68 : decode MX2_leastTake.2.1 68 = .ok (.isub, 1) := by decide +kernel
theorem dX2_leastTake_69 : decode MX2_leastTake.2.1 69 = .ok (.iload_n 2, 1) := by decide +kernel
theorem dX2_leastTake_70 : decode MX2_leastTake.2.1 70 = .ok (.iconst 2, 1) := by decide +kernel
theorem dX2_leastTake_71 : decode MX2_leastTake.2.1 71 = .ok (.irem, 1) := by decide +kernel
theorem dX2_leastTake_72 : decode MX2_leastTake.2.1 72 = .ok (.iconst 2, 1) := by decide +kernel
theorem dX2_leastTake_73 : decode MX2_leastTake.2.1 73 = .ok (.imul, 1) := by decide +kernel
theorem dX2_leastTake_74 : decode MX2_leastTake.2.1 74 = .ok (.invokevirtual 27, 3) := by decide +kernel
theorem dX2_leastTake_77 : decode MX2_leastTake.2.1 77 = .ok (.ifCond .eq 7, 3) := by decide +kernel
theorem dX2_leastTake_80 : decode MX2_leastTake.2.1 80 = .ok (.iconst 1, 1) := by decide +kernel
theorem dX2_leastTake_81 : decode MX2_leastTake.2.1 81 = .ok (.goto 4, 3) := by decide +kernel
theorem dX2_leastTake_84 : decode MX2_leastTake.2.1 84 = .ok (.iconst 0, 1) := by decide +kernel
theorem dX2_leastTake_85 : decode MX2_leastTake.2.1 85 = .ok (.istore 7, 2) := by decide +kernel
theorem dX2_leastTake_87 : decode MX2_leastTake.2.1 87 = .ok (.iload 6, 2) := by decide +kernel
theorem dX2_leastTake_89 : decode MX2_leastTake.2.1 89 = .ok (.ifCond .eq 15, 3) := by decide +kernel
theorem dX2_leastTake_92 : decode MX2_leastTake.2.1 92 = .ok (.iload 7, 2) := by decide +kernel
theorem dX2_leastTake_94 : decode MX2_leastTake.2.1 94 = .ok (.ifCond .eq 10, 3) := by decide +kernel
theorem dX2_leastTake_97 : decode MX2_leastTake.2.1 97 = .ok (.iload 5, 2) := by decide +kernel
theorem dX2_leastTake_99 : decode MX2_leastTake.2.1 99 = .ok (.iload_n 3, 1) := by decide +kernel
theorem dX2_leastTake_100 : decode MX2_leastTake.2.1 100 = .ok (.invokestatic 31, 3) := by decide +kernel
theorem dX2_leastTake_103 : decode MX2_leastTake.2.1 103 = .ok (.ireturn, 1) := by decide +kernel
theorem dX2_leastTake_104 : decode MX2_leastTake.2.1 104 = .ok (.iload 6, 2) := by decide +kernel
theorem dX2_leastTake_106 : decode MX2_leastTake.2.1 106 = .ok (.ifCond .eq 6, 3) := by decide +kernel
theorem dX2_leastTake_109 : decode MX2_leastTake.2.1 109 = .ok (.iload 5, 2) := by decide +kernel
theorem dX2_leastTake_111 : decode MX2_leastTake.2.1 111 = .ok (.ireturn, 1) := by decide +kernel
theorem dX2_leastTake_112 : decode MX2_leastTake.2.1 112 = .ok (.iload 7, 2) := by decide +kernel
theorem dX2_leastTake_114 : decode MX2_leastTake.2.1 114 = .ok (.ifCond .eq 7, 3) := by decide +kernel
theorem dX2_leastTake_117 : decode MX2_leastTake.2.1 117 = .ok (.iload_n 3, 1) := by decide +kernel
theorem dX2_leastTake_118 : decode MX2_leastTake.2.1 118 = .ok (.goto 4, 3) := by decide +kernel
theorem dX2_leastTake_121 : decode MX2_leastTake.2.1 121 = .ok (.iconst 0, 1) := by decide +kernel
theorem dX2_leastTake_122 : decode MX2_leastTake.2.1 122 = .ok (.ireturn, 1) := by decide +kernel
theorem dX2_loses_0 : decode MX2_loses.2.1 0 = .ok (.iload_n 1, 1) := by decide +kernel
theorem dX2_loses_1 : decode MX2_loses.2.1 1 = .ok (.iconst 4, 1) := by decide +kernel
theorem dX2_loses_2 : decode MX2_loses.2.1 2 = .ok (.imul, 1) := by decide +kernel
theorem dX2_loses_3 : decode MX2_loses.2.1 3 = .ok (.iload_n 2, 1) := by decide +kernel
theorem dX2_loses_4 : decode MX2_loses.2.1 4 = .ok (.iadd, 1) := by decide +kernel
theorem dX2_loses_5 : decode MX2_loses.2.1 5 = .ok (.istore_n 3, 1) := by decide +kernel
theorem dX2_loses_6 : decode MX2_loses.2.1 6 = .ok (.iload_n 3, 1) := by decide +kernel
theorem dX2_loses_7 : decode MX2_loses.2.1 7 = .ok (.ifCond .lt 25, 3) := by decide +kernel
theorem dX2_loses_10 : decode MX2_loses.2.1 10 = .ok (.iload_n 3, 1) := by decide +kernel
theorem dX2_loses_11 : decode MX2_loses.2.1 11 = .ok (.aload_n 0, 1) := by decide +kernel
theorem dX2_loses_12 : decode MX2_loses.2.1 12 = .ok (.getfield 11, 3) := by decide +kernel
theorem dX2_loses_15 : decode MX2_loses.2.1 15 = .ok (.arraylength, 1) := by decide +kernel
theorem dX2_loses_16 : decode MX2_loses.2.1 16 = .ok (.if_icmp .ge 16, 3) := by decide +kernel
theorem dX2_loses_19 : decode MX2_loses.2.1 19 = .ok (.aload_n 0, 1) := by decide +kernel
theorem dX2_loses_20 : decode MX2_loses.2.1 20 = .ok (.getfield 11, 3) := by decide +kernel
theorem dX2_loses_23 : decode MX2_loses.2.1 23 = .ok (.iload_n 3, 1) := by decide +kernel
theorem dX2_loses_24 : decode MX2_loses.2.1 24 = .ok (.baload, 1) := by decide +kernel
theorem dX2_loses_25 : decode MX2_loses.2.1 25 = .ok (.ifCond .ne 7, 3) := by decide +kernel
theorem dX2_loses_28 : decode MX2_loses.2.1 28 = .ok (.iconst 1, 1) := by decide +kernel
theorem dX2_loses_29 : decode MX2_loses.2.1 29 = .ok (.goto 4, 3) := by decide +kernel
theorem dX2_loses_32 : decode MX2_loses.2.1 32 = .ok (.iconst 0, 1) := by decide +kernel
theorem dX2_loses_33 : decode MX2_loses.2.1 33 = .ok (.ireturn, 1) := by decide +kernel
theorem dX2_quietChance_0 : decode MX2_quietChance.2.1 0 = .ok (.iconst 0, 1) := by decide +kernel
theorem dX2_quietChance_1 : decode MX2_quietChance.2.1 1 = .ok (.istore 5, 2) := by decide +kernel
theorem dX2_quietChance_3 : decode MX2_quietChance.2.1 3 = .ok (.iload 5, 2) := by decide +kernel
theorem dX2_quietChance_5 : decode MX2_quietChance.2.1 5 = .ok (.bipush 6, 2) := by decide +kernel
theorem dX2_quietChance_7 : decode MX2_quietChance.2.1 7 = .ok (.if_icmp .gt 26, 3) := by decide +kernel
theorem dX2_quietChance_10 : decode MX2_quietChance.2.1 10 = .ok (.aload_n 0, 1) := by decide +kernel
theorem dX2_quietChance_11 : decode MX2_quietChance.2.1 11 = .ok (.getfield 15, 3) := by decide +kernel
theorem dX2_quietChance_14 : decode MX2_quietChance.2.1 14 = .ok (.iload 5, 2) := by decide +kernel
theorem dX2_quietChance_16 : decode MX2_quietChance.2.1 16 = .ok (.iload 5, 2) := by decide +kernel
theorem dX2_quietChance_18 : decode MX2_quietChance.2.1 18 = .ok (.ifCond .ne 7, 3) := by decide +kernel
theorem dX2_quietChance_21 : decode MX2_quietChance.2.1 21 = .ok (.lconst 1, 1) := by decide +kernel
theorem dX2_quietChance_22 : decode MX2_quietChance.2.1 22 = .ok (.goto 4, 3) := by decide +kernel
theorem dX2_quietChance_25 : decode MX2_quietChance.2.1 25 = .ok (.lconst 0, 1) := by decide +kernel
theorem dX2_quietChance_26 : decode MX2_quietChance.2.1 26 = .ok (.lastore, 1) := by decide +kernel
theorem dX2_quietChance_27 : decode MX2_quietChance.2.1 27 = .ok (.iinc 5 1, 3) := by decide +kernel
theorem dX2_quietChance_30 : decode MX2_quietChance.2.1 30 = .ok (.goto (-27), 3) := by decide +kernel
theorem dX2_quietChance_33 : decode MX2_quietChance.2.1 33 = .ok (.lconst 1, 1) := by decide +kernel
theorem dX2_quietChance_34 : decode MX2_quietChance.2.1 34 = .ok (.lstore 5, 2) := by decide +kernel
theorem dX2_quietChance_36 : decode MX2_quietChance.2.1 36 = .ok (.iconst 0, 1) := by decide +kernel
theorem dX2_quietChance_37 : decode MX2_quietChance.2.1 37 = .ok (.istore 7, 2) := by decide +kernel
theorem dX2_quietChance_39 : decode MX2_quietChance.2.1 39 = .ok (.iload 7, 2) := by decide +kernel
theorem dX2_quietChance_41 : decode MX2_quietChance.2.1 41 = .ok (.aload_n 1, 1) := by decide +kernel
theorem dX2_quietChance_42 : decode MX2_quietChance.2.1 42 = .ok (.getfield 37, 3) := by decide +kernel
theorem dX2_quietChance_45 : decode MX2_quietChance.2.1 45 = .ok (.if_icmp .ge 68, 3) := by decide +kernel
theorem dX2_quietChance_48 : decode MX2_quietChance.2.1 48 = .ok (.aload_n 1, 1) := by decide +kernel
theorem dX2_quietChance_49 : decode MX2_quietChance.2.1 49 = .ok (.iload 7, 2) := by decide +kernel
theorem dX2_quietChance_51 : decode MX2_quietChance.2.1 51 = .ok (.invokevirtual 43, 3) := by decide +kernel
theorem dX2_quietChance_54 : decode MX2_quietChance.2.1 54 = .ok (.ifCond .ne 53, 3) := by decide +kernel
theorem dX2_quietChance_57 : decode MX2_quietChance.2.1 57 = .ok (.aload_n 0, 1) := by decide +kernel
theorem dX2_quietChance_58 : decode MX2_quietChance.2.1 58 = .ok (.bipush 10, 2) := by decide +kernel
theorem dX2_quietChance_60 : decode MX2_quietChance.2.1 60 = .ok (.iload_n 3, 1) := by decide +kernel
theorem dX2_quietChance_61 : decode MX2_quietChance.2.1 61 = .ok (.isub, 1) := by decide +kernel
theorem dX2_quietChance_62 : decode MX2_quietChance.2.1 62 = .ok (.i2l, 1) := by decide +kernel
theorem dX2_quietChance_63 : decode MX2_quietChance.2.1 63 = .ok (.aload_n 1, 1) := by decide +kernel
theorem dX2_quietChance_64 : decode MX2_quietChance.2.1 64 = .ok (.getfield 47, 3) := by decide +kernel
theorem dX2_quietChance_67 : decode MX2_quietChance.2.1 67 = .ok (.iload 7, 2) := by decide +kernel
theorem dX2_quietChance_69 : decode MX2_quietChance.2.1 69 = .ok (.iaload, 1) := by decide +kernel
theorem dX2_quietChance_70 : decode MX2_quietChance.2.1 70 = .ok (.invokestatic 50, 3) := by decide +kernel
theorem dX2_quietChance_73 : decode MX2_quietChance.2.1 73 = .ok (.ldc2_w 54, 3) := by decide +kernel
theorem dX2_quietChance_76 : decode MX2_quietChance.2.1 76 = .ok (.aload_n 1, 1) := by decide +kernel
theorem dX2_quietChance_77 : decode MX2_quietChance.2.1 77 = .ok (.getfield 47, 3) := by decide +kernel
theorem dX2_quietChance_80 : decode MX2_quietChance.2.1 80 = .ok (.iload 7, 2) := by decide +kernel
theorem dX2_quietChance_82 : decode MX2_quietChance.2.1 82 = .ok (.iaload, 1) := by decide +kernel
theorem dX2_quietChance_83 : decode MX2_quietChance.2.1 83 = .ok (.invokestatic 50, 3) := by decide +kernel
theorem dX2_quietChance_86 : decode MX2_quietChance.2.1 86 = .ok (.invokevirtual 56, 3) := by decide +kernel
theorem dX2_quietChance_89 : decode MX2_quietChance.2.1 89 = .ok (.lload 5, 2) := by decide +kernel
theorem dX2_quietChance_91 : decode MX2_quietChance.2.1 91 = .ok (.ldc2_w 54, 3) := by decide +kernel
theorem dX2_quietChance_94 : decode MX2_quietChance.2.1 94 = .ok (.aload_n 1, 1) := by decide +kernel
theorem dX2_quietChance_95 : decode MX2_quietChance.2.1 95 = .ok (.getfield 47, 3) := by decide +kernel
theorem dX2_quietChance_98 : decode MX2_quietChance.2.1 98 = .ok (.iload 7, 2) := by decide +kernel
theorem dX2_quietChance_100 : decode MX2_quietChance.2.1 100 = .ok (.iaload, 1) := by decide +kernel
theorem dX2_quietChance_101 : decode MX2_quietChance.2.1 101 = .ok (.invokestatic 50, 3) := by decide +kernel
theorem dX2_quietChance_104 : decode MX2_quietChance.2.1 104 = .ok (.lmul, 1) := by decide +kernel
theorem dX2_quietChance_105 : decode MX2_quietChance.2.1 105 = .ok (.lstore 5, 2) := by decide +kernel
theorem dX2_quietChance_107 : decode MX2_quietChance.2.1 107 = .ok (.iinc 7 1, 3) := by decide +kernel
theorem dX2_quietChance_110 : decode MX2_quietChance.2.1 110 = .ok (.goto (-71), 3) := by decide +kernel
theorem dX2_quietChance_113 : decode MX2_quietChance.2.1 113 = .ok (.lconst 0, 1) := by decide +kernel
theorem dX2_quietChance_114 : decode MX2_quietChance.2.1 114 = .ok (.lstore 7, 2) := by decide +kernel
theorem dX2_quietChance_116 : decode MX2_quietChance.2.1 116 = .ok (.iload_n 2, 1) := by decide +kernel
theorem dX2_quietChance_117 : decode MX2_quietChance.2.1 117 = .ok (.iconst 0, 1) := by decide +kernel
theorem dX2_quietChance_118 : decode MX2_quietChance.2.1 118 = .ok (.invokestatic 60, 3) := by decide +kernel
theorem dX2_quietChance_121 : decode MX2_quietChance.2.1 121 = .ok (.istore 9, 2) := by decide +kernel
theorem dX2_quietChance_123 : decode MX2_quietChance.2.1 123 = .ok (.iload 9, 2) := by decide +kernel
theorem dX2_quietChance_125 : decode MX2_quietChance.2.1 125 = .ok (.bipush 6, 2) := by decide +kernel
theorem dX2_quietChance_127 : decode MX2_quietChance.2.1 127 = .ok (.if_icmp .gt 21, 3) := by decide +kernel
theorem dX2_quietChance_130 : decode MX2_quietChance.2.1 130 = .ok (.lload 7, 2) := by decide +kernel
theorem dX2_quietChance_132 : decode MX2_quietChance.2.1 132 = .ok (.aload_n 0, 1) := by decide +kernel
theorem dX2_quietChance_133 : decode MX2_quietChance.2.1 133 = .ok (.getfield 15, 3) := by decide +kernel
theorem dX2_quietChance_136 : decode MX2_quietChance.2.1 136 = .ok (.iload 9, 2) := by decide +kernel
theorem dX2_quietChance_138 : decode MX2_quietChance.2.1 138 = .ok (.laload, 1) := by decide +kernel
theorem dX2_quietChance_139 : decode MX2_quietChance.2.1 139 = .ok (.ladd, 1) := by decide +kernel
theorem dX2_quietChance_140 : decode MX2_quietChance.2.1 140 = .ok (.lstore 7, 2) := by decide +kernel
theorem dX2_quietChance_142 : decode MX2_quietChance.2.1 142 = .ok (.iinc 9 1, 3) := by decide +kernel
theorem dX2_quietChance_145 : decode MX2_quietChance.2.1 145 = .ok (.goto (-22), 3) := by decide +kernel
theorem dX2_quietChance_148 : decode MX2_quietChance.2.1 148 = .ok (.lload 7, 2) := by decide +kernel
theorem dX2_quietChance_150 : decode MX2_quietChance.2.1 150 = .ok (.lload 5, 2) := by decide +kernel
theorem dX2_quietChance_152 : decode MX2_quietChance.2.1 152 = .ok (.invokestatic 63, 3) := by decide +kernel
theorem dX2_quietChance_155 : decode MX2_quietChance.2.1 155 = .ok (.lstore 9, 2) := by decide +kernel
theorem dX2_quietChance_157 : decode MX2_quietChance.2.1 157 = .ok (.aload 4, 2) := by decide +kernel
theorem dX2_quietChance_159 : decode MX2_quietChance.2.1 159 = .ok (.lload 7, 2) := by decide +kernel
theorem dX2_quietChance_161 : decode MX2_quietChance.2.1 161 = .ok (.lload 9, 2) := by decide +kernel
theorem dX2_quietChance_163 : decode MX2_quietChance.2.1 163 = .ok (.ldiv, 1) := by decide +kernel
theorem dX2_quietChance_164 : decode MX2_quietChance.2.1 164 = .ok (.lload 5, 2) := by decide +kernel
theorem dX2_quietChance_166 : decode MX2_quietChance.2.1 166 = .ok (.lload 9, 2) := by decide +kernel
theorem dX2_quietChance_168 : decode MX2_quietChance.2.1 168 = .ok (.ldiv, 1) := by decide +kernel
theorem dX2_quietChance_169 : decode MX2_quietChance.2.1 169 = .ok (.invokevirtual 67, 3) := by decide +kernel
theorem dX2_quietChance_172 : decode MX2_quietChance.2.1 172 = .ok (.return_, 1) := by decide +kernel
theorem dX2_addQuiet_0 : decode MX2_addQuiet.2.1 0 = .ok (.bipush 6, 2) := by decide +kernel
theorem dX2_addQuiet_2 : decode MX2_addQuiet.2.1 2 = .ok (.istore 5, 2) := by decide +kernel
theorem dX2_addQuiet_4 : decode MX2_addQuiet.2.1 4 = .ok (.iload 5, 2) := by decide +kernel
theorem dX2_addQuiet_6 : decode MX2_addQuiet.2.1 6 = .ok (.ifCond .lt 52, 3) := by decide +kernel
theorem dX2_addQuiet_9 : decode MX2_addQuiet.2.1 9 = .ok (.iload 5, 2) := by decide +kernel
theorem dX2_addQuiet_11 : decode MX2_addQuiet.2.1 11 = .ok (.ifCond .le 15, 3) := by decide +kernel
theorem dX2_addQuiet_14 : decode MX2_addQuiet.2.1 14 = .ok (.aload_n 0, 1) := by decide +kernel
theorem dX2_addQuiet_15 : decode MX2_addQuiet.2.1 15 = .ok (.getfield 15, 3) := by decide +kernel
theorem dX2_addQuiet_18 : decode MX2_addQuiet.2.1 18 = .ok (.iload 5, 2) := by decide +kernel
theorem dX2_addQuiet_20 : decode MX2_addQuiet.2.1 20 = .ok (.iconst 1, 1) := by decide +kernel
theorem dX2_addQuiet_21 : decode MX2_addQuiet.2.1 21 = .ok (.isub, 1) := by decide +kernel
theorem dX2_addQuiet_22 : decode MX2_addQuiet.2.1 22 = .ok (.laload, 1) := by decide +kernel
theorem dX2_addQuiet_23 : decode MX2_addQuiet.2.1 23 = .ok (.goto 4, 3) := by decide +kernel
theorem dX2_addQuiet_26 : decode MX2_addQuiet.2.1 26 = .ok (.lconst 0, 1) := by decide +kernel
theorem dX2_addQuiet_27 : decode MX2_addQuiet.2.1 27 = .ok (.lstore 6, 2) := by decide +kernel
theorem dX2_addQuiet_29 : decode MX2_addQuiet.2.1 29 = .ok (.aload_n 0, 1) := by decide +kernel
theorem dX2_addQuiet_30 : decode MX2_addQuiet.2.1 30 = .ok (.getfield 15, 3) := by decide +kernel
theorem dX2_addQuiet_33 : decode MX2_addQuiet.2.1 33 = .ok (.iload 5, 2) := by decide +kernel
theorem dX2_addQuiet_35 : decode MX2_addQuiet.2.1 35 = .ok (.aload_n 0, 1) := by decide +kernel
theorem dX2_addQuiet_36 : decode MX2_addQuiet.2.1 36 = .ok (.getfield 15, 3) := by decide +kernel
theorem dX2_addQuiet_39 : decode MX2_addQuiet.2.1 39 = .ok (.iload 5, 2) := by decide +kernel
theorem dX2_addQuiet_41 : decode MX2_addQuiet.2.1 41 = .ok (.laload, 1) := by decide +kernel
theorem dX2_addQuiet_42 : decode MX2_addQuiet.2.1 42 = .ok (.lload_n 3, 1) := by decide +kernel
theorem dX2_addQuiet_43 : decode MX2_addQuiet.2.1 43 = .ok (.lload_n 1, 1) := by decide +kernel
theorem dX2_addQuiet_44 : decode MX2_addQuiet.2.1 44 = .ok (.lsub, 1) := by decide +kernel
theorem dX2_addQuiet_45 : decode MX2_addQuiet.2.1 45 = .ok (.lmul, 1) := by decide +kernel
theorem dX2_addQuiet_46 : decode MX2_addQuiet.2.1 46 = .ok (.lload 6, 2) := by decide +kernel
theorem dX2_addQuiet_48 : decode MX2_addQuiet.2.1 48 = .ok (.lload_n 1, 1) := by decide +kernel
theorem dX2_addQuiet_49 : decode MX2_addQuiet.2.1 49 = .ok (.lmul, 1) := by decide +kernel
theorem dX2_addQuiet_50 : decode MX2_addQuiet.2.1 50 = .ok (.ladd, 1) := by decide +kernel
theorem dX2_addQuiet_51 : decode MX2_addQuiet.2.1 51 = .ok (.lastore, 1) := by decide +kernel
theorem dX2_addQuiet_52 : decode MX2_addQuiet.2.1 52 = .ok (.iinc 5 (-1), 3) := by decide +kernel
theorem dX2_addQuiet_55 : decode MX2_addQuiet.2.1 55 = .ok (.goto (-51), 3) := by decide +kernel
theorem dX2_addQuiet_58 : decode MX2_addQuiet.2.1 58 = .ok (.return_, 1) := by decide +kernel
theorem dX2_power_0 : decode MX2_power.2.1 0 = .ok (.lconst 1, 1) := by decide +kernel
theorem dX2_power_1 : decode MX2_power.2.1 1 = .ok (.lstore_n 3, 1) := by decide +kernel
theorem dX2_power_2 : decode MX2_power.2.1 2 = .ok (.iconst 0, 1) := by decide +kernel
theorem dX2_power_3 : decode MX2_power.2.1 3 = .ok (.istore 5, 2) := by decide +kernel
theorem dX2_power_5 : decode MX2_power.2.1 5 = .ok (.iload 5, 2) := by decide +kernel
theorem dX2_power_7 : decode MX2_power.2.1 7 = .ok (.iload_n 2, 1) := by decide +kernel
theorem dX2_power_8 : decode MX2_power.2.1 8 = .ok (.if_icmp .ge 13, 3) := by decide +kernel
theorem dX2_power_11 : decode MX2_power.2.1 11 = .ok (.lload_n 3, 1) := by decide +kernel
theorem dX2_power_12 : decode MX2_power.2.1 12 = .ok (.lload_n 0, 1) := by decide +kernel
theorem dX2_power_13 : decode MX2_power.2.1 13 = .ok (.lmul, 1) := by decide +kernel
theorem dX2_power_14 : decode MX2_power.2.1 14 = .ok (.lstore_n 3, 1) := by decide +kernel
theorem dX2_power_15 : decode MX2_power.2.1 15 = .ok (.iinc 5 1, 3) := by decide +kernel
theorem dX2_power_18 : decode MX2_power.2.1 18 = .ok (.goto (-13), 3) := by decide +kernel
theorem dX2_power_21 : decode MX2_power.2.1 21 = .ok (.lload_n 3, 1) := by decide +kernel
theorem dX2_power_22 : decode MX2_power.2.1 22 = .ok (.lreturn, 1) := by decide +kernel
theorem dX2_commonDivisor_0 : decode MX2_commonDivisor.2.1 0 = .ok (.lload_n 0, 1) := by decide +kernel
theorem dX2_commonDivisor_1 : decode MX2_commonDivisor.2.1 1 = .ok (.lstore 4, 2) := by decide +kernel
theorem dX2_commonDivisor_3 : decode MX2_commonDivisor.2.1 3 = .ok (.lload_n 2, 1) := by decide +kernel
theorem dX2_commonDivisor_4 : decode MX2_commonDivisor.2.1 4 = .ok (.lstore 6, 2) := by decide +kernel
theorem dX2_commonDivisor_6 : decode MX2_commonDivisor.2.1 6 = .ok (.iconst 0, 1) := by decide +kernel
theorem dX2_commonDivisor_7 : decode MX2_commonDivisor.2.1 7 = .ok (.istore 8, 2) := by decide +kernel
theorem dX2_commonDivisor_9 : decode MX2_commonDivisor.2.1 9 = .ok (.iload 8, 2) := by decide +kernel
theorem dX2_commonDivisor_11 : decode MX2_commonDivisor.2.1 11 = .ok (.sipush 200, 3) := by decide +kernel
theorem dX2_commonDivisor_14 : decode MX2_commonDivisor.2.1 14 = .ok (.if_icmp .ge 31, 3) := by decide +kernel
theorem dX2_commonDivisor_17 : decode MX2_commonDivisor.2.1 17 = .ok (.lload 6, 2) := by decide +kernel
theorem dX2_commonDivisor_19 : decode MX2_commonDivisor.2.1 19 = .ok (.lconst 0, 1) := by decide +kernel
theorem dX2_commonDivisor_20 : decode MX2_commonDivisor.2.1 20 = .ok (.lcmp, 1) := by decide +kernel
theorem dX2_commonDivisor_21 : decode MX2_commonDivisor.2.1 21 = .ok (.ifCond .eq 24, 3) := by decide +kernel
theorem dX2_commonDivisor_24 : decode MX2_commonDivisor.2.1 24 = .ok (.lload 4, 2) := by decide +kernel
theorem dX2_commonDivisor_26 : decode MX2_commonDivisor.2.1 26 = .ok (.lload 6, 2) := by decide +kernel
theorem dX2_commonDivisor_28 : decode MX2_commonDivisor.2.1 28 = .ok (.lrem, 1) := by decide +kernel
theorem dX2_commonDivisor_29 : decode MX2_commonDivisor.2.1 29 = .ok (.lstore 9, 2) := by decide +kernel
theorem dX2_commonDivisor_31 : decode MX2_commonDivisor.2.1 31 = .ok (.lload 6, 2) := by decide +kernel
theorem dX2_commonDivisor_33 : decode MX2_commonDivisor.2.1 33 = .ok (.lstore 4, 2) := by decide +kernel
theorem dX2_commonDivisor_35 : decode MX2_commonDivisor.2.1 35 = .ok (.lload 9, 2) := by decide +kernel
theorem dX2_commonDivisor_37 : decode MX2_commonDivisor.2.1 37 = .ok (.lstore 6, 2) := by decide +kernel
theorem dX2_commonDivisor_39 : decode MX2_commonDivisor.2.1 39 = .ok (.iinc 8 1, 3) := by decide +kernel
theorem dX2_commonDivisor_42 : decode MX2_commonDivisor.2.1 42 = .ok (.goto (-33), 3) := by decide +kernel
theorem dX2_commonDivisor_45 : decode MX2_commonDivisor.2.1 45 = .ok (.lconst 1, 1) := by decide +kernel
theorem dX2_commonDivisor_46 : decode MX2_commonDivisor.2.1 46 = .ok (.lload 4, 2) := by decide +kernel
theorem dX2_commonDivisor_48 : decode MX2_commonDivisor.2.1 48 = .ok (.invokestatic 72, 3) := by decide +kernel
theorem dX2_commonDivisor_51 : decode MX2_commonDivisor.2.1 51 = .ok (.lreturn, 1) := by decide +kernel
theorem dX2_restingPairs_0 : decode MX2_restingPairs.2.1 0 = .ok (.iconst 0, 1) := by decide +kernel
theorem dX2_restingPairs_1 : decode MX2_restingPairs.2.1 1 = .ok (.istore 4, 2) := by decide +kernel
theorem dX2_restingPairs_3 : decode MX2_restingPairs.2.1 3 = .ok (.iload 4, 2) := by decide +kernel
theorem dX2_restingPairs_5 : decode MX2_restingPairs.2.1 5 = .ok (.bipush 9, 2) := by decide +kernel
theorem dX2_restingPairs_7 : decode MX2_restingPairs.2.1 7 = .ok (.if_icmp .gt 66, 3) := by decide +kernel
theorem dX2_restingPairs_10 : decode MX2_restingPairs.2.1 10 = .ok (.aload_n 0, 1) := by decide +kernel
theorem dX2_restingPairs_11 : decode MX2_restingPairs.2.1 11 = .ok (.getfield 19, 3) := by decide +kernel
theorem dX2_restingPairs_14 : decode MX2_restingPairs.2.1 14 = .ok (.iload 4, 2) := by decide +kernel
theorem dX2_restingPairs_16 : decode MX2_restingPairs.2.1 16 = .ok (.iconst 0, 1) := by decide +kernel
theorem dX2_restingPairs_17 : decode MX2_restingPairs.2.1 17 = .ok (.iload 4, 2) := by decide +kernel
theorem dX2_restingPairs_19 : decode MX2_restingPairs.2.1 19 = .ok (.iload_n 1, 1) := by decide +kernel
theorem dX2_restingPairs_20 : decode MX2_restingPairs.2.1 20 = .ok (.iload_n 2, 1) := by decide +kernel
theorem dX2_restingPairs_21 : decode MX2_restingPairs.2.1 21 = .ok (.invokestatic 74, 3) := by decide +kernel
theorem dX2_restingPairs_24 : decode MX2_restingPairs.2.1 24 = .ok (.iastore, 1) := by decide +kernel
theorem dX2_restingPairs_25 : decode MX2_restingPairs.2.1 25 = .ok (.iconst 1, 1) := by decide +kernel
theorem dX2_restingPairs_26 : decode MX2_restingPairs.2.1 26 = .ok (.istore 5, 2) := by decide +kernel
theorem dX2_restingPairs_28 : decode MX2_restingPairs.2.1 28 = .ok (.iload 5, 2) := by decide +kernel
theorem dX2_restingPairs_30 : decode MX2_restingPairs.2.1 30 = .ok (.bipush 9, 2) := by decide +kernel
theorem dX2_restingPairs_32 : decode MX2_restingPairs.2.1 32 = .ok (.if_icmp .gt 35, 3) := by decide +kernel
theorem dX2_restingPairs_35 : decode MX2_restingPairs.2.1 35 = .ok (.aload_n 0, 1) := by decide +kernel
theorem dX2_restingPairs_36 : decode MX2_restingPairs.2.1 36 = .ok (.getfield 19, 3) := by decide +kernel
theorem dX2_restingPairs_39 : decode MX2_restingPairs.2.1 39 = .ok (.iload 4, 2) := by decide +kernel
theorem dX2_restingPairs_41 : decode MX2_restingPairs.2.1 41 = .ok (.aload_n 0, 1) := by decide +kernel
theorem dX2_restingPairs_42 : decode MX2_restingPairs.2.1 42 = .ok (.getfield 19, 3) := by decide +kernel
theorem dX2_restingPairs_45 : decode MX2_restingPairs.2.1 45 = .ok (.iload 4, 2) := by decide +kernel
theorem dX2_restingPairs_47 : decode MX2_restingPairs.2.1 47 = .ok (.iaload, 1) := by decide +kernel
theorem dX2_restingPairs_48 : decode MX2_restingPairs.2.1 48 = .ok (.iload 5, 2) := by decide +kernel
theorem dX2_restingPairs_50 : decode MX2_restingPairs.2.1 50 = .ok (.iload 4, 2) := by decide +kernel
theorem dX2_restingPairs_52 : decode MX2_restingPairs.2.1 52 = .ok (.iload_n 1, 1) := by decide +kernel
theorem dX2_restingPairs_53 : decode MX2_restingPairs.2.1 53 = .ok (.iload_n 2, 1) := by decide +kernel
theorem dX2_restingPairs_54 : decode MX2_restingPairs.2.1 54 = .ok (.invokestatic 74, 3) := by decide +kernel
theorem dX2_restingPairs_57 : decode MX2_restingPairs.2.1 57 = .ok (.invokestatic 60, 3) := by decide +kernel
theorem dX2_restingPairs_60 : decode MX2_restingPairs.2.1 60 = .ok (.iastore, 1) := by decide +kernel
theorem dX2_restingPairs_61 : decode MX2_restingPairs.2.1 61 = .ok (.iinc 5 1, 3) := by decide +kernel
theorem dX2_restingPairs_64 : decode MX2_restingPairs.2.1 64 = .ok (.goto (-36), 3) := by decide +kernel
theorem dX2_restingPairs_67 : decode MX2_restingPairs.2.1 67 = .ok (.iinc 4 1, 3) := by decide +kernel
theorem dX2_restingPairs_70 : decode MX2_restingPairs.2.1 70 = .ok (.goto (-67), 3) := by decide +kernel
theorem dX2_restingPairs_73 : decode MX2_restingPairs.2.1 73 = .ok (.iconst 0, 1) := by decide +kernel
theorem dX2_restingPairs_74 : decode MX2_restingPairs.2.1 74 = .ok (.istore 4, 2) := by decide +kernel
theorem dX2_restingPairs_76 : decode MX2_restingPairs.2.1 76 = .ok (.aload_n 3, 1) := by decide +kernel
theorem dX2_restingPairs_77 : decode MX2_restingPairs.2.1 77 = .ok (.invokevirtual 78, 3) := by decide +kernel
theorem dX2_restingPairs_80 : decode MX2_restingPairs.2.1 80 = .ok (.iconst 0, 1) := by decide +kernel
theorem dX2_restingPairs_81 : decode MX2_restingPairs.2.1 81 = .ok (.istore 5, 2) := by decide +kernel
theorem dX2_restingPairs_83 : decode MX2_restingPairs.2.1 83 = .ok (.iload 5, 2) := by decide +kernel
theorem dX2_restingPairs_85 : decode MX2_restingPairs.2.1 85 = .ok (.bipush 9, 2) := by decide +kernel
theorem dX2_restingPairs_87 : decode MX2_restingPairs.2.1 87 = .ok (.if_icmp .gt 82, 3) := by decide +kernel
theorem dX2_restingPairs_90 : decode MX2_restingPairs.2.1 90 = .ok (.iconst 0, 1) := by decide +kernel
theorem dX2_restingPairs_91 : decode MX2_restingPairs.2.1 91 = .ok (.istore 6, 2) := by decide +kernel
theorem dX2_restingPairs_93 : decode MX2_restingPairs.2.1 93 = .ok (.iload 6, 2) := by decide +kernel
theorem dX2_restingPairs_95 : decode MX2_restingPairs.2.1 95 = .ok (.bipush 9, 2) := by decide +kernel
theorem dX2_restingPairs_97 : decode MX2_restingPairs.2.1 97 = .ok (.if_icmp .gt 66, 3) := by decide +kernel
theorem dX2_restingPairs_100 : decode MX2_restingPairs.2.1 100 = .ok (.iload 5, 2) := by decide +kernel
theorem dX2_restingPairs_102 : decode MX2_restingPairs.2.1 102 = .ok (.iload 6, 2) := by decide +kernel
theorem dX2_restingPairs_104 : decode MX2_restingPairs.2.1 104 = .ok (.iload_n 1, 1) := by decide +kernel
theorem dX2_restingPairs_105 : decode MX2_restingPairs.2.1 105 = .ok (.iload_n 2, 1) := by decide +kernel
theorem dX2_restingPairs_106 : decode MX2_restingPairs.2.1 106 = .ok (.invokestatic 74, 3) := by decide +kernel
theorem dX2_restingPairs_109 : decode MX2_restingPairs.2.1 109 = .ok (.aload_n 0, 1) := by decide +kernel
theorem dX2_restingPairs_110 : decode MX2_restingPairs.2.1 110 = .ok (.getfield 19, 3) := by decide +kernel
theorem dX2_restingPairs_113 : decode MX2_restingPairs.2.1 113 = .ok (.iload 6, 2) := by decide +kernel
theorem dX2_restingPairs_115 : decode MX2_restingPairs.2.1 115 = .ok (.iaload, 1) := by decide +kernel
theorem dX2_restingPairs_116 : decode MX2_restingPairs.2.1 116 = .ok (.if_icmp .ne 41, 3) := by decide +kernel
theorem dX2_restingPairs_119 : decode MX2_restingPairs.2.1 119 = .ok (.iload 6, 2) := by decide +kernel
theorem dX2_restingPairs_121 : decode MX2_restingPairs.2.1 121 = .ok (.iload 5, 2) := by decide +kernel
theorem dX2_restingPairs_123 : decode MX2_restingPairs.2.1 123 = .ok (.iload_n 1, 1) := by decide +kernel
theorem dX2_restingPairs_124 : decode MX2_restingPairs.2.1 124 = .ok (.iload_n 2, 1) := by decide +kernel
theorem dX2_restingPairs_125 : decode MX2_restingPairs.2.1 125 = .ok (.invokestatic 74, 3) := by decide +kernel
theorem dX2_restingPairs_128 : decode MX2_restingPairs.2.1 128 = .ok (.aload_n 0, 1) := by decide +kernel
theorem dX2_restingPairs_129 : decode MX2_restingPairs.2.1 129 = .ok (.getfield 19, 3) := by decide +kernel
theorem dX2_restingPairs_132 : decode MX2_restingPairs.2.1 132 = .ok (.iload 5, 2) := by decide +kernel
theorem dX2_restingPairs_134 : decode MX2_restingPairs.2.1 134 = .ok (.iaload, 1) := by decide +kernel
theorem dX2_restingPairs_135 : decode MX2_restingPairs.2.1 135 = .ok (.if_icmp .ne 22, 3) := by decide +kernel
theorem dX2_restingPairs_138 : decode MX2_restingPairs.2.1 138 = .ok (.iinc 4 1, 3) := by decide +kernel
theorem dX2_restingPairs_141 : decode MX2_restingPairs.2.1 141 = .ok (.iload 4, 2) := by decide +kernel
theorem dX2_restingPairs_143 : decode MX2_restingPairs.2.1 143 = .ok (.iconst 1, 1) := by decide +kernel
theorem dX2_restingPairs_144 : decode MX2_restingPairs.2.1 144 = .ok (.if_icmp .ne 13, 3) := by decide +kernel
theorem dX2_restingPairs_147 : decode MX2_restingPairs.2.1 147 = .ok (.aload_n 3, 1) := by decide +kernel
theorem dX2_restingPairs_148 : decode MX2_restingPairs.2.1 148 = .ok (.iload 5, 2) := by decide +kernel
theorem dX2_restingPairs_150 : decode MX2_restingPairs.2.1 150 = .ok (.i2l, 1) := by decide +kernel
theorem dX2_restingPairs_151 : decode MX2_restingPairs.2.1 151 = .ok (.iload 6, 2) := by decide +kernel
theorem dX2_restingPairs_153 : decode MX2_restingPairs.2.1 153 = .ok (.i2l, 1) := by decide +kernel
theorem dX2_restingPairs_154 : decode MX2_restingPairs.2.1 154 = .ok (.invokevirtual 67, 3) := by decide +kernel
theorem dX2_restingPairs_157 : decode MX2_restingPairs.2.1 157 = .ok (.iinc 6 1, 3) := by decide +kernel
theorem dX2_restingPairs_160 : decode MX2_restingPairs.2.1 160 = .ok (.goto (-67), 3) := by decide +kernel
theorem dX2_restingPairs_163 : decode MX2_restingPairs.2.1 163 = .ok (.iinc 5 1, 3) := by decide +kernel
theorem dX2_restingPairs_166 : decode MX2_restingPairs.2.1 166 = .ok (.goto (-83), 3) := by decide +kernel
theorem dX2_restingPairs_169 : decode MX2_restingPairs.2.1 169 = .ok (.iload 4, 2) := by decide +kernel
theorem dX2_restingPairs_171 : decode MX2_restingPairs.2.1 171 = .ok (.ireturn, 1) := by decide +kernel
theorem dX2_gain_0 : decode MX2_gain.2.1 0 = .ok (.iload_n 0, 1) := by decide +kernel
theorem dX2_gain_1 : decode MX2_gain.2.1 1 = .ok (.iload_n 1, 1) := by decide +kernel
theorem dX2_gain_2 : decode MX2_gain.2.1 2 = .ok (.isub, 1) := by decide +kernel
theorem dX2_gain_3 : decode MX2_gain.2.1 3 = .ok (.iconst 2, 1) := by decide +kernel
theorem dX2_gain_4 : decode MX2_gain.2.1 4 = .ok (.if_icmp .lt 7, 3) := by decide +kernel
theorem dX2_gain_7 : decode MX2_gain.2.1 7 = .ok (.iconst 1, 1) := by decide +kernel
theorem dX2_gain_8 : decode MX2_gain.2.1 8 = .ok (.goto 4, 3) := by decide +kernel
theorem dX2_gain_11 : decode MX2_gain.2.1 11 = .ok (.iconst 0, 1) := by decide +kernel
theorem dX2_gain_12 : decode MX2_gain.2.1 12 = .ok (.istore 4, 2) := by decide +kernel
theorem dX2_gain_14 : decode MX2_gain.2.1 14 = .ok (.iload_n 0, 1) := by decide +kernel
theorem dX2_gain_15 : decode MX2_gain.2.1 15 = .ok (.iload 4, 2) := by decide +kernel
theorem dX2_gain_17 : decode MX2_gain.2.1 17 = .ok (.isub, 1) := by decide +kernel
theorem dX2_gain_18 : decode MX2_gain.2.1 18 = .ok (.iload_n 3, 1) := by decide +kernel
theorem dX2_gain_19 : decode MX2_gain.2.1 19 = .ok (.imul, 1) := by decide +kernel
theorem dX2_gain_20 : decode MX2_gain.2.1 20 = .ok (.istore 5, 2) := by decide +kernel
theorem dX2_gain_22 : decode MX2_gain.2.1 22 = .ok (.iload_n 0, 1) := by decide +kernel
theorem dX2_gain_23 : decode MX2_gain.2.1 23 = .ok (.iload_n 1, 1) := by decide +kernel
theorem dX2_gain_24 : decode MX2_gain.2.1 24 = .ok (.if_icmp .ne 10, 3) := by decide +kernel
theorem dX2_gain_27 : decode MX2_gain.2.1 27 = .ok (.iload_n 2, 1) := by decide +kernel
theorem dX2_gain_28 : decode MX2_gain.2.1 28 = .ok (.iconst 2, 1) := by decide +kernel
theorem dX2_gain_29 : decode MX2_gain.2.1 29 = .ok (.idiv, 1) := by decide +kernel
theorem dX2_gain_30 : decode MX2_gain.2.1 30 = .ok (.iload 5, 2) := by decide +kernel
theorem dX2_gain_32 : decode MX2_gain.2.1 32 = .ok (.isub, 1) := by decide +kernel
theorem dX2_gain_33 : decode MX2_gain.2.1 33 = .ok (.ireturn, 1) := by decide +kernel
theorem dX2_gain_34 : decode MX2_gain.2.1 34 = .ok (.iload_n 0, 1) := by decide +kernel
theorem dX2_gain_35 : decode MX2_gain.2.1 35 = .ok (.iload_n 1, 1) := by decide +kernel
theorem dX2_gain_36 : decode MX2_gain.2.1 36 = .ok (.if_icmp .le 10, 3) := by decide +kernel
theorem dX2_gain_39 : decode MX2_gain.2.1 39 = .ok (.iload_n 2, 1) := by decide +kernel
theorem dX2_gain_40 : decode MX2_gain.2.1 40 = .ok (.iload 5, 2) := by decide +kernel
theorem dX2_gain_42 : decode MX2_gain.2.1 42 = .ok (.isub, 1) := by decide +kernel
theorem dX2_gain_43 : decode MX2_gain.2.1 43 = .ok (.goto 6, 3) := by decide +kernel
theorem dX2_gain_46 : decode MX2_gain.2.1 46 = .ok (.iload 5, 2) := by decide +kernel
theorem dX2_gain_48 : decode MX2_gain.2.1 48 = .ok (.ineg, 1) := by decide +kernel
theorem dX2_gain_49 : decode MX2_gain.2.1 49 = .ok (.ireturn, 1) := by decide +kernel
theorem dX3_init_0 : decode MX3_init.2.1 0 = .ok (.aload_n 0, 1) := by decide +kernel
theorem dX3_init_1 : decode MX3_init.2.1 1 = .ok (.invokespecial 3, 3) := by decide +kernel
theorem dX3_init_4 : decode MX3_init.2.1 4 = .ok (.aload_n 0, 1) := by decide +kernel
theorem dX3_init_5 : decode MX3_init.2.1 5 = .ok (.bipush 12, 2) := by decide +kernel
theorem dX3_init_7 : decode MX3_init.2.1 7 = .ok (.newarray .int, 2) := by decide +kernel
theorem dX3_init_9 : decode MX3_init.2.1 9 = .ok (.putfield 11, 3) := by decide +kernel
theorem dX3_init_12 : decode MX3_init.2.1 12 = .ok (.aload_n 0, 1) := by decide +kernel
theorem dX3_init_13 : decode MX3_init.2.1 13 = .ok (.bipush 12, 2) := by decide +kernel
theorem dX3_init_15 : decode MX3_init.2.1 15 = .ok (.newarray .int, 2) := by decide +kernel
theorem dX3_init_17 : decode MX3_init.2.1 17 = .ok (.putfield 15, 3) := by decide +kernel
theorem dX3_init_20 : decode MX3_init.2.1 20 = .ok (.return_, 1) := by decide +kernel
theorem dX3_size_0 : decode MX3_size.2.1 0 = .ok (.aload_n 0, 1) := by decide +kernel
theorem dX3_size_1 : decode MX3_size.2.1 1 = .ok (.getfield 18, 3) := by decide +kernel
theorem dX3_size_4 : decode MX3_size.2.1 4 = .ok (.ireturn, 1) := by decide +kernel
theorem dX3_add_0 : decode MX3_add.2.1 0 = .ok (.aload_n 0, 1) := by decide +kernel
theorem dX3_add_1 : decode MX3_add.2.1 1 = .ok (.getfield 18, 3) := by decide +kernel
theorem dX3_add_4 : decode MX3_add.2.1 4 = .ok (.bipush 12, 2) := by decide +kernel
theorem dX3_add_6 : decode MX3_add.2.1 6 = .ok (.if_icmp .ge 15, 3) := by decide +kernel
theorem dX3_add_9 : decode MX3_add.2.1 9 = .ok (.iload_n 2, 1) := by decide +kernel
theorem dX3_add_10 : decode MX3_add.2.1 10 = .ok (.ifCond .lt 11, 3) := by decide +kernel
theorem dX3_add_13 : decode MX3_add.2.1 13 = .ok (.iload_n 2, 1) := by decide +kernel
theorem dX3_add_14 : decode MX3_add.2.1 14 = .ok (.iload_n 1, 1) := by decide +kernel
theorem dX3_add_15 : decode MX3_add.2.1 15 = .ok (.invokestatic 22, 3) := by decide +kernel
theorem dX3_add_18 : decode MX3_add.2.1 18 = .ok (.if_icmp .le 5, 3) := by decide +kernel
theorem dX3_add_21 : decode MX3_add.2.1 21 = .ok (.iconst (-1), 1) := by decide +kernel
theorem dX3_add_22 : decode MX3_add.2.1 22 = .ok (.ireturn, 1) := by decide +kernel
theorem dX3_add_23 : decode MX3_add.2.1 23 = .ok (.aload_n 0, 1) := by decide +kernel
theorem dX3_add_24 : decode MX3_add.2.1 24 = .ok (.getfield 11, 3) := by decide +kernel
theorem dX3_add_27 : decode MX3_add.2.1 27 = .ok (.aload_n 0, 1) := by decide +kernel
theorem dX3_add_28 : decode MX3_add.2.1 28 = .ok (.getfield 18, 3) := by decide +kernel
theorem dX3_add_31 : decode MX3_add.2.1 31 = .ok (.iload_n 1, 1) := by decide +kernel
theorem dX3_add_32 : decode MX3_add.2.1 32 = .ok (.iastore, 1) := by decide +kernel
theorem dX3_add_33 : decode MX3_add.2.1 33 = .ok (.aload_n 0, 1) := by decide +kernel
theorem dX3_add_34 : decode MX3_add.2.1 34 = .ok (.getfield 15, 3) := by decide +kernel
theorem dX3_add_37 : decode MX3_add.2.1 37 = .ok (.aload_n 0, 1) := by decide +kernel
theorem dX3_add_38 : decode MX3_add.2.1 38 = .ok (.getfield 18, 3) := by decide +kernel
theorem dX3_add_41 : decode MX3_add.2.1 41 = .ok (.iload_n 2, 1) := by decide +kernel
theorem dX3_add_42 : decode MX3_add.2.1 42 = .ok (.iastore, 1) := by decide +kernel
theorem dX3_add_43 : decode MX3_add.2.1 43 = .ok (.aload_n 0, 1) := by decide +kernel
theorem dX3_add_44 : decode MX3_add.2.1 44 = .ok (.dup, 1) := by decide +kernel
theorem dX3_add_45 : decode MX3_add.2.1 45 = .ok (.getfield 18, 3) := by decide +kernel
theorem dX3_add_48 : decode MX3_add.2.1 48 = .ok (.iconst 1, 1) := by decide +kernel
theorem dX3_add_49 : decode MX3_add.2.1 49 = .ok (.iadd, 1) := by decide +kernel
theorem dX3_add_50 : decode MX3_add.2.1 50 = .ok (.putfield 18, 3) := by decide +kernel
theorem dX3_add_53 : decode MX3_add.2.1 53 = .ok (.aload_n 0, 1) := by decide +kernel
theorem dX3_add_54 : decode MX3_add.2.1 54 = .ok (.getfield 18, 3) := by decide +kernel
theorem dX3_add_57 : decode MX3_add.2.1 57 = .ok (.ireturn, 1) := by decide +kernel
theorem dX3_mostOf_0 : decode MX3_mostOf.2.1 0 = .ok (.iload_n 0, 1) := by decide +kernel
theorem dX3_mostOf_1 : decode MX3_mostOf.2.1 1 = .ok (.tableswitch 46 0 4 #[35, 38, 40, 38, 43], 35) := by decide +kernel
theorem dX3_mostOf_36 : decode MX3_mostOf.2.1 36 = .ok (.bipush 99, 2) := by decide +kernel
theorem dX3_mostOf_38 : decode MX3_mostOf.2.1 38 = .ok (.ireturn, 1) := by decide +kernel
theorem dX3_mostOf_39 : decode MX3_mostOf.2.1 39 = .ok (.iconst 1, 1) := by decide +kernel
theorem dX3_mostOf_40 : decode MX3_mostOf.2.1 40 = .ok (.ireturn, 1) := by decide +kernel
theorem dX3_mostOf_41 : decode MX3_mostOf.2.1 41 = .ok (.bipush 9, 2) := by decide +kernel
theorem dX3_mostOf_43 : decode MX3_mostOf.2.1 43 = .ok (.ireturn, 1) := by decide +kernel
theorem dX3_mostOf_44 : decode MX3_mostOf.2.1 44 = .ok (.bipush 99, 2) := by decide +kernel
theorem dX3_mostOf_46 : decode MX3_mostOf.2.1 46 = .ok (.ireturn, 1) := by decide +kernel
theorem dX3_mostOf_47 : decode MX3_mostOf.2.1 47 = .ok (.iconst (-1), 1) := by decide +kernel
theorem dX3_mostOf_48 : decode MX3_mostOf.2.1 48 = .ok (.ireturn, 1) := by decide +kernel
theorem dX3_clear_0 : decode MX3_clear.2.1 0 = .ok (.aload_n 0, 1) := by decide +kernel
theorem dX3_clear_1 : decode MX3_clear.2.1 1 = .ok (.getfield 18, 3) := by decide +kernel
theorem dX3_clear_4 : decode MX3_clear.2.1 4 = .ok (.istore_n 1, 1) := by decide +kernel
theorem dX3_clear_5 : decode MX3_clear.2.1 5 = .ok (.aload_n 0, 1) := by decide +kernel
theorem dX3_clear_6 : decode MX3_clear.2.1 6 = .ok (.iconst 0, 1) := by decide +kernel
theorem dX3_clear_7 : decode MX3_clear.2.1 7 = .ok (.putfield 18, 3) := by decide +kernel
theorem dX3_clear_10 : decode MX3_clear.2.1 10 = .ok (.iload_n 1, 1) := by decide +kernel
theorem dX3_clear_11 : decode MX3_clear.2.1 11 = .ok (.ireturn, 1) := by decide +kernel
theorem dX3_fitting_0 : decode MX3_fitting.2.1 0 = .ok (.iconst 0, 1) := by decide +kernel
theorem dX3_fitting_1 : decode MX3_fitting.2.1 1 = .ok (.istore_n 3, 1) := by decide +kernel
theorem dX3_fitting_2 : decode MX3_fitting.2.1 2 = .ok (.iconst 0, 1) := by decide +kernel
theorem dX3_fitting_3 : decode MX3_fitting.2.1 3 = .ok (.istore 4, 2) := by decide +kernel
theorem dX3_fitting_5 : decode MX3_fitting.2.1 5 = .ok (.iload 4, 2) := by decide +kernel
theorem dX3_fitting_7 : decode MX3_fitting.2.1 7 = .ok (.aload_n 1, 1) := by decide +kernel
theorem dX3_fitting_8 : decode MX3_fitting.2.1 8 = .ok (.getfield 26, 3) := by decide +kernel
theorem dX3_fitting_11 : decode MX3_fitting.2.1 11 = .ok (.if_icmp .ge 70, 3) := by decide +kernel
theorem dX3_fitting_14 : decode MX3_fitting.2.1 14 = .ok (.iconst 1, 1) := by decide +kernel
theorem dX3_fitting_15 : decode MX3_fitting.2.1 15 = .ok (.istore 5, 2) := by decide +kernel
theorem dX3_fitting_17 : decode MX3_fitting.2.1 17 = .ok (.iconst 0, 1) := by decide +kernel
theorem dX3_fitting_18 : decode MX3_fitting.2.1 18 = .ok (.istore 6, 2) := by decide +kernel
theorem dX3_fitting_20 : decode MX3_fitting.2.1 20 = .ok (.iload 6, 2) := by decide +kernel
theorem dX3_fitting_22 : decode MX3_fitting.2.1 22 = .ok (.aload_n 0, 1) := by decide +kernel
theorem dX3_fitting_23 : decode MX3_fitting.2.1 23 = .ok (.getfield 18, 3) := by decide +kernel
theorem dX3_fitting_26 : decode MX3_fitting.2.1 26 = .ok (.if_icmp .ge 37, 3) := by decide +kernel
theorem dX3_fitting_29 : decode MX3_fitting.2.1 29 = .ok (.iload 5, 2) := by decide +kernel
theorem dX3_fitting_31 : decode MX3_fitting.2.1 31 = .ok (.ifCond .eq 32, 3) := by decide +kernel
theorem dX3_fitting_34 : decode MX3_fitting.2.1 34 = .ok (.aload_n 1, 1) := by decide +kernel
theorem dX3_fitting_35 : decode MX3_fitting.2.1 35 = .ok (.aload_n 2, 1) := by decide +kernel
theorem dX3_fitting_36 : decode MX3_fitting.2.1 36 = .ok (.iload 4, 2) := by decide +kernel
theorem dX3_fitting_38 : decode MX3_fitting.2.1 38 = .ok (.aload_n 0, 1) := by decide +kernel
theorem dX3_fitting_39 : decode MX3_fitting.2.1 39 = .ok (.getfield 11, 3) := by decide +kernel
theorem dX3_fitting_42 : decode MX3_fitting.2.1 42 = .ok (.iload 6, 2) := by decide +kernel
theorem dX3_fitting_44 : decode MX3_fitting.2.1 44 = .ok (.iaload, 1) := by decide +kernel
theorem dX3_fitting_45 : decode MX3_fitting.2.1 45 = .ok (.aload_n 0, 1) := by decide +kernel
theorem dX3_fitting_46 : decode MX3_fitting.2.1 46 = .ok (.getfield 15, 3) := by decide +kernel
theorem dX3_fitting_49 : decode MX3_fitting.2.1 49 = .ok (.iload 6, 2) := by decide +kernel
theorem dX3_fitting_51 : decode MX3_fitting.2.1 51 = .ok (.iaload, 1) := by decide +kernel
theorem dX3_fitting_52 : decode MX3_fitting.2.1 52 = .ok (.invokestatic 31, 3) := by decide +kernel
theorem dX3_fitting_55 : decode MX3_fitting.2.1 55 = .ok (.istore 5, 2) := by decide +kernel
theorem dX3_fitting_57 : decode MX3_fitting.2.1 57 = .ok (.iinc 6 1, 3) := by decide +kernel
theorem dX3_fitting_60 : decode MX3_fitting.2.1 60 = .ok (.goto (-40), 3) := by decide +kernel
theorem dX3_fitting_63 : decode MX3_fitting.2.1 63 = .ok (.iload 5, 2) := by decide +kernel
theorem dX3_fitting_65 : decode MX3_fitting.2.1 65 = .ok (.ifCond .eq 10, 3) := by decide +kernel
theorem dX3_fitting_68 : decode MX3_fitting.2.1 68 = .ok (.iload_n 3, 1) := by decide +kernel
theorem dX3_fitting_69 : decode MX3_fitting.2.1 69 = .ok (.iconst 1, 1) := by decide +kernel
theorem dX3_fitting_70 : decode MX3_fitting.2.1 70 = .ok (.iload 4, 2) := by decide +kernel
theorem dX3_fitting_72 : decode MX3_fitting.2.1 72 = .ok (.ishl, 1) := by decide +kernel
theorem dX3_fitting_73 : decode MX3_fitting.2.1 73 = .ok (.ior, 1) := by decide +kernel
theorem dX3_fitting_74 : decode MX3_fitting.2.1 74 = .ok (.istore_n 3, 1) := by decide +kernel
theorem dX3_fitting_75 : decode MX3_fitting.2.1 75 = .ok (.iinc 4 1, 3) := by decide +kernel
theorem dX3_fitting_78 : decode MX3_fitting.2.1 78 = .ok (.goto (-73), 3) := by decide +kernel
theorem dX3_fitting_81 : decode MX3_fitting.2.1 81 = .ok (.iload_n 3, 1) := by decide +kernel
theorem dX3_fitting_82 : decode MX3_fitting.2.1 82 = .ok (.ireturn, 1) := by decide +kernel
theorem dX3_isSo_0 : decode MX3_isSo.2.1 0 = .ok (.iload_n 3, 1) := by decide +kernel
theorem dX3_isSo_1 : decode MX3_isSo.2.1 1 = .ok (.tableswitch 127 0 3 #[31, 48, 72, 94], 31) := by decide +kernel
theorem dX3_isSo_32 : decode MX3_isSo.2.1 32 = .ok (.aload_n 0, 1) := by decide +kernel
theorem dX3_isSo_33 : decode MX3_isSo.2.1 33 = .ok (.getfield 35, 3) := by decide +kernel
theorem dX3_isSo_36 : decode MX3_isSo.2.1 36 = .ok (.iload_n 2, 1) := by decide +kernel
theorem dX3_isSo_37 : decode MX3_isSo.2.1 37 = .ok (.iaload, 1) := by decide +kernel
theorem dX3_isSo_38 : decode MX3_isSo.2.1 38 = .ok (.iload 4, 2) := by decide +kernel
theorem dX3_isSo_40 : decode MX3_isSo.2.1 40 = .ok (.if_icmp .lt 7, 3) := by decide +kernel
theorem dX3_isSo_43 : decode MX3_isSo.2.1 43 = .ok (.iconst 1, 1) := by decide +kernel
theorem dX3_isSo_44 : decode MX3_isSo.2.1 44 = .ok (.goto 4, 3) := by decide +kernel
theorem dX3_isSo_47 : decode MX3_isSo.2.1 47 = .ok (.iconst 0, 1) := by decide +kernel
theorem dX3_isSo_48 : decode MX3_isSo.2.1 48 = .ok (.ireturn, 1) := by decide +kernel
theorem dX3_isSo_49 : decode MX3_isSo.2.1 49 = .ok (.aload_n 0, 1) := by decide +kernel
theorem dX3_isSo_50 : decode MX3_isSo.2.1 50 = .ok (.iload_n 2, 1) := by decide +kernel
theorem dX3_isSo_51 : decode MX3_isSo.2.1 51 = .ok (.invokevirtual 38, 3) := by decide +kernel
theorem dX3_isSo_54 : decode MX3_isSo.2.1 54 = .ok (.iload 4, 2) := by decide +kernel
theorem dX3_isSo_56 : decode MX3_isSo.2.1 56 = .ok (.ifCond .ne 7, 3) := by decide +kernel
theorem dX3_isSo_59 : decode MX3_isSo.2.1 59 = .ok (.iconst 1, 1) := by decide +kernel
theorem dX3_isSo_60 : decode MX3_isSo.2.1 60 = .ok (.goto 4, 3) := by decide +kernel
theorem dX3_isSo_63 : decode MX3_isSo.2.1 63 = .ok (.iconst 0, 1) := by decide +kernel
theorem dX3_isSo_64 : decode MX3_isSo.2.1 64 = .ok (.if_icmp .ne 7, 3) := by decide +kernel
theorem dX3_isSo_67 : decode MX3_isSo.2.1 67 = .ok (.iconst 1, 1) := by decide +kernel
theorem dX3_isSo_68 : decode MX3_isSo.2.1 68 = .ok (.goto 4, 3) := by decide +kernel
theorem dX3_isSo_71 : decode MX3_isSo.2.1 71 = .ok (.iconst 0, 1) := by decide +kernel
theorem dX3_isSo_72 : decode MX3_isSo.2.1 72 = .ok (.ireturn, 1) := by decide +kernel
theorem dX3_isSo_73 : decode MX3_isSo.2.1 73 = .ok (.iload_n 2, 1) := by decide +kernel
theorem dX3_isSo_74 : decode MX3_isSo.2.1 74 = .ok (.ifCond .eq 19, 3) := by decide +kernel
theorem dX3_isSo_77 : decode MX3_isSo.2.1 77 = .ok (.aload_n 1, 1) := by decide +kernel
theorem dX3_isSo_78 : decode MX3_isSo.2.1 78 = .ok (.aload_n 0, 1) := by decide +kernel
theorem dX3_isSo_79 : decode MX3_isSo.2.1 79 = .ok (.iload_n 2, 1) := by decide +kernel
theorem dX3_isSo_80 : decode MX3_isSo.2.1 80 = .ok (.iconst 0, 1) := by decide +kernel
theorem dX3_isSo_81 : decode MX3_isSo.2.1 81 = .ok (.invokevirtual 42, 3) := by decide +kernel
theorem dX3_isSo_84 : decode MX3_isSo.2.1 84 = .ok (.iload 4, 2) := by decide +kernel
theorem dX3_isSo_86 : decode MX3_isSo.2.1 86 = .ok (.if_icmp .ne 7, 3) := by decide +kernel
theorem dX3_isSo_89 : decode MX3_isSo.2.1 89 = .ok (.iconst 1, 1) := by decide +kernel
theorem dX3_isSo_90 : decode MX3_isSo.2.1 90 = .ok (.goto 4, 3) := by decide +kernel
theorem dX3_isSo_93 : decode MX3_isSo.2.1 93 = .ok (.iconst 0, 1) := by decide +kernel
theorem dX3_isSo_94 : decode MX3_isSo.2.1 94 = .ok (.ireturn, 1) := by decide +kernel
theorem dX3_isSo_95 : decode MX3_isSo.2.1 95 = .ok (.aload_n 0, 1) := by decide +kernel
theorem dX3_isSo_96 : decode MX3_isSo.2.1 96 = .ok (.iload_n 2, 1) := by decide +kernel
theorem dX3_isSo_97 : decode MX3_isSo.2.1 97 = .ok (.invokevirtual 48, 3) := by decide +kernel
theorem dX3_isSo_100 : decode MX3_isSo.2.1 100 = .ok (.ifCond .le 7, 3) := by decide +kernel
theorem dX3_isSo_103 : decode MX3_isSo.2.1 103 = .ok (.iconst 1, 1) := by decide +kernel
theorem dX3_isSo_104 : decode MX3_isSo.2.1 104 = .ok (.goto 4, 3) := by decide +kernel
theorem dX3_isSo_107 : decode MX3_isSo.2.1 107 = .ok (.iconst 0, 1) := by decide +kernel
theorem dX3_isSo_108 : decode MX3_isSo.2.1 108 = .ok (.iload 4, 2) := by decide +kernel
theorem dX3_isSo_110 : decode MX3_isSo.2.1 110 = .ok (.iconst 1, 1) := by decide +kernel
theorem dX3_isSo_111 : decode MX3_isSo.2.1 111 = .ok (.if_icmp .ne 7, 3) := by decide +kernel
theorem dX3_isSo_114 : decode MX3_isSo.2.1 114 = .ok (.iconst 1, 1) := by decide +kernel
theorem dX3_isSo_115 : decode MX3_isSo.2.1 115 = .ok (.goto 4, 3) := by decide +kernel
theorem dX3_isSo_118 : decode MX3_isSo.2.1 118 = .ok (.iconst 0, 1) := by decide +kernel
theorem dX3_isSo_119 : decode MX3_isSo.2.1 119 = .ok (.if_icmp .ne 7, 3) := by decide +kernel
theorem dX3_isSo_122 : decode MX3_isSo.2.1 122 = .ok (.iconst 1, 1) := by decide +kernel
theorem dX3_isSo_123 : decode MX3_isSo.2.1 123 = .ok (.goto 4, 3) := by decide +kernel
theorem dX3_isSo_126 : decode MX3_isSo.2.1 126 = .ok (.iconst 0, 1) := by decide +kernel
theorem dX3_isSo_127 : decode MX3_isSo.2.1 127 = .ok (.ireturn, 1) := by decide +kernel
theorem dX3_isSo_128 : decode MX3_isSo.2.1 128 = .ok (.aload_n 0, 1) := by decide +kernel
theorem dX3_isSo_129 : decode MX3_isSo.2.1 129 = .ok (.getfield 51, 3) := by decide +kernel
theorem dX3_isSo_132 : decode MX3_isSo.2.1 132 = .ok (.iload_n 2, 1) := by decide +kernel
theorem dX3_isSo_133 : decode MX3_isSo.2.1 133 = .ok (.iaload, 1) := by decide +kernel
theorem dX3_isSo_134 : decode MX3_isSo.2.1 134 = .ok (.iload 4, 2) := by decide +kernel
theorem dX3_isSo_136 : decode MX3_isSo.2.1 136 = .ok (.if_icmp .gt 7, 3) := by decide +kernel
theorem dX3_isSo_139 : decode MX3_isSo.2.1 139 = .ok (.iconst 1, 1) := by decide +kernel
theorem dX3_isSo_140 : decode MX3_isSo.2.1 140 = .ok (.goto 4, 3) := by decide +kernel
theorem dX3_isSo_143 : decode MX3_isSo.2.1 143 = .ok (.iconst 0, 1) := by decide +kernel
theorem dX3_isSo_144 : decode MX3_isSo.2.1 144 = .ok (.ireturn, 1) := by decide +kernel
theorem dX4_init_0 : decode MX4_init.2.1 0 = .ok (.aload_n 0, 1) := by decide +kernel
theorem dX4_init_1 : decode MX4_init.2.1 1 = .ok (.invokespecial 3, 3) := by decide +kernel
theorem dX4_init_4 : decode MX4_init.2.1 4 = .ok (.aload_n 0, 1) := by decide +kernel
theorem dX4_init_5 : decode MX4_init.2.1 5 = .ok (.bipush 64, 2) := by decide +kernel
theorem dX4_init_7 : decode MX4_init.2.1 7 = .ok (.newarray .int, 2) := by decide +kernel
theorem dX4_init_9 : decode MX4_init.2.1 9 = .ok (.putfield 9, 3) := by decide +kernel
theorem dX4_init_12 : decode MX4_init.2.1 12 = .ok (.aload_n 0, 1) := by decide +kernel
theorem dX4_init_13 : decode MX4_init.2.1 13 = .ok (.bipush 64, 2) := by decide +kernel
theorem dX4_init_15 : decode MX4_init.2.1 15 = .ok (.newarray .int, 2) := by decide +kernel
theorem dX4_init_17 : decode MX4_init.2.1 17 = .ok (.putfield 15, 3) := by decide +kernel
theorem dX4_init_20 : decode MX4_init.2.1 20 = .ok (.aload_n 0, 1) := by decide +kernel
theorem dX4_init_21 : decode MX4_init.2.1 21 = .ok (.bipush 6, 2) := by decide +kernel
theorem dX4_init_23 : decode MX4_init.2.1 23 = .ok (.newarray .int, 2) := by decide +kernel
theorem dX4_init_25 : decode MX4_init.2.1 25 = .ok (.putfield 18, 3) := by decide +kernel
theorem dX4_init_28 : decode MX4_init.2.1 28 = .ok (.aload_n 0, 1) := by decide +kernel
theorem dX4_init_29 : decode MX4_init.2.1 29 = .ok (.sipush 448, 3) := by decide +kernel
theorem dX4_init_32 : decode MX4_init.2.1 32 = .ok (.newarray .int, 2) := by decide +kernel
theorem dX4_init_34 : decode MX4_init.2.1 34 = .ok (.putfield 21, 3) := by decide +kernel
theorem dX4_init_37 : decode MX4_init.2.1 37 = .ok (.return_, 1) := by decide +kernel
theorem dX4_mostGroups_0 : decode MX4_mostGroups.2.1 0 = .ok (.aload_n 1, 1) := by decide +kernel
theorem dX4_mostGroups_1 : decode MX4_mostGroups.2.1 1 = .ok (.invokestatic 24, 3) := by decide +kernel
theorem dX4_mostGroups_4 : decode MX4_mostGroups.2.1 4 = .ok (.istore_n 2, 1) := by decide +kernel
theorem dX4_mostGroups_5 : decode MX4_mostGroups.2.1 5 = .ok (.aload_n 0, 1) := by decide +kernel
theorem dX4_mostGroups_6 : decode MX4_mostGroups.2.1 6 = .ok (.aload_n 1, 1) := by decide +kernel
theorem dX4_mostGroups_7 : decode MX4_mostGroups.2.1 7 = .ok (.invokevirtual 28, 3) := by decide +kernel
theorem dX4_mostGroups_10 : decode MX4_mostGroups.2.1 10 = .ok (.aload_n 0, 1) := by decide +kernel
theorem dX4_mostGroups_11 : decode MX4_mostGroups.2.1 11 = .ok (.getfield 15, 3) := by decide +kernel
theorem dX4_mostGroups_14 : decode MX4_mostGroups.2.1 14 = .ok (.iconst 0, 1) := by decide +kernel
theorem dX4_mostGroups_15 : decode MX4_mostGroups.2.1 15 = .ok (.iconst 0, 1) := by decide +kernel
theorem dX4_mostGroups_16 : decode MX4_mostGroups.2.1 16 = .ok (.iastore, 1) := by decide +kernel
theorem dX4_mostGroups_17 : decode MX4_mostGroups.2.1 17 = .ok (.iconst 1, 1) := by decide +kernel
theorem dX4_mostGroups_18 : decode MX4_mostGroups.2.1 18 = .ok (.istore_n 3, 1) := by decide +kernel
theorem dX4_mostGroups_19 : decode MX4_mostGroups.2.1 19 = .ok (.iload_n 3, 1) := by decide +kernel
theorem dX4_mostGroups_20 : decode MX4_mostGroups.2.1 20 = .ok (.iload_n 2, 1) := by decide +kernel
theorem dX4_mostGroups_21 : decode MX4_mostGroups.2.1 21 = .ok (.if_icmp .gt 33, 3) := by decide +kernel
theorem dX4_mostGroups_24 : decode MX4_mostGroups.2.1 24 = .ok (.aload_n 0, 1) := by decide +kernel
theorem dX4_mostGroups_25 : decode MX4_mostGroups.2.1 25 = .ok (.getfield 15, 3) := by decide +kernel
theorem dX4_mostGroups_28 : decode MX4_mostGroups.2.1 28 = .ok (.iload_n 3, 1) := by decide +kernel
theorem dX4_mostGroups_29 : decode MX4_mostGroups.2.1 29 = .ok (.aload_n 0, 1) := by decide +kernel
theorem dX4_mostGroups_30 : decode MX4_mostGroups.2.1 30 = .ok (.getfield 9, 3) := by decide +kernel
theorem dX4_mostGroups_33 : decode MX4_mostGroups.2.1 33 = .ok (.iload_n 3, 1) := by decide +kernel
theorem dX4_mostGroups_34 : decode MX4_mostGroups.2.1 34 = .ok (.iaload, 1) := by decide +kernel
theorem dX4_mostGroups_35 : decode MX4_mostGroups.2.1 35 = .ok (.ifCond .ne 11, 3) := by decide +kernel
theorem dX4_mostGroups_38 : decode MX4_mostGroups.2.1 38 = .ok (.aload_n 0, 1) := by decide +kernel
theorem dX4_mostGroups_39 : decode MX4_mostGroups.2.1 39 = .ok (.iload_n 3, 1) := by decide +kernel
theorem dX4_mostGroups_40 : decode MX4_mostGroups.2.1 40 = .ok (.invokevirtual 32, 3) := by decide +kernel
theorem dX4_mostGroups_43 : decode MX4_mostGroups.2.1 43 = .ok (.goto 4, 3) := by decide +kernel
theorem dX4_mostGroups_46 : decode MX4_mostGroups.2.1 46 = .ok (.iconst 0, 1) := by decide +kernel
theorem dX4_mostGroups_47 : decode MX4_mostGroups.2.1 47 = .ok (.iastore, 1) := by decide +kernel
theorem dX4_mostGroups_48 : decode MX4_mostGroups.2.1 48 = .ok (.iinc 3 1, 3) := by decide +kernel
theorem dX4_mostGroups_51 : decode MX4_mostGroups.2.1 51 = .ok (.goto (-32), 3) := by decide +kernel
theorem dX4_mostGroups_54 : decode MX4_mostGroups.2.1 54 = .ok (.aload_n 0, 1) := by decide +kernel
theorem dX4_mostGroups_55 : decode MX4_mostGroups.2.1 55 = .ok (.getfield 15, 3) := by decide +kernel
theorem dX4_mostGroups_58 : decode MX4_mostGroups.2.1 58 = .ok (.iload_n 2, 1) := by decide +kernel
theorem dX4_mostGroups_59 : decode MX4_mostGroups.2.1 59 = .ok (.iaload, 1) := by decide +kernel
theorem dX4_mostGroups_60 : decode MX4_mostGroups.2.1 60 = .ok (.ireturn, 1) := by decide +kernel
theorem dX4_addUpBalances_0 : decode MX4_addUpBalances.2.1 0 = .ok (.aload_n 0, 1) := by decide +kernel
theorem dX4_addUpBalances_1 : decode MX4_addUpBalances.2.1 1 = .ok (.getfield 9, 3) := by decide +kernel
theorem dX4_addUpBalances_4 : decode MX4_addUpBalances.2.1 4 = .ok (.iconst 0, 1) := by decide +kernel
theorem dX4_addUpBalances_5 : decode MX4_addUpBalances.2.1 5 = .ok (.iconst 0, 1) := by decide +kernel
theorem dX4_addUpBalances_6 : decode MX4_addUpBalances.2.1 6 = .ok (.iastore, 1) := by decide +kernel
theorem dX4_addUpBalances_7 : decode MX4_addUpBalances.2.1 7 = .ok (.iconst 0, 1) := by decide +kernel
theorem dX4_addUpBalances_8 : decode MX4_addUpBalances.2.1 8 = .ok (.istore_n 2, 1) := by decide +kernel
theorem dX4_addUpBalances_9 : decode MX4_addUpBalances.2.1 9 = .ok (.iload_n 2, 1) := by decide +kernel
theorem dX4_addUpBalances_10 : decode MX4_addUpBalances.2.1 10 = .ok (.aload_n 1, 1) := by decide +kernel
theorem dX4_addUpBalances_11 : decode MX4_addUpBalances.2.1 11 = .ok (.getfield 36, 3) := by decide +kernel
theorem dX4_addUpBalances_14 : decode MX4_addUpBalances.2.1 14 = .ok (.if_icmp .ge 55, 3) := by decide +kernel
theorem dX4_addUpBalances_17 : decode MX4_addUpBalances.2.1 17 = .ok (.aload_n 1, 1) := by decide +kernel
theorem dX4_addUpBalances_18 : decode MX4_addUpBalances.2.1 18 = .ok (.iload_n 2, 1) := by decide +kernel
theorem dX4_addUpBalances_19 : decode MX4_addUpBalances.2.1 19 = .ok (.invokevirtual 42, 3) := by decide +kernel
theorem dX4_addUpBalances_22 : decode MX4_addUpBalances.2.1 22 = .ok (.istore_n 3, 1) := by decide +kernel
theorem dX4_addUpBalances_23 : decode MX4_addUpBalances.2.1 23 = .ok (.iconst 1, 1) := by decide +kernel
theorem dX4_addUpBalances_24 : decode MX4_addUpBalances.2.1 24 = .ok (.iload_n 2, 1) := by decide +kernel
theorem dX4_addUpBalances_25 : decode MX4_addUpBalances.2.1 25 = .ok (.ishl, 1) := by decide +kernel
theorem dX4_addUpBalances_26 : decode MX4_addUpBalances.2.1 26 = .ok (.istore 4, 2) := by decide +kernel
theorem dX4_addUpBalances_28 : decode MX4_addUpBalances.2.1 28 = .ok (.iconst 0, 1) := by decide +kernel
theorem dX4_addUpBalances_29 : decode MX4_addUpBalances.2.1 29 = .ok (.istore 5, 2) := by decide +kernel
theorem dX4_addUpBalances_31 : decode MX4_addUpBalances.2.1 31 = .ok (.iload 5, 2) := by decide +kernel
theorem dX4_addUpBalances_33 : decode MX4_addUpBalances.2.1 33 = .ok (.iload 4, 2) := by decide +kernel
theorem dX4_addUpBalances_35 : decode MX4_addUpBalances.2.1 35 = .ok (.if_icmp .ge 28, 3) := by decide +kernel
theorem dX4_addUpBalances_38 : decode MX4_addUpBalances.2.1 38 = .ok (.aload_n 0, 1) := by decide +kernel
theorem dX4_addUpBalances_39 : decode MX4_addUpBalances.2.1 39 = .ok (.getfield 9, 3) := by decide +kernel
theorem dX4_addUpBalances_42 : decode MX4_addUpBalances.2.1 42 = .ok (.iload 4, 2) := by decide +kernel
theorem dX4_addUpBalances_44 : decode MX4_addUpBalances.2.1 44 = .ok (.iload 5, 2) := by decide +kernel
theorem dX4_addUpBalances_46 : decode MX4_addUpBalances.2.1 46 = .ok (.iadd, 1) := by decide +kernel
theorem dX4_addUpBalances_47 : decode MX4_addUpBalances.2.1 47 = .ok (.aload_n 0, 1) := by decide +kernel
theorem dX4_addUpBalances_48 : decode MX4_addUpBalances.2.1 48 = .ok (.getfield 9, 3) := by decide +kernel
theorem dX4_addUpBalances_51 : decode MX4_addUpBalances.2.1 51 = .ok (.iload 5, 2) := by decide +kernel
theorem dX4_addUpBalances_53 : decode MX4_addUpBalances.2.1 53 = .ok (.iaload, 1) := by decide +kernel
theorem dX4_addUpBalances_54 : decode MX4_addUpBalances.2.1 54 = .ok (.iload_n 3, 1) := by decide +kernel
theorem dX4_addUpBalances_55 : decode MX4_addUpBalances.2.1 55 = .ok (.iadd, 1) := by decide +kernel
theorem dX4_addUpBalances_56 : decode MX4_addUpBalances.2.1 56 = .ok (.iastore, 1) := by decide +kernel
theorem dX4_addUpBalances_57 : decode MX4_addUpBalances.2.1 57 = .ok (.iinc 5 1, 3) := by decide +kernel
theorem dX4_addUpBalances_60 : decode MX4_addUpBalances.2.1 60 = .ok (.goto (-29), 3) := by decide +kernel
theorem dX4_addUpBalances_63 : decode MX4_addUpBalances.2.1 63 = .ok (.iinc 2 1, 3) := by decide +kernel
theorem dX4_addUpBalances_66 : decode MX4_addUpBalances.2.1 66 = .ok (.goto (-57), 3) := by decide +kernel
theorem dX4_addUpBalances_69 : decode MX4_addUpBalances.2.1 69 = .ok (.return_, 1) := by decide +kernel
theorem dX4_allOf_0 : decode MX4_allOf.2.1 0 = .ok (.bipush 64, 2) := by decide +kernel
theorem dX4_allOf_2 : decode MX4_allOf.2.1 2 = .ok (.iconst 1, 1) := by decide +kernel
theorem dX4_allOf_3 : decode MX4_allOf.2.1 3 = .ok (.aload_n 0, 1) := by decide +kernel
theorem dX4_allOf_4 : decode MX4_allOf.2.1 4 = .ok (.getfield 36, 3) := by decide +kernel
theorem dX4_allOf_7 : decode MX4_allOf.2.1 7 = .ok (.ishl, 1) := by decide +kernel
theorem dX4_allOf_8 : decode MX4_allOf.2.1 8 = .ok (.invokestatic 44, 3) := by decide +kernel
theorem dX4_allOf_11 : decode MX4_allOf.2.1 11 = .ok (.iconst 1, 1) := by decide +kernel
theorem dX4_allOf_12 : decode MX4_allOf.2.1 12 = .ok (.isub, 1) := by decide +kernel
theorem dX4_allOf_13 : decode MX4_allOf.2.1 13 = .ok (.ireturn, 1) := by decide +kernel
theorem dX4_groupsOf_0 : decode MX4_groupsOf.2.1 0 = .ok (.iconst 0, 1) := by decide +kernel
theorem dX4_groupsOf_1 : decode MX4_groupsOf.2.1 1 = .ok (.istore_n 2, 1) := by decide +kernel
theorem dX4_groupsOf_2 : decode MX4_groupsOf.2.1 2 = .ok (.iload_n 1, 1) := by decide +kernel
theorem dX4_groupsOf_3 : decode MX4_groupsOf.2.1 3 = .ok (.iload_n 1, 1) := by decide +kernel
theorem dX4_groupsOf_4 : decode MX4_groupsOf.2.1 4 = .ok (.ineg, 1) := by decide +kernel
theorem dX4_groupsOf_5 : decode MX4_groupsOf.2.1 5 = .ok (.iand, 1) := by decide +kernel
theorem dX4_groupsOf_6 : decode MX4_groupsOf.2.1 6 = .ok (.istore_n 3, 1) := by decide +kernel
theorem dX4_groupsOf_7 : decode MX4_groupsOf.2.1 7 = .ok (.iload_n 3, 1) := by decide +kernel
theorem dX4_groupsOf_8 : decode MX4_groupsOf.2.1 8 = .ok (.istore 4, 2) := by decide +kernel
theorem dX4_groupsOf_10 : decode MX4_groupsOf.2.1 10 = .ok (.iload 4, 2) := by decide +kernel
theorem dX4_groupsOf_12 : decode MX4_groupsOf.2.1 12 = .ok (.iload_n 1, 1) := by decide +kernel
theorem dX4_groupsOf_13 : decode MX4_groupsOf.2.1 13 = .ok (.if_icmp .gt 65, 3) := by decide +kernel
theorem dX4_groupsOf_16 : decode MX4_groupsOf.2.1 16 = .ok (.iload 4, 2) := by decide +kernel
theorem dX4_groupsOf_18 : decode MX4_groupsOf.2.1 18 = .ok (.iload_n 1, 1) := by decide +kernel
theorem dX4_groupsOf_19 : decode MX4_groupsOf.2.1 19 = .ok (.iconst (-1), 1) := by decide +kernel
theorem dX4_groupsOf_20 : decode MX4_groupsOf.2.1 20 = .ok (.ixor, 1) := by decide +kernel
theorem dX4_groupsOf_21 : decode MX4_groupsOf.2.1 21 = .ok (.iand, 1) := by decide +kernel
theorem dX4_groupsOf_22 : decode MX4_groupsOf.2.1 22 = .ok (.ifCond .ne 24, 3) := by decide +kernel
theorem dX4_groupsOf_25 : decode MX4_groupsOf.2.1 25 = .ok (.iload 4, 2) := by decide +kernel
theorem dX4_groupsOf_27 : decode MX4_groupsOf.2.1 27 = .ok (.iload_n 3, 1) := by decide +kernel
theorem dX4_groupsOf_28 : decode MX4_groupsOf.2.1 28 = .ok (.iand, 1) := by decide +kernel
theorem dX4_groupsOf_29 : decode MX4_groupsOf.2.1 29 = .ok (.ifCond .eq 17, 3) := by decide +kernel
theorem dX4_groupsOf_32 : decode MX4_groupsOf.2.1 32 = .ok (.aload_n 0, 1) := by decide +kernel
theorem dX4_groupsOf_33 : decode MX4_groupsOf.2.1 33 = .ok (.getfield 9, 3) := by decide +kernel
theorem dX4_groupsOf_36 : decode MX4_groupsOf.2.1 36 = .ok (.iload 4, 2) := by decide +kernel
theorem dX4_groupsOf_38 : decode MX4_groupsOf.2.1 38 = .ok (.iaload, 1) := by decide +kernel
theorem dX4_groupsOf_39 : decode MX4_groupsOf.2.1 39 = .ok (.ifCond .ne 7, 3) := by decide +kernel
theorem dX4_groupsOf_42 : decode MX4_groupsOf.2.1 42 = .ok (.iconst 1, 1) := by decide +kernel
theorem dX4_groupsOf_43 : decode MX4_groupsOf.2.1 43 = .ok (.goto 4, 3) := by decide +kernel
theorem dX4_groupsOf_46 : decode MX4_groupsOf.2.1 46 = .ok (.iconst 0, 1) := by decide +kernel
theorem dX4_groupsOf_47 : decode MX4_groupsOf.2.1 47 = .ok (.istore 5, 2) := by decide +kernel
theorem dX4_groupsOf_49 : decode MX4_groupsOf.2.1 49 = .ok (.iload 5, 2) := by decide +kernel
theorem dX4_groupsOf_51 : decode MX4_groupsOf.2.1 51 = .ok (.ifCond .eq 21, 3) := by decide +kernel
theorem dX4_groupsOf_54 : decode MX4_groupsOf.2.1 54 = .ok (.iload_n 2, 1) := by decide +kernel
theorem dX4_groupsOf_55 : decode MX4_groupsOf.2.1 55 = .ok (.iconst 1, 1) := by decide +kernel
theorem dX4_groupsOf_56 : decode MX4_groupsOf.2.1 56 = .ok (.aload_n 0, 1) := by decide +kernel
theorem dX4_groupsOf_57 : decode MX4_groupsOf.2.1 57 = .ok (.getfield 15, 3) := by decide +kernel
theorem dX4_groupsOf_60 : decode MX4_groupsOf.2.1 60 = .ok (.iload_n 1, 1) := by decide +kernel
theorem dX4_groupsOf_61 : decode MX4_groupsOf.2.1 61 = .ok (.iload 4, 2) := by decide +kernel
theorem dX4_groupsOf_63 : decode MX4_groupsOf.2.1 63 = .ok (.iconst (-1), 1) := by decide +kernel
theorem dX4_groupsOf_64 : decode MX4_groupsOf.2.1 64 = .ok (.ixor, 1) := by decide +kernel
theorem dX4_groupsOf_65 : decode MX4_groupsOf.2.1 65 = .ok (.iand, 1) := by decide +kernel
theorem dX4_groupsOf_66 : decode MX4_groupsOf.2.1 66 = .ok (.iaload, 1) := by decide +kernel
theorem dX4_groupsOf_67 : decode MX4_groupsOf.2.1 67 = .ok (.iadd, 1) := by decide +kernel
theorem dX4_groupsOf_68 : decode MX4_groupsOf.2.1 68 = .ok (.invokestatic 50, 3) := by decide +kernel
theorem dX4_groupsOf_71 : decode MX4_groupsOf.2.1 71 = .ok (.istore_n 2, 1) := by decide +kernel
theorem dX4_groupsOf_72 : decode MX4_groupsOf.2.1 72 = .ok (.iinc 4 1, 3) := by decide +kernel
theorem dX4_groupsOf_75 : decode MX4_groupsOf.2.1 75 = .ok (.goto (-65), 3) := by decide +kernel
theorem dX4_groupsOf_78 : decode MX4_groupsOf.2.1 78 = .ok (.iload_n 2, 1) := by decide +kernel
theorem dX4_groupsOf_79 : decode MX4_groupsOf.2.1 79 = .ok (.ireturn, 1) := by decide +kernel
theorem dX4_groupOfFirst_0 : decode MX4_groupOfFirst.2.1 0 = .ok (.aload_n 1, 1) := by decide +kernel
theorem dX4_groupOfFirst_1 : decode MX4_groupOfFirst.2.1 1 = .ok (.invokestatic 24, 3) := by decide +kernel
theorem dX4_groupOfFirst_4 : decode MX4_groupOfFirst.2.1 4 = .ok (.istore_n 2, 1) := by decide +kernel
theorem dX4_groupOfFirst_5 : decode MX4_groupOfFirst.2.1 5 = .ok (.iconst 1, 1) := by decide +kernel
theorem dX4_groupOfFirst_6 : decode MX4_groupOfFirst.2.1 6 = .ok (.istore_n 3, 1) := by decide +kernel
theorem dX4_groupOfFirst_7 : decode MX4_groupOfFirst.2.1 7 = .ok (.iload_n 3, 1) := by decide +kernel
theorem dX4_groupOfFirst_8 : decode MX4_groupOfFirst.2.1 8 = .ok (.iload_n 2, 1) := by decide +kernel
theorem dX4_groupOfFirst_9 : decode MX4_groupOfFirst.2.1 9 = .ok (.if_icmp .ge 41, 3) := by decide +kernel
theorem dX4_groupOfFirst_12 : decode MX4_groupOfFirst.2.1 12 = .ok (.aload_n 0, 1) := by decide +kernel
theorem dX4_groupOfFirst_13 : decode MX4_groupOfFirst.2.1 13 = .ok (.getfield 9, 3) := by decide +kernel
theorem dX4_groupOfFirst_16 : decode MX4_groupOfFirst.2.1 16 = .ok (.iload_n 3, 1) := by decide +kernel
theorem dX4_groupOfFirst_17 : decode MX4_groupOfFirst.2.1 17 = .ok (.iaload, 1) := by decide +kernel
theorem dX4_groupOfFirst_18 : decode MX4_groupOfFirst.2.1 18 = .ok (.ifCond .ne 26, 3) := by decide +kernel
theorem dX4_groupOfFirst_21 : decode MX4_groupOfFirst.2.1 21 = .ok (.iconst 1, 1) := by decide +kernel
theorem dX4_groupOfFirst_22 : decode MX4_groupOfFirst.2.1 22 = .ok (.aload_n 0, 1) := by decide +kernel
theorem dX4_groupOfFirst_23 : decode MX4_groupOfFirst.2.1 23 = .ok (.getfield 15, 3) := by decide +kernel
theorem dX4_groupOfFirst_26 : decode MX4_groupOfFirst.2.1 26 = .ok (.iload_n 2, 1) := by decide +kernel
theorem dX4_groupOfFirst_27 : decode MX4_groupOfFirst.2.1 27 = .ok (.iload_n 3, 1) := by decide +kernel
theorem dX4_groupOfFirst_28 : decode MX4_groupOfFirst.2.1 28 = .ok (.iconst (-1), 1) := by decide +kernel
theorem dX4_groupOfFirst_29 : decode MX4_groupOfFirst.2.1 29 = .ok (.ixor, 1) := by decide +kernel
theorem dX4_groupOfFirst_30 : decode MX4_groupOfFirst.2.1 30 = .ok (.iand, 1) := by decide +kernel
theorem dX4_groupOfFirst_31 : decode MX4_groupOfFirst.2.1 31 = .ok (.iaload, 1) := by decide +kernel
theorem dX4_groupOfFirst_32 : decode MX4_groupOfFirst.2.1 32 = .ok (.iadd, 1) := by decide +kernel
theorem dX4_groupOfFirst_33 : decode MX4_groupOfFirst.2.1 33 = .ok (.aload_n 0, 1) := by decide +kernel
theorem dX4_groupOfFirst_34 : decode MX4_groupOfFirst.2.1 34 = .ok (.getfield 15, 3) := by decide +kernel
theorem dX4_groupOfFirst_37 : decode MX4_groupOfFirst.2.1 37 = .ok (.iload_n 2, 1) := by decide +kernel
theorem dX4_groupOfFirst_38 : decode MX4_groupOfFirst.2.1 38 = .ok (.iaload, 1) := by decide +kernel
theorem dX4_groupOfFirst_39 : decode MX4_groupOfFirst.2.1 39 = .ok (.if_icmp .ne 5, 3) := by decide +kernel
theorem dX4_groupOfFirst_42 : decode MX4_groupOfFirst.2.1 42 = .ok (.iload_n 3, 1) := by decide +kernel
theorem dX4_groupOfFirst_43 : decode MX4_groupOfFirst.2.1 43 = .ok (.ireturn, 1) := by decide +kernel
theorem dX4_groupOfFirst_44 : decode MX4_groupOfFirst.2.1 44 = .ok (.iinc 3 2, 3) := by decide +kernel
theorem dX4_groupOfFirst_47 : decode MX4_groupOfFirst.2.1 47 = .ok (.goto (-40), 3) := by decide +kernel
theorem dX4_groupOfFirst_50 : decode MX4_groupOfFirst.2.1 50 = .ok (.iload_n 2, 1) := by decide +kernel
theorem dX4_groupOfFirst_51 : decode MX4_groupOfFirst.2.1 51 = .ok (.ireturn, 1) := by decide +kernel
theorem dX4_readStreets_0 : decode MX4_readStreets.2.1 0 = .ok (.aload_n 1, 1) := by decide +kernel
theorem dX4_readStreets_1 : decode MX4_readStreets.2.1 1 = .ok (.invokevirtual 53, 3) := by decide +kernel
theorem dX4_readStreets_4 : decode MX4_readStreets.2.1 4 = .ok (.istore_n 2, 1) := by decide +kernel
theorem dX4_readStreets_5 : decode MX4_readStreets.2.1 5 = .ok (.aload_n 0, 1) := by decide +kernel
theorem dX4_readStreets_6 : decode MX4_readStreets.2.1 6 = .ok (.iload_n 2, 1) := by decide +kernel
theorem dX4_readStreets_7 : decode MX4_readStreets.2.1 7 = .ok (.bipush 6, 2) := by decide +kernel
theorem dX4_readStreets_9 : decode MX4_readStreets.2.1 9 = .ok (.invokestatic 44, 3) := by decide +kernel
theorem dX4_readStreets_12 : decode MX4_readStreets.2.1 12 = .ok (.putfield 59, 3) := by decide +kernel
theorem dX4_readStreets_15 : decode MX4_readStreets.2.1 15 = .ok (.iconst 0, 1) := by decide +kernel
theorem dX4_readStreets_16 : decode MX4_readStreets.2.1 16 = .ok (.istore_n 3, 1) := by decide +kernel
theorem dX4_readStreets_17 : decode MX4_readStreets.2.1 17 = .ok (.iload_n 3, 1) := by decide +kernel
theorem dX4_readStreets_18 : decode MX4_readStreets.2.1 18 = .ok (.aload_n 0, 1) := by decide +kernel
theorem dX4_readStreets_19 : decode MX4_readStreets.2.1 19 = .ok (.getfield 59, 3) := by decide +kernel
theorem dX4_readStreets_22 : decode MX4_readStreets.2.1 22 = .ok (.if_icmp .ge 36, 3) := by decide +kernel
theorem dX4_readStreets_25 : decode MX4_readStreets.2.1 25 = .ok (.aload_n 1, 1) := by decide +kernel
theorem dX4_readStreets_26 : decode MX4_readStreets.2.1 26 = .ok (.iload_n 3, 1) := by decide +kernel
theorem dX4_readStreets_27 : decode MX4_readStreets.2.1 27 = .ok (.invokevirtual 62, 3) := by decide +kernel
theorem dX4_readStreets_30 : decode MX4_readStreets.2.1 30 = .ok (.invokestatic 65, 3) := by decide +kernel
theorem dX4_readStreets_33 : decode MX4_readStreets.2.1 33 = .ok (.ifCond .ne 5, 3) := by decide +kernel
theorem dX4_readStreets_36 : decode MX4_readStreets.2.1 36 = .ok (.iload_n 3, 1) := by decide +kernel
theorem dX4_readStreets_37 : decode MX4_readStreets.2.1 37 = .ok (.ireturn, 1) := by decide +kernel
theorem dX4_readStreets_38 : decode MX4_readStreets.2.1 38 = .ok (.aload_n 0, 1) := by decide +kernel
theorem dX4_readStreets_39 : decode MX4_readStreets.2.1 39 = .ok (.getfield 18, 3) := by decide +kernel
theorem dX4_readStreets_42 : decode MX4_readStreets.2.1 42 = .ok (.iload_n 3, 1) := by decide +kernel
theorem dX4_readStreets_43 : decode MX4_readStreets.2.1 43 = .ok (.aload_n 1, 1) := by decide +kernel
theorem dX4_readStreets_44 : decode MX4_readStreets.2.1 44 = .ok (.iload_n 3, 1) := by decide +kernel
theorem dX4_readStreets_45 : decode MX4_readStreets.2.1 45 = .ok (.invokevirtual 62, 3) := by decide +kernel
theorem dX4_readStreets_48 : decode MX4_readStreets.2.1 48 = .ok (.bipush 48, 2) := by decide +kernel
theorem dX4_readStreets_50 : decode MX4_readStreets.2.1 50 = .ok (.isub, 1) := by decide +kernel
theorem dX4_readStreets_51 : decode MX4_readStreets.2.1 51 = .ok (.iastore, 1) := by decide +kernel
theorem dX4_readStreets_52 : decode MX4_readStreets.2.1 52 = .ok (.iinc 3 1, 3) := by decide +kernel
theorem dX4_readStreets_55 : decode MX4_readStreets.2.1 55 = .ok (.goto (-38), 3) := by decide +kernel
theorem dX4_readStreets_58 : decode MX4_readStreets.2.1 58 = .ok (.iload_n 2, 1) := by decide +kernel
theorem dX4_readStreets_59 : decode MX4_readStreets.2.1 59 = .ok (.ifCond .eq 9, 3) := by decide +kernel
theorem dX4_readStreets_62 : decode MX4_readStreets.2.1 62 = .ok (.iload_n 2, 1) := by decide +kernel
theorem dX4_readStreets_63 : decode MX4_readStreets.2.1 63 = .ok (.bipush 6, 2) := by decide +kernel
theorem dX4_readStreets_65 : decode MX4_readStreets.2.1 65 = .ok (.if_icmp .le 10, 3) := by decide +kernel
theorem dX4_readStreets_68 : decode MX4_readStreets.2.1 68 = .ok (.aload_n 0, 1) := by decide +kernel
theorem dX4_readStreets_69 : decode MX4_readStreets.2.1 69 = .ok (.getfield 59, 3) := by decide +kernel
theorem dX4_readStreets_72 : decode MX4_readStreets.2.1 72 = .ok (.goto 4, 3) := by decide +kernel
theorem dX4_readStreets_75 : decode MX4_readStreets.2.1 75 = .ok (.iconst (-1), 1) := by decide +kernel
theorem dX4_readStreets_76 : decode MX4_readStreets.2.1 76 = .ok (.ireturn, 1) := by decide +kernel
theorem dX4_nameStreets_0 : decode MX4_nameStreets.2.1 0 = .ok (.iconst 0, 1) := by decide +kernel
theorem dX4_nameStreets_1 : decode MX4_nameStreets.2.1 1 = .ok (.istore_n 3, 1) := by decide +kernel
theorem dX4_nameStreets_2 : decode MX4_nameStreets.2.1 2 = .ok (.iload_n 3, 1) := by decide +kernel
theorem dX4_nameStreets_3 : decode MX4_nameStreets.2.1 3 = .ok (.bipush 64, 2) := by decide +kernel
theorem dX4_nameStreets_5 : decode MX4_nameStreets.2.1 5 = .ok (.if_icmp .ge 24, 3) := by decide +kernel
theorem dX4_nameStreets_8 : decode MX4_nameStreets.2.1 8 = .ok (.aload_n 0, 1) := by decide +kernel
theorem dX4_nameStreets_9 : decode MX4_nameStreets.2.1 9 = .ok (.getfield 21, 3) := by decide +kernel
theorem dX4_nameStreets_12 : decode MX4_nameStreets.2.1 12 = .ok (.aload_n 0, 1) := by decide +kernel
theorem dX4_nameStreets_13 : decode MX4_nameStreets.2.1 13 = .ok (.getfield 59, 3) := by decide +kernel
theorem dX4_nameStreets_16 : decode MX4_nameStreets.2.1 16 = .ok (.bipush 64, 2) := by decide +kernel
theorem dX4_nameStreets_18 : decode MX4_nameStreets.2.1 18 = .ok (.imul, 1) := by decide +kernel
theorem dX4_nameStreets_19 : decode MX4_nameStreets.2.1 19 = .ok (.iload_n 3, 1) := by decide +kernel
theorem dX4_nameStreets_20 : decode MX4_nameStreets.2.1 20 = .ok (.iadd, 1) := by decide +kernel
theorem dX4_nameStreets_21 : decode MX4_nameStreets.2.1 21 = .ok (.iconst 0, 1) := by decide +kernel
theorem dX4_nameStreets_22 : decode MX4_nameStreets.2.1 22 = .ok (.iastore, 1) := by decide +kernel
theorem dX4_nameStreets_23 : decode MX4_nameStreets.2.1 23 = .ok (.iinc 3 1, 3) := by decide +kernel
theorem dX4_nameStreets_26 : decode MX4_nameStreets.2.1 26 = .ok (.goto (-24), 3) := by decide +kernel
theorem dX4_nameStreets_29 : decode MX4_nameStreets.2.1 29 = .ok (.aload_n 0, 1) := by decide +kernel
theorem dX4_nameStreets_30 : decode MX4_nameStreets.2.1 30 = .ok (.getfield 59, 3) := by decide +kernel
theorem dX4_nameStreets_33 : decode MX4_nameStreets.2.1 33 = .ok (.iconst 1, 1) := by decide +kernel
theorem dX4_nameStreets_34 : decode MX4_nameStreets.2.1 34 = .ok (.isub, 1) := by decide +kernel
theorem dX4_nameStreets_35 : decode MX4_nameStreets.2.1 35 = .ok (.istore_n 3, 1) := by decide +kernel
theorem dX4_nameStreets_36 : decode MX4_nameStreets.2.1 36 = .ok (.iload_n 3, 1) := by decide +kernel
theorem dX4_nameStreets_37 : decode MX4_nameStreets.2.1 37 = .ok (.ifCond .lt 45, 3) := by decide +kernel
theorem dX4_nameStreets_40 : decode MX4_nameStreets.2.1 40 = .ok (.iconst 0, 1) := by decide +kernel
theorem dX4_nameStreets_41 : decode MX4_nameStreets.2.1 41 = .ok (.istore 4, 2) := by decide +kernel
theorem dX4_nameStreets_43 : decode MX4_nameStreets.2.1 43 = .ok (.iload 4, 2) := by decide +kernel
theorem dX4_nameStreets_45 : decode MX4_nameStreets.2.1 45 = .ok (.bipush 64, 2) := by decide +kernel
theorem dX4_nameStreets_47 : decode MX4_nameStreets.2.1 47 = .ok (.if_icmp .ge 29, 3) := by decide +kernel
theorem dX4_nameStreets_50 : decode MX4_nameStreets.2.1 50 = .ok (.aload_n 0, 1) := by decide +kernel
theorem dX4_nameStreets_51 : decode MX4_nameStreets.2.1 51 = .ok (.getfield 21, 3) := by decide +kernel
theorem dX4_nameStreets_54 : decode MX4_nameStreets.2.1 54 = .ok (.iload_n 3, 1) := by decide +kernel
theorem dX4_nameStreets_55 : decode MX4_nameStreets.2.1 55 = .ok (.bipush 64, 2) := by decide +kernel
theorem dX4_nameStreets_57 : decode MX4_nameStreets.2.1 57 = .ok (.imul, 1) := by decide +kernel
theorem dX4_nameStreets_58 : decode MX4_nameStreets.2.1 58 = .ok (.iload 4, 2) := by decide +kernel
theorem dX4_nameStreets_60 : decode MX4_nameStreets.2.1 60 = .ok (.iadd, 1) := by decide +kernel
theorem dX4_nameStreets_61 : decode MX4_nameStreets.2.1 61 = .ok (.aload_n 0, 1) := by decide +kernel
theorem dX4_nameStreets_62 : decode MX4_nameStreets.2.1 62 = .ok (.aload_n 1, 1) := by decide +kernel
theorem dX4_nameStreets_63 : decode MX4_nameStreets.2.1 63 = .ok (.iload_n 3, 1) := by decide +kernel
theorem dX4_nameStreets_64 : decode MX4_nameStreets.2.1 64 = .ok (.iload 4, 2) := by decide +kernel
theorem dX4_nameStreets_66 : decode MX4_nameStreets.2.1 66 = .ok (.invokevirtual 69, 3) := by decide +kernel
theorem dX4_nameStreets_69 : decode MX4_nameStreets.2.1 69 = .ok (.iastore, 1) := by decide +kernel
theorem dX4_nameStreets_70 : decode MX4_nameStreets.2.1 70 = .ok (.iinc 4 1, 3) := by decide +kernel
theorem dX4_nameStreets_73 : decode MX4_nameStreets.2.1 73 = .ok (.goto (-30), 3) := by decide +kernel
theorem dX4_nameStreets_76 : decode MX4_nameStreets.2.1 76 = .ok (.iinc 3 (-1), 3) := by decide +kernel
theorem dX4_nameStreets_79 : decode MX4_nameStreets.2.1 79 = .ok (.goto (-43), 3) := by decide +kernel
theorem dX4_nameStreets_82 : decode MX4_nameStreets.2.1 82 = .ok (.aload_n 2, 1) := by decide +kernel
theorem dX4_nameStreets_83 : decode MX4_nameStreets.2.1 83 = .ok (.invokevirtual 73, 3) := by decide +kernel
theorem dX4_nameStreets_86 : decode MX4_nameStreets.2.1 86 = .ok (.iconst 0, 1) := by decide +kernel
theorem dX4_nameStreets_87 : decode MX4_nameStreets.2.1 87 = .ok (.istore_n 3, 1) := by decide +kernel
theorem dX4_nameStreets_88 : decode MX4_nameStreets.2.1 88 = .ok (.iconst 0, 1) := by decide +kernel
theorem dX4_nameStreets_89 : decode MX4_nameStreets.2.1 89 = .ok (.istore 4, 2) := by decide +kernel
theorem dX4_nameStreets_91 : decode MX4_nameStreets.2.1 91 = .ok (.iload 4, 2) := by decide +kernel
theorem dX4_nameStreets_93 : decode MX4_nameStreets.2.1 93 = .ok (.aload_n 0, 1) := by decide +kernel
theorem dX4_nameStreets_94 : decode MX4_nameStreets.2.1 94 = .ok (.getfield 59, 3) := by decide +kernel
theorem dX4_nameStreets_97 : decode MX4_nameStreets.2.1 97 = .ok (.if_icmp .ge 43, 3) := by decide +kernel
theorem dX4_nameStreets_100 : decode MX4_nameStreets.2.1 100 = .ok (.aload_n 0, 1) := by decide +kernel
theorem dX4_nameStreets_101 : decode MX4_nameStreets.2.1 101 = .ok (.aload_n 1, 1) := by decide +kernel
theorem dX4_nameStreets_102 : decode MX4_nameStreets.2.1 102 = .ok (.iload 4, 2) := by decide +kernel
theorem dX4_nameStreets_104 : decode MX4_nameStreets.2.1 104 = .ok (.iload_n 3, 1) := by decide +kernel
theorem dX4_nameStreets_105 : decode MX4_nameStreets.2.1 105 = .ok (.invokevirtual 78, 3) := by decide +kernel
theorem dX4_nameStreets_108 : decode MX4_nameStreets.2.1 108 = .ok (.istore 5, 2) := by decide +kernel
theorem dX4_nameStreets_110 : decode MX4_nameStreets.2.1 110 = .ok (.aload_n 2, 1) := by decide +kernel
theorem dX4_nameStreets_111 : decode MX4_nameStreets.2.1 111 = .ok (.iload 5, 2) := by decide +kernel
theorem dX4_nameStreets_113 : decode MX4_nameStreets.2.1 113 = .ok (.i2l, 1) := by decide +kernel
theorem dX4_nameStreets_114 : decode MX4_nameStreets.2.1 114 = .ok (.invokevirtual 81, 3) := by decide +kernel
theorem dX4_nameStreets_117 : decode MX4_nameStreets.2.1 117 = .ok (.iload_n 3, 1) := by decide +kernel
theorem dX4_nameStreets_118 : decode MX4_nameStreets.2.1 118 = .ok (.iload 5, 2) := by decide +kernel
theorem dX4_nameStreets_120 : decode MX4_nameStreets.2.1 120 = .ok (.iconst (-1), 1) := by decide +kernel
theorem dX4_nameStreets_121 : decode MX4_nameStreets.2.1 121 = .ok (.if_icmp .ne 7, 3) := by decide +kernel
theorem dX4_nameStreets_124 : decode MX4_nameStreets.2.1 124 = .ok (.iconst 0, 1) := by decide +kernel
theorem dX4_nameStreets_125 : decode MX4_nameStreets.2.1 125 = .ok (.goto 7, 3) := by decide +kernel
theorem dX4_nameStreets_128 : decode MX4_nameStreets.2.1 128 = .ok (.iconst 1, 1) := by decide +kernel
theorem dX4_nameStreets_129 : decode MX4_nameStreets.2.1 129 = .ok (.iload 5, 2) := by decide +kernel
theorem dX4_nameStreets_131 : decode MX4_nameStreets.2.1 131 = .ok (.ishl, 1) := by decide +kernel
theorem dX4_nameStreets_132 : decode MX4_nameStreets.2.1 132 = .ok (.ior, 1) := by decide +kernel
theorem dX4_nameStreets_133 : decode MX4_nameStreets.2.1 133 = .ok (.istore_n 3, 1) := by decide +kernel
theorem dX4_nameStreets_134 : decode MX4_nameStreets.2.1 134 = .ok (.iinc 4 1, 3) := by decide +kernel
theorem dX4_nameStreets_137 : decode MX4_nameStreets.2.1 137 = .ok (.goto (-46), 3) := by decide +kernel
theorem dX4_nameStreets_140 : decode MX4_nameStreets.2.1 140 = .ok (.aload_n 0, 1) := by decide +kernel
theorem dX4_nameStreets_141 : decode MX4_nameStreets.2.1 141 = .ok (.getfield 21, 3) := by decide +kernel
theorem dX4_nameStreets_144 : decode MX4_nameStreets.2.1 144 = .ok (.iconst 0, 1) := by decide +kernel
theorem dX4_nameStreets_145 : decode MX4_nameStreets.2.1 145 = .ok (.iaload, 1) := by decide +kernel
theorem dX4_nameStreets_146 : decode MX4_nameStreets.2.1 146 = .ok (.ireturn, 1) := by decide +kernel
theorem dX4_mostNames_0 : decode MX4_mostNames.2.1 0 = .ok (.aload_n 0, 1) := by decide +kernel
theorem dX4_mostNames_1 : decode MX4_mostNames.2.1 1 = .ok (.iload_n 2, 1) := by decide +kernel
theorem dX4_mostNames_2 : decode MX4_mostNames.2.1 2 = .ok (.iconst 1, 1) := by decide +kernel
theorem dX4_mostNames_3 : decode MX4_mostNames.2.1 3 = .ok (.iadd, 1) := by decide +kernel
theorem dX4_mostNames_4 : decode MX4_mostNames.2.1 4 = .ok (.iload_n 3, 1) := by decide +kernel
theorem dX4_mostNames_5 : decode MX4_mostNames.2.1 5 = .ok (.invokevirtual 85, 3) := by decide +kernel
theorem dX4_mostNames_8 : decode MX4_mostNames.2.1 8 = .ok (.istore 4, 2) := by decide +kernel
theorem dX4_mostNames_10 : decode MX4_mostNames.2.1 10 = .ok (.iconst 0, 1) := by decide +kernel
theorem dX4_mostNames_11 : decode MX4_mostNames.2.1 11 = .ok (.istore 5, 2) := by decide +kernel
theorem dX4_mostNames_13 : decode MX4_mostNames.2.1 13 = .ok (.iload 5, 2) := by decide +kernel
theorem dX4_mostNames_15 : decode MX4_mostNames.2.1 15 = .ok (.aload_n 1, 1) := by decide +kernel
theorem dX4_mostNames_16 : decode MX4_mostNames.2.1 16 = .ok (.getfield 36, 3) := by decide +kernel
theorem dX4_mostNames_19 : decode MX4_mostNames.2.1 19 = .ok (.if_icmp .ge 43, 3) := by decide +kernel
theorem dX4_mostNames_22 : decode MX4_mostNames.2.1 22 = .ok (.aload_n 0, 1) := by decide +kernel
theorem dX4_mostNames_23 : decode MX4_mostNames.2.1 23 = .ok (.aload_n 1, 1) := by decide +kernel
theorem dX4_mostNames_24 : decode MX4_mostNames.2.1 24 = .ok (.iload 5, 2) := by decide +kernel
theorem dX4_mostNames_26 : decode MX4_mostNames.2.1 26 = .ok (.iload_n 2, 1) := by decide +kernel
theorem dX4_mostNames_27 : decode MX4_mostNames.2.1 27 = .ok (.iload_n 3, 1) := by decide +kernel
theorem dX4_mostNames_28 : decode MX4_mostNames.2.1 28 = .ok (.invokevirtual 88, 3) := by decide +kernel
theorem dX4_mostNames_31 : decode MX4_mostNames.2.1 31 = .ok (.ifCond .eq 25, 3) := by decide +kernel
theorem dX4_mostNames_34 : decode MX4_mostNames.2.1 34 = .ok (.iload 4, 2) := by decide +kernel
theorem dX4_mostNames_36 : decode MX4_mostNames.2.1 36 = .ok (.iconst 1, 1) := by decide +kernel
theorem dX4_mostNames_37 : decode MX4_mostNames.2.1 37 = .ok (.aload_n 0, 1) := by decide +kernel
theorem dX4_mostNames_38 : decode MX4_mostNames.2.1 38 = .ok (.iload_n 2, 1) := by decide +kernel
theorem dX4_mostNames_39 : decode MX4_mostNames.2.1 39 = .ok (.iconst 1, 1) := by decide +kernel
theorem dX4_mostNames_40 : decode MX4_mostNames.2.1 40 = .ok (.iadd, 1) := by decide +kernel
theorem dX4_mostNames_41 : decode MX4_mostNames.2.1 41 = .ok (.iload_n 3, 1) := by decide +kernel
theorem dX4_mostNames_42 : decode MX4_mostNames.2.1 42 = .ok (.iconst 1, 1) := by decide +kernel
theorem dX4_mostNames_43 : decode MX4_mostNames.2.1 43 = .ok (.iload 5, 2) := by decide +kernel
theorem dX4_mostNames_45 : decode MX4_mostNames.2.1 45 = .ok (.ishl, 1) := by decide +kernel
theorem dX4_mostNames_46 : decode MX4_mostNames.2.1 46 = .ok (.ior, 1) := by decide +kernel
theorem dX4_mostNames_47 : decode MX4_mostNames.2.1 47 = .ok (.invokevirtual 85, 3) := by decide +kernel
theorem dX4_mostNames_50 : decode MX4_mostNames.2.1 50 = .ok (.iadd, 1) := by decide +kernel
theorem dX4_mostNames_51 : decode MX4_mostNames.2.1 51 = .ok (.invokestatic 50, 3) := by decide +kernel
theorem dX4_mostNames_54 : decode MX4_mostNames.2.1 54 = .ok (.istore 4, 2) := by decide +kernel
theorem dX4_mostNames_56 : decode MX4_mostNames.2.1 56 = .ok (.iinc 5 1, 3) := by decide +kernel
theorem dX4_mostNames_59 : decode MX4_mostNames.2.1 59 = .ok (.goto (-46), 3) := by decide +kernel
theorem dX4_mostNames_62 : decode MX4_mostNames.2.1 62 = .ok (.iload 4, 2) := by decide +kernel
theorem dX4_mostNames_64 : decode MX4_mostNames.2.1 64 = .ok (.ireturn, 1) := by decide +kernel
theorem dX4_leastName_0 : decode MX4_leastName.2.1 0 = .ok (.aload_n 0, 1) := by decide +kernel
theorem dX4_leastName_1 : decode MX4_leastName.2.1 1 = .ok (.iload_n 2, 1) := by decide +kernel
theorem dX4_leastName_2 : decode MX4_leastName.2.1 2 = .ok (.iload_n 3, 1) := by decide +kernel
theorem dX4_leastName_3 : decode MX4_leastName.2.1 3 = .ok (.invokevirtual 85, 3) := by decide +kernel
theorem dX4_leastName_6 : decode MX4_leastName.2.1 6 = .ok (.istore 4, 2) := by decide +kernel
theorem dX4_leastName_8 : decode MX4_leastName.2.1 8 = .ok (.aload_n 0, 1) := by decide +kernel
theorem dX4_leastName_9 : decode MX4_leastName.2.1 9 = .ok (.iload_n 2, 1) := by decide +kernel
theorem dX4_leastName_10 : decode MX4_leastName.2.1 10 = .ok (.iconst 1, 1) := by decide +kernel
theorem dX4_leastName_11 : decode MX4_leastName.2.1 11 = .ok (.iadd, 1) := by decide +kernel
theorem dX4_leastName_12 : decode MX4_leastName.2.1 12 = .ok (.iload_n 3, 1) := by decide +kernel
theorem dX4_leastName_13 : decode MX4_leastName.2.1 13 = .ok (.invokevirtual 85, 3) := by decide +kernel
theorem dX4_leastName_16 : decode MX4_leastName.2.1 16 = .ok (.iload 4, 2) := by decide +kernel
theorem dX4_leastName_18 : decode MX4_leastName.2.1 18 = .ok (.if_icmp .ne 5, 3) := by decide +kernel
theorem dX4_leastName_21 : decode MX4_leastName.2.1 21 = .ok (.iconst (-1), 1) := by decide +kernel
theorem dX4_leastName_22 : decode MX4_leastName.2.1 22 = .ok (.ireturn, 1) := by decide +kernel
theorem dX4_leastName_23 : decode MX4_leastName.2.1 23 = .ok (.iconst 0, 1) := by decide +kernel
theorem dX4_leastName_24 : decode MX4_leastName.2.1 24 = .ok (.istore 5, 2) := by decide +kernel
theorem dX4_leastName_26 : decode MX4_leastName.2.1 26 = .ok (.iload 5, 2) := by decide +kernel
theorem dX4_leastName_28 : decode MX4_leastName.2.1 28 = .ok (.aload_n 1, 1) := by decide +kernel
theorem dX4_leastName_29 : decode MX4_leastName.2.1 29 = .ok (.getfield 36, 3) := by decide +kernel
theorem dX4_leastName_32 : decode MX4_leastName.2.1 32 = .ok (.if_icmp .ge 44, 3) := by decide +kernel
theorem dX4_leastName_35 : decode MX4_leastName.2.1 35 = .ok (.aload_n 0, 1) := by decide +kernel
theorem dX4_leastName_36 : decode MX4_leastName.2.1 36 = .ok (.aload_n 1, 1) := by decide +kernel
theorem dX4_leastName_37 : decode MX4_leastName.2.1 37 = .ok (.iload 5, 2) := by decide +kernel
theorem dX4_leastName_39 : decode MX4_leastName.2.1 39 = .ok (.iload_n 2, 1) := by decide +kernel
theorem dX4_leastName_40 : decode MX4_leastName.2.1 40 = .ok (.iload_n 3, 1) := by decide +kernel
theorem dX4_leastName_41 : decode MX4_leastName.2.1 41 = .ok (.invokevirtual 88, 3) := by decide +kernel
theorem dX4_leastName_44 : decode MX4_leastName.2.1 44 = .ok (.ifCond .eq 26, 3) := by decide +kernel
theorem dX4_leastName_47 : decode MX4_leastName.2.1 47 = .ok (.iconst 1, 1) := by decide +kernel
theorem dX4_leastName_48 : decode MX4_leastName.2.1 48 = .ok (.aload_n 0, 1) := by decide +kernel
theorem dX4_leastName_49 : decode MX4_leastName.2.1 49 = .ok (.iload_n 2, 1) := by decide +kernel
theorem dX4_leastName_50 : decode MX4_leastName.2.1 50 = .ok (.iconst 1, 1) := by decide +kernel
theorem dX4_leastName_51 : decode MX4_leastName.2.1 51 = .ok (.iadd, 1) := by decide +kernel
theorem dX4_leastName_52 : decode MX4_leastName.2.1 52 = .ok (.iload_n 3, 1) := by decide +kernel
theorem dX4_leastName_53 : decode MX4_leastName.2.1 53 = .ok (.iconst 1, 1) := by decide +kernel
theorem dX4_leastName_54 : decode MX4_leastName.2.1 54 = .ok (.iload 5, 2) := by decide +kernel
theorem dX4_leastName_56 : decode MX4_leastName.2.1 56 = .ok (.ishl, 1) := by decide +kernel
theorem dX4_leastName_57 : decode MX4_leastName.2.1 57 = .ok (.ior, 1) := by decide +kernel
theorem dX4_leastName_58 : decode MX4_leastName.2.1 58 = .ok (.invokevirtual 85, 3) := by decide +kernel
theorem dX4_leastName_61 : decode MX4_leastName.2.1 61 = .ok (.iadd, 1) := by decide +kernel
theorem dX4_leastName_62 : decode MX4_leastName.2.1 62 = .ok (.iload 4, 2) := by decide +kernel
theorem dX4_leastName_64 : decode MX4_leastName.2.1 64 = .ok (.if_icmp .ne 6, 3) := by decide +kernel
theorem dX4_leastName_67 : decode MX4_leastName.2.1 67 = .ok (.iload 5, 2) := by decide +kernel
theorem dX4_leastName_69 : decode MX4_leastName.2.1 69 = .ok (.ireturn, 1) := by decide +kernel
theorem dX4_leastName_70 : decode MX4_leastName.2.1 70 = .ok (.iinc 5 1, 3) := by decide +kernel
theorem dX4_leastName_73 : decode MX4_leastName.2.1 73 = .ok (.goto (-47), 3) := by decide +kernel
theorem dX4_leastName_76 : decode MX4_leastName.2.1 76 = .ok (.iconst (-1), 1) := by decide +kernel
theorem dX4_leastName_77 : decode MX4_leastName.2.1 77 = .ok (.ireturn, 1) := by decide +kernel
theorem dX4_mayBear_0 : decode MX4_mayBear.2.1 0 = .ok (.iload_n 2, 1) := by decide +kernel
theorem dX4_mayBear_1 : decode MX4_mayBear.2.1 1 = .ok (.iload 4, 2) := by decide +kernel
theorem dX4_mayBear_3 : decode MX4_mayBear.2.1 3 = .ok (.invokestatic 92, 3) := by decide +kernel
theorem dX4_mayBear_6 : decode MX4_mayBear.2.1 6 = .ok (.ifCond .ne 25, 3) := by decide +kernel
theorem dX4_mayBear_9 : decode MX4_mayBear.2.1 9 = .ok (.aload_n 1, 1) := by decide +kernel
theorem dX4_mayBear_10 : decode MX4_mayBear.2.1 10 = .ok (.getfield 96, 3) := by decide +kernel
theorem dX4_mayBear_13 : decode MX4_mayBear.2.1 13 = .ok (.iload_n 2, 1) := by decide +kernel
theorem dX4_mayBear_14 : decode MX4_mayBear.2.1 14 = .ok (.iaload, 1) := by decide +kernel
theorem dX4_mayBear_15 : decode MX4_mayBear.2.1 15 = .ok (.bipush 10, 2) := by decide +kernel
theorem dX4_mayBear_17 : decode MX4_mayBear.2.1 17 = .ok (.aload_n 0, 1) := by decide +kernel
theorem dX4_mayBear_18 : decode MX4_mayBear.2.1 18 = .ok (.getfield 18, 3) := by decide +kernel
theorem dX4_mayBear_21 : decode MX4_mayBear.2.1 21 = .ok (.iload_n 3, 1) := by decide +kernel
theorem dX4_mayBear_22 : decode MX4_mayBear.2.1 22 = .ok (.iaload, 1) := by decide +kernel
theorem dX4_mayBear_23 : decode MX4_mayBear.2.1 23 = .ok (.imul, 1) := by decide +kernel
theorem dX4_mayBear_24 : decode MX4_mayBear.2.1 24 = .ok (.if_icmp .lt 7, 3) := by decide +kernel
theorem dX4_mayBear_27 : decode MX4_mayBear.2.1 27 = .ok (.iconst 1, 1) := by decide +kernel
theorem dX4_mayBear_28 : decode MX4_mayBear.2.1 28 = .ok (.goto 4, 3) := by decide +kernel
theorem dX4_mayBear_31 : decode MX4_mayBear.2.1 31 = .ok (.iconst 0, 1) := by decide +kernel
theorem dX4_mayBear_32 : decode MX4_mayBear.2.1 32 = .ok (.ireturn, 1) := by decide +kernel
theorem dX4_namesFrom_0 : decode MX4_namesFrom.2.1 0 = .ok (.iload_n 1, 1) := by decide +kernel
theorem dX4_namesFrom_1 : decode MX4_namesFrom.2.1 1 = .ok (.bipush 64, 2) := by decide +kernel
theorem dX4_namesFrom_3 : decode MX4_namesFrom.2.1 3 = .ok (.imul, 1) := by decide +kernel
theorem dX4_namesFrom_4 : decode MX4_namesFrom.2.1 4 = .ok (.iload_n 2, 1) := by decide +kernel
theorem dX4_namesFrom_5 : decode MX4_namesFrom.2.1 5 = .ok (.iadd, 1) := by decide +kernel
theorem dX4_namesFrom_6 : decode MX4_namesFrom.2.1 6 = .ok (.istore_n 3, 1) := by decide +kernel
theorem dX4_namesFrom_7 : decode MX4_namesFrom.2.1 7 = .ok (.iload_n 3, 1) := by decide +kernel
theorem dX4_namesFrom_8 : decode MX4_namesFrom.2.1 8 = .ok (.ifCond .lt 21, 3) := by decide +kernel
theorem dX4_namesFrom_11 : decode MX4_namesFrom.2.1 11 = .ok (.iload_n 3, 1) := by decide +kernel
theorem dX4_namesFrom_12 : decode MX4_namesFrom.2.1 12 = .ok (.aload_n 0, 1) := by decide +kernel
theorem dX4_namesFrom_13 : decode MX4_namesFrom.2.1 13 = .ok (.getfield 21, 3) := by decide +kernel
theorem dX4_namesFrom_16 : decode MX4_namesFrom.2.1 16 = .ok (.arraylength, 1) := by decide +kernel
theorem dX4_namesFrom_17 : decode MX4_namesFrom.2.1 17 = .ok (.if_icmp .ge 12, 3) := by decide +kernel
theorem dX4_namesFrom_20 : decode MX4_namesFrom.2.1 20 = .ok (.aload_n 0, 1) := by decide +kernel
theorem dX4_namesFrom_21 : decode MX4_namesFrom.2.1 21 = .ok (.getfield 21, 3) := by decide +kernel
theorem dX4_namesFrom_24 : decode MX4_namesFrom.2.1 24 = .ok (.iload_n 3, 1) := by decide +kernel
theorem dX4_namesFrom_25 : decode MX4_namesFrom.2.1 25 = .ok (.iaload, 1) := by decide +kernel
theorem dX4_namesFrom_26 : decode MX4_namesFrom.2.1 26 = .ok (.goto 4, 3) := by decide +kernel
theorem dX4_namesFrom_29 : decode MX4_namesFrom.2.1 29 = .ok (.iconst 0, 1) := by decide +kernel
theorem dX4_namesFrom_30 : decode MX4_namesFrom.2.1 30 = .ok (.ireturn, 1) := by decide +kernel
theorem dX5_init_0 : decode MX5_init.2.1 0 = .ok (.aload_n 0, 1) := by decide +kernel
theorem dX5_init_1 : decode MX5_init.2.1 1 = .ok (.invokespecial 3, 3) := by decide +kernel
theorem dX5_init_4 : decode MX5_init.2.1 4 = .ok (.aload_n 0, 1) := by decide +kernel
theorem dX5_init_5 : decode MX5_init.2.1 5 = .ok (.bipush 13, 2) := by decide +kernel
theorem dX5_init_7 : decode MX5_init.2.1 7 = .ok (.anewarray 9, 3) := by decide +kernel
theorem dX5_init_10 : decode MX5_init.2.1 10 = .ok (.putfield 11, 3) := by decide +kernel
theorem dX5_init_13 : decode MX5_init.2.1 13 = .ok (.iconst 0, 1) := by decide +kernel
theorem dX5_init_14 : decode MX5_init.2.1 14 = .ok (.istore_n 1, 1) := by decide +kernel
theorem dX5_init_15 : decode MX5_init.2.1 15 = .ok (.iload_n 1, 1) := by decide +kernel
theorem dX5_init_16 : decode MX5_init.2.1 16 = .ok (.bipush 13, 2) := by decide +kernel
theorem dX5_init_18 : decode MX5_init.2.1 18 = .ok (.if_icmp .ge 22, 3) := by decide +kernel
theorem dX5_init_21 : decode MX5_init.2.1 21 = .ok (.aload_n 0, 1) := by decide +kernel
theorem dX5_init_22 : decode MX5_init.2.1 22 = .ok (.getfield 11, 3) := by decide +kernel
theorem dX5_init_25 : decode MX5_init.2.1 25 = .ok (.iload_n 1, 1) := by decide +kernel
theorem dX5_init_26 : decode MX5_init.2.1 26 = .ok (.new 9, 3) := by decide +kernel
theorem dX5_init_29 : decode MX5_init.2.1 29 = .ok (.dup, 1) := by decide +kernel
theorem dX5_init_30 : decode MX5_init.2.1 30 = .ok (.invokespecial 15, 3) := by decide +kernel
theorem dX5_init_33 : decode MX5_init.2.1 33 = .ok (.aastore, 1) := by decide +kernel
theorem dX5_init_34 : decode MX5_init.2.1 34 = .ok (.iinc 1 1, 3) := by decide +kernel
theorem dX5_init_37 : decode MX5_init.2.1 37 = .ok (.goto (-22), 3) := by decide +kernel
theorem dX5_init_40 : decode MX5_init.2.1 40 = .ok (.return_, 1) := by decide +kernel
theorem dX5_size_0 : decode MX5_size.2.1 0 = .ok (.aload_n 0, 1) := by decide +kernel
theorem dX5_size_1 : decode MX5_size.2.1 1 = .ok (.getfield 16, 3) := by decide +kernel
theorem dX5_size_4 : decode MX5_size.2.1 4 = .ok (.ireturn, 1) := by decide +kernel
theorem dX5_forgetAll_0 : decode MX5_forgetAll.2.1 0 = .ok (.aload_n 0, 1) := by decide +kernel
theorem dX5_forgetAll_1 : decode MX5_forgetAll.2.1 1 = .ok (.iconst 0, 1) := by decide +kernel
theorem dX5_forgetAll_2 : decode MX5_forgetAll.2.1 2 = .ok (.putfield 16, 3) := by decide +kernel
theorem dX5_forgetAll_5 : decode MX5_forgetAll.2.1 5 = .ok (.return_, 1) := by decide +kernel
theorem dX5_note_0 : decode MX5_note.2.1 0 = .ok (.aload_n 0, 1) := by decide +kernel
theorem dX5_note_1 : decode MX5_note.2.1 1 = .ok (.getfield 11, 3) := by decide +kernel
theorem dX5_note_4 : decode MX5_note.2.1 4 = .ok (.aload_n 0, 1) := by decide +kernel
theorem dX5_note_5 : decode MX5_note.2.1 5 = .ok (.getfield 20, 3) := by decide +kernel
theorem dX5_note_8 : decode MX5_note.2.1 8 = .ok (.aaload, 1) := by decide +kernel
theorem dX5_note_9 : decode MX5_note.2.1 9 = .ok (.astore_n 2, 1) := by decide +kernel
theorem dX5_note_10 : decode MX5_note.2.1 10 = .ok (.aload_n 2, 1) := by decide +kernel
theorem dX5_note_11 : decode MX5_note.2.1 11 = .ok (.ifnull 8, 3) := by decide +kernel
theorem dX5_note_14 : decode MX5_note.2.1 14 = .ok (.aload_n 2, 1) := by decide +kernel
theorem dX5_note_15 : decode MX5_note.2.1 15 = .ok (.aload_n 1, 1) := by decide +kernel
theorem dX5_note_16 : decode MX5_note.2.1 16 = .ok (.invokevirtual 23, 3) := by decide +kernel
theorem dX5_note_19 : decode MX5_note.2.1 19 = .ok (.return_, 1) := by decide +kernel
theorem dX5_keepNoted_0 : decode MX5_keepNoted.2.1 0 = .ok (.aload_n 0, 1) := by decide +kernel
theorem dX5_keepNoted_1 : decode MX5_keepNoted.2.1 1 = .ok (.aload_n 0, 1) := by decide +kernel
theorem dX5_keepNoted_2 : decode MX5_keepNoted.2.1 2 = .ok (.getfield 20, 3) := by decide +kernel
theorem dX5_keepNoted_5 : decode MX5_keepNoted.2.1 5 = .ok (.iconst 1, 1) := by decide +kernel
theorem dX5_keepNoted_6 : decode MX5_keepNoted.2.1 6 = .ok (.iadd, 1) := by decide +kernel
theorem dX5_keepNoted_7 : decode MX5_keepNoted.2.1 7 = .ok (.bipush 13, 2) := by decide +kernel
theorem dX5_keepNoted_9 : decode MX5_keepNoted.2.1 9 = .ok (.irem, 1) := by decide +kernel
theorem dX5_keepNoted_10 : decode MX5_keepNoted.2.1 10 = .ok (.putfield 20, 3) := by decide +kernel
theorem dX5_keepNoted_13 : decode MX5_keepNoted.2.1 13 = .ok (.aload_n 0, 1) := by decide +kernel
theorem dX5_keepNoted_14 : decode MX5_keepNoted.2.1 14 = .ok (.bipush 12, 2) := by decide +kernel
theorem dX5_keepNoted_16 : decode MX5_keepNoted.2.1 16 = .ok (.aload_n 0, 1) := by decide +kernel
theorem dX5_keepNoted_17 : decode MX5_keepNoted.2.1 17 = .ok (.getfield 16, 3) := by decide +kernel
theorem dX5_keepNoted_20 : decode MX5_keepNoted.2.1 20 = .ok (.iconst 1, 1) := by decide +kernel
theorem dX5_keepNoted_21 : decode MX5_keepNoted.2.1 21 = .ok (.iadd, 1) := by decide +kernel
theorem dX5_keepNoted_22 : decode MX5_keepNoted.2.1 22 = .ok (.invokestatic 27, 3) := by decide +kernel
theorem dX5_keepNoted_25 : decode MX5_keepNoted.2.1 25 = .ok (.putfield 16, 3) := by decide +kernel
theorem dX5_keepNoted_28 : decode MX5_keepNoted.2.1 28 = .ok (.return_, 1) := by decide +kernel
theorem dX5_back_0 : decode MX5_back.2.1 0 = .ok (.aload_n 0, 1) := by decide +kernel
theorem dX5_back_1 : decode MX5_back.2.1 1 = .ok (.getfield 16, 3) := by decide +kernel
theorem dX5_back_4 : decode MX5_back.2.1 4 = .ok (.ifCond .ne 5, 3) := by decide +kernel
theorem dX5_back_7 : decode MX5_back.2.1 7 = .ok (.iconst 0, 1) := by decide +kernel
theorem dX5_back_8 : decode MX5_back.2.1 8 = .ok (.ireturn, 1) := by decide +kernel
theorem dX5_back_9 : decode MX5_back.2.1 9 = .ok (.aload_n 0, 1) := by decide +kernel
theorem dX5_back_10 : decode MX5_back.2.1 10 = .ok (.aload_n 0, 1) := by decide +kernel
theorem dX5_back_11 : decode MX5_back.2.1 11 = .ok (.getfield 20, 3) := by decide +kernel
theorem dX5_back_14 : decode MX5_back.2.1 14 = .ok (.bipush 13, 2) := by decide +kernel
theorem dX5_back_16 : decode MX5_back.2.1 16 = .ok (.iadd, 1) := by decide +kernel
theorem dX5_back_17 : decode MX5_back.2.1 17 = .ok (.iconst 1, 1) := by decide +kernel
theorem dX5_back_18 : decode MX5_back.2.1 18 = .ok (.isub, 1) := by decide +kernel
theorem dX5_back_19 : decode MX5_back.2.1 19 = .ok (.bipush 13, 2) := by decide +kernel
theorem dX5_back_21 : decode MX5_back.2.1 21 = .ok (.irem, 1) := by decide +kernel
theorem dX5_back_22 : decode MX5_back.2.1 22 = .ok (.putfield 20, 3) := by decide +kernel
theorem dX5_back_25 : decode MX5_back.2.1 25 = .ok (.aload_n 0, 1) := by decide +kernel
theorem dX5_back_26 : decode MX5_back.2.1 26 = .ok (.dup, 1) := by decide +kernel
theorem dX5_back_27 : decode MX5_back.2.1 27 = .ok (.getfield 16, 3) := by decide +kernel
theorem dX5_back_30 : decode MX5_back.2.1 30 = .ok (.iconst 1, 1) := by decide +kernel
theorem dX5_back_31 : decode MX5_back.2.1 31 = .ok (.isub, 1) := by decide +kernel
theorem dX5_back_32 : decode MX5_back.2.1 32 = .ok (.putfield 16, 3) := by decide +kernel
theorem dX5_back_35 : decode MX5_back.2.1 35 = .ok (.aload_n 0, 1) := by decide +kernel
theorem dX5_back_36 : decode MX5_back.2.1 36 = .ok (.getfield 11, 3) := by decide +kernel
theorem dX5_back_39 : decode MX5_back.2.1 39 = .ok (.aload_n 0, 1) := by decide +kernel
theorem dX5_back_40 : decode MX5_back.2.1 40 = .ok (.getfield 20, 3) := by decide +kernel
theorem dX5_back_43 : decode MX5_back.2.1 43 = .ok (.aaload, 1) := by decide +kernel
theorem dX5_back_44 : decode MX5_back.2.1 44 = .ok (.astore_n 2, 1) := by decide +kernel
theorem dX5_back_45 : decode MX5_back.2.1 45 = .ok (.aload_n 2, 1) := by decide +kernel
theorem dX5_back_46 : decode MX5_back.2.1 46 = .ok (.ifnull 8, 3) := by decide +kernel
theorem dX5_back_49 : decode MX5_back.2.1 49 = .ok (.aload_n 1, 1) := by decide +kernel
theorem dX5_back_50 : decode MX5_back.2.1 50 = .ok (.aload_n 2, 1) := by decide +kernel
theorem dX5_back_51 : decode MX5_back.2.1 51 = .ok (.invokevirtual 23, 3) := by decide +kernel
theorem dX5_back_54 : decode MX5_back.2.1 54 = .ok (.iconst 1, 1) := by decide +kernel
theorem dX5_back_55 : decode MX5_back.2.1 55 = .ok (.ireturn, 1) := by decide +kernel
theorem dX6_init_0 : decode MX6_init.2.1 0 = .ok (.aload_n 0, 1) := by decide +kernel
theorem dX6_init_1 : decode MX6_init.2.1 1 = .ok (.invokespecial 3, 3) := by decide +kernel
theorem dX6_init_4 : decode MX6_init.2.1 4 = .ok (.aload_n 0, 1) := by decide +kernel
theorem dX6_init_5 : decode MX6_init.2.1 5 = .ok (.bipush 6, 2) := by decide +kernel
theorem dX6_init_7 : decode MX6_init.2.1 7 = .ok (.newarray .long, 2) := by decide +kernel
theorem dX6_init_9 : decode MX6_init.2.1 9 = .ok (.putfield 9, 3) := by decide +kernel
theorem dX6_init_12 : decode MX6_init.2.1 12 = .ok (.return_, 1) := by decide +kernel
theorem dX6_clear_0 : decode MX6_clear.2.1 0 = .ok (.aload_n 0, 1) := by decide +kernel
theorem dX6_clear_1 : decode MX6_clear.2.1 1 = .ok (.iconst 0, 1) := by decide +kernel
theorem dX6_clear_2 : decode MX6_clear.2.1 2 = .ok (.putfield 15, 3) := by decide +kernel
theorem dX6_clear_5 : decode MX6_clear.2.1 5 = .ok (.return_, 1) := by decide +kernel
theorem dX6_add_0 : decode MX6_add.2.1 0 = .ok (.aload_n 0, 1) := by decide +kernel
theorem dX6_add_1 : decode MX6_add.2.1 1 = .ok (.getfield 15, 3) := by decide +kernel
theorem dX6_add_4 : decode MX6_add.2.1 4 = .ok (.aload_n 0, 1) := by decide +kernel
theorem dX6_add_5 : decode MX6_add.2.1 5 = .ok (.getfield 9, 3) := by decide +kernel
theorem dX6_add_8 : decode MX6_add.2.1 8 = .ok (.arraylength, 1) := by decide +kernel
theorem dX6_add_9 : decode MX6_add.2.1 9 = .ok (.if_icmp .ge 23, 3) := by decide +kernel
theorem dX6_add_12 : decode MX6_add.2.1 12 = .ok (.aload_n 0, 1) := by decide +kernel
theorem dX6_add_13 : decode MX6_add.2.1 13 = .ok (.getfield 9, 3) := by decide +kernel
theorem dX6_add_16 : decode MX6_add.2.1 16 = .ok (.aload_n 0, 1) := by decide +kernel
theorem dX6_add_17 : decode MX6_add.2.1 17 = .ok (.getfield 15, 3) := by decide +kernel
theorem dX6_add_20 : decode MX6_add.2.1 20 = .ok (.lload_n 1, 1) := by decide +kernel
theorem dX6_add_21 : decode MX6_add.2.1 21 = .ok (.lastore, 1) := by decide +kernel
theorem dX6_add_22 : decode MX6_add.2.1 22 = .ok (.aload_n 0, 1) := by decide +kernel
theorem dX6_add_23 : decode MX6_add.2.1 23 = .ok (.dup, 1) := by decide +kernel
theorem dX6_add_24 : decode MX6_add.2.1 24 = .ok (.getfield 15, 3) := by decide +kernel
theorem dX6_add_27 : decode MX6_add.2.1 27 = .ok (.iconst 1, 1) := by decide +kernel
theorem dX6_add_28 : decode MX6_add.2.1 28 = .ok (.iadd, 1) := by decide +kernel
theorem dX6_add_29 : decode MX6_add.2.1 29 = .ok (.putfield 15, 3) := by decide +kernel
theorem dX6_add_32 : decode MX6_add.2.1 32 = .ok (.return_, 1) := by decide +kernel
theorem dX6_tell_0 : decode MX6_tell.2.1 0 = .ok (.aload_n 0, 1) := by decide +kernel
theorem dX6_tell_1 : decode MX6_tell.2.1 1 = .ok (.invokevirtual 19, 3) := by decide +kernel
theorem dX6_tell_4 : decode MX6_tell.2.1 4 = .ok (.aload_n 0, 1) := by decide +kernel
theorem dX6_tell_5 : decode MX6_tell.2.1 5 = .ok (.lload_n 1, 1) := by decide +kernel
theorem dX6_tell_6 : decode MX6_tell.2.1 6 = .ok (.invokevirtual 22, 3) := by decide +kernel
theorem dX6_tell_9 : decode MX6_tell.2.1 9 = .ok (.return_, 1) := by decide +kernel
theorem dX6_tell__0 : decode MX6_tell_.2.1 0 = .ok (.aload_n 0, 1) := by decide +kernel
theorem dX6_tell__1 : decode MX6_tell_.2.1 1 = .ok (.lload_n 1, 1) := by decide +kernel
theorem dX6_tell__2 : decode MX6_tell_.2.1 2 = .ok (.invokevirtual 26, 3) := by decide +kernel
theorem dX6_tell__5 : decode MX6_tell_.2.1 5 = .ok (.aload_n 0, 1) := by decide +kernel
theorem dX6_tell__6 : decode MX6_tell_.2.1 6 = .ok (.lload_n 3, 1) := by decide +kernel
theorem dX6_tell__7 : decode MX6_tell_.2.1 7 = .ok (.invokevirtual 22, 3) := by decide +kernel
theorem dX6_tell__10 : decode MX6_tell_.2.1 10 = .ok (.return_, 1) := by decide +kernel
theorem dX6_tell___0 : decode MX6_tell__.2.1 0 = .ok (.aload_n 0, 1) := by decide +kernel
theorem dX6_tell___1 : decode MX6_tell__.2.1 1 = .ok (.lload_n 1, 1) := by decide +kernel
theorem dX6_tell___2 : decode MX6_tell__.2.1 2 = .ok (.lload_n 3, 1) := by decide +kernel
theorem dX6_tell___3 : decode MX6_tell__.2.1 3 = .ok (.invokevirtual 29, 3) := by decide +kernel
theorem dX6_tell___6 : decode MX6_tell__.2.1 6 = .ok (.aload_n 0, 1) := by decide +kernel
theorem dX6_tell___7 : decode MX6_tell__.2.1 7 = .ok (.lload 5, 2) := by decide +kernel
theorem dX6_tell___9 : decode MX6_tell__.2.1 9 = .ok (.invokevirtual 22, 3) := by decide +kernel
theorem dX6_tell___12 : decode MX6_tell__.2.1 12 = .ok (.return_, 1) := by decide +kernel
theorem dX6_size_0 : decode MX6_size.2.1 0 = .ok (.aload_n 0, 1) := by decide +kernel
theorem dX6_size_1 : decode MX6_size.2.1 1 = .ok (.getfield 15, 3) := by decide +kernel
theorem dX6_size_4 : decode MX6_size.2.1 4 = .ok (.ireturn, 1) := by decide +kernel
theorem dX6_at_0 : decode MX6_at.2.1 0 = .ok (.iload_n 1, 1) := by decide +kernel
theorem dX6_at_1 : decode MX6_at.2.1 1 = .ok (.ifCond .lt 20, 3) := by decide +kernel
theorem dX6_at_4 : decode MX6_at.2.1 4 = .ok (.iload_n 1, 1) := by decide +kernel
theorem dX6_at_5 : decode MX6_at.2.1 5 = .ok (.aload_n 0, 1) := by decide +kernel
theorem dX6_at_6 : decode MX6_at.2.1 6 = .ok (.getfield 15, 3) := by decide +kernel
theorem dX6_at_9 : decode MX6_at.2.1 9 = .ok (.if_icmp .ge 12, 3) := by decide +kernel
theorem dX6_at_12 : decode MX6_at.2.1 12 = .ok (.aload_n 0, 1) := by decide +kernel
theorem dX6_at_13 : decode MX6_at.2.1 13 = .ok (.getfield 9, 3) := by decide +kernel
theorem dX6_at_16 : decode MX6_at.2.1 16 = .ok (.iload_n 1, 1) := by decide +kernel
theorem dX6_at_17 : decode MX6_at.2.1 17 = .ok (.laload, 1) := by decide +kernel
theorem dX6_at_18 : decode MX6_at.2.1 18 = .ok (.goto 4, 3) := by decide +kernel
theorem dX6_at_21 : decode MX6_at.2.1 21 = .ok (.lconst 0, 1) := by decide +kernel
theorem dX6_at_22 : decode MX6_at.2.1 22 = .ok (.lreturn, 1) := by decide +kernel
theorem dX7_init_0 : decode MX7_init.2.1 0 = .ok (.aload_n 0, 1) := by decide +kernel
theorem dX7_init_1 : decode MX7_init.2.1 1 = .ok (.invokespecial 3, 3) := by decide +kernel
theorem dX7_init_4 : decode MX7_init.2.1 4 = .ok (.aload_n 0, 1) := by decide +kernel
theorem dX7_init_5 : decode MX7_init.2.1 5 = .ok (.bipush 40, 2) := by decide +kernel
theorem dX7_init_7 : decode MX7_init.2.1 7 = .ok (.newarray .int, 2) := by decide +kernel
theorem dX7_init_9 : decode MX7_init.2.1 9 = .ok (.putfield 11, 3) := by decide +kernel
theorem dX7_init_12 : decode MX7_init.2.1 12 = .ok (.aload_n 0, 1) := by decide +kernel
theorem dX7_init_13 : decode MX7_init.2.1 13 = .ok (.bipush 40, 2) := by decide +kernel
theorem dX7_init_15 : decode MX7_init.2.1 15 = .ok (.newarray .int, 2) := by decide +kernel
theorem dX7_init_17 : decode MX7_init.2.1 17 = .ok (.putfield 15, 3) := by decide +kernel
theorem dX7_init_20 : decode MX7_init.2.1 20 = .ok (.aload_n 0, 1) := by decide +kernel
theorem dX7_init_21 : decode MX7_init.2.1 21 = .ok (.bipush 40, 2) := by decide +kernel
theorem dX7_init_23 : decode MX7_init.2.1 23 = .ok (.newarray .int, 2) := by decide +kernel
theorem dX7_init_25 : decode MX7_init.2.1 25 = .ok (.putfield 18, 3) := by decide +kernel
theorem dX7_init_28 : decode MX7_init.2.1 28 = .ok (.aload_n 0, 1) := by decide +kernel
theorem dX7_init_29 : decode MX7_init.2.1 29 = .ok (.invokevirtual 21, 3) := by decide +kernel
theorem dX7_init_32 : decode MX7_init.2.1 32 = .ok (.return_, 1) := by decide +kernel
theorem dX7_read_0 : decode MX7_read.2.1 0 = .ok (.aload_n 1, 1) := by decide +kernel
theorem dX7_read_1 : decode MX7_read.2.1 1 = .ok (.invokevirtual 24, 3) := by decide +kernel
theorem dX7_read_4 : decode MX7_read.2.1 4 = .ok (.ifCond .ne 9, 3) := by decide +kernel
theorem dX7_read_7 : decode MX7_read.2.1 7 = .ok (.aload_n 0, 1) := by decide +kernel
theorem dX7_read_8 : decode MX7_read.2.1 8 = .ok (.invokevirtual 21, 3) := by decide +kernel
theorem dX7_read_11 : decode MX7_read.2.1 11 = .ok (.iconst (-1), 1) := by decide +kernel
theorem dX7_read_12 : decode MX7_read.2.1 12 = .ok (.ireturn, 1) := by decide +kernel
theorem dX7_read_13 : decode MX7_read.2.1 13 = .ok (.aload_n 0, 1) := by decide +kernel
theorem dX7_read_14 : decode MX7_read.2.1 14 = .ok (.aload_n 1, 1) := by decide +kernel
theorem dX7_read_15 : decode MX7_read.2.1 15 = .ok (.invokevirtual 24, 3) := by decide +kernel
theorem dX7_read_18 : decode MX7_read.2.1 18 = .ok (.bipush 40, 2) := by decide +kernel
theorem dX7_read_20 : decode MX7_read.2.1 20 = .ok (.invokestatic 30, 3) := by decide +kernel
theorem dX7_read_23 : decode MX7_read.2.1 23 = .ok (.putfield 36, 3) := by decide +kernel
theorem dX7_read_26 : decode MX7_read.2.1 26 = .ok (.iconst 0, 1) := by decide +kernel
theorem dX7_read_27 : decode MX7_read.2.1 27 = .ok (.istore_n 2, 1) := by decide +kernel
theorem dX7_read_28 : decode MX7_read.2.1 28 = .ok (.iload_n 2, 1) := by decide +kernel
theorem dX7_read_29 : decode MX7_read.2.1 29 = .ok (.aload_n 0, 1) := by decide +kernel
theorem dX7_read_30 : decode MX7_read.2.1 30 = .ok (.getfield 36, 3) := by decide +kernel
theorem dX7_read_33 : decode MX7_read.2.1 33 = .ok (.if_icmp .ge 20, 3) := by decide +kernel
theorem dX7_read_36 : decode MX7_read.2.1 36 = .ok (.aload_n 0, 1) := by decide +kernel
theorem dX7_read_37 : decode MX7_read.2.1 37 = .ok (.getfield 11, 3) := by decide +kernel
theorem dX7_read_40 : decode MX7_read.2.1 40 = .ok (.iload_n 2, 1) := by decide +kernel
theorem dX7_read_41 : decode MX7_read.2.1 41 = .ok (.aload_n 1, 1) := by decide +kernel
theorem dX7_read_42 : decode MX7_read.2.1 42 = .ok (.iload_n 2, 1) := by decide +kernel
theorem dX7_read_43 : decode MX7_read.2.1 43 = .ok (.invokevirtual 39, 3) := by decide +kernel
theorem dX7_read_46 : decode MX7_read.2.1 46 = .ok (.iastore, 1) := by decide +kernel
theorem dX7_read_47 : decode MX7_read.2.1 47 = .ok (.iinc 2 1, 3) := by decide +kernel
theorem dX7_read_50 : decode MX7_read.2.1 50 = .ok (.goto (-22), 3) := by decide +kernel
theorem dX7_read_53 : decode MX7_read.2.1 53 = .ok (.aload_n 0, 1) := by decide +kernel
theorem dX7_read_54 : decode MX7_read.2.1 54 = .ok (.invokevirtual 43, 3) := by decide +kernel
theorem dX7_read_57 : decode MX7_read.2.1 57 = .ok (.ifCond .eq 18, 3) := by decide +kernel
theorem dX7_read_60 : decode MX7_read.2.1 60 = .ok (.aload_n 1, 1) := by decide +kernel
theorem dX7_read_61 : decode MX7_read.2.1 61 = .ok (.invokevirtual 24, 3) := by decide +kernel
theorem dX7_read_64 : decode MX7_read.2.1 64 = .ok (.aload_n 0, 1) := by decide +kernel
theorem dX7_read_65 : decode MX7_read.2.1 65 = .ok (.getfield 36, 3) := by decide +kernel
theorem dX7_read_68 : decode MX7_read.2.1 68 = .ok (.if_icmp .ne 7, 3) := by decide +kernel
theorem dX7_read_71 : decode MX7_read.2.1 71 = .ok (.iconst (-1), 1) := by decide +kernel
theorem dX7_read_72 : decode MX7_read.2.1 72 = .ok (.goto 7, 3) := by decide +kernel
theorem dX7_read_75 : decode MX7_read.2.1 75 = .ok (.aload_n 0, 1) := by decide +kernel
theorem dX7_read_76 : decode MX7_read.2.1 76 = .ok (.getfield 47, 3) := by decide +kernel
theorem dX7_read_79 : decode MX7_read.2.1 79 = .ok (.ireturn, 1) := by decide +kernel
