theorem dX7_readFirst_0 : decode MX7_readFirst.2.1 0 = .ok (.aload_n 0, 1) := by decide +kernel
theorem dX7_readFirst_1 : decode MX7_readFirst.2.1 1 = .ok (.ldc 49, 2) := by decide +kernel
theorem dX7_readFirst_3 : decode MX7_readFirst.2.1 3 = .ok (.invokevirtual 51, 3) := by decide +kernel
theorem dX7_readFirst_6 : decode MX7_readFirst.2.1 6 = .ok (.putfield 36, 3) := by decide +kernel
theorem dX7_readFirst_9 : decode MX7_readFirst.2.1 9 = .ok (.iconst 0, 1) := by decide +kernel
theorem dX7_readFirst_10 : decode MX7_readFirst.2.1 10 = .ok (.istore_n 1, 1) := by decide +kernel
theorem dX7_readFirst_11 : decode MX7_readFirst.2.1 11 = .ok (.iload_n 1, 1) := by decide +kernel
theorem dX7_readFirst_12 : decode MX7_readFirst.2.1 12 = .ok (.aload_n 0, 1) := by decide +kernel
theorem dX7_readFirst_13 : decode MX7_readFirst.2.1 13 = .ok (.getfield 36, 3) := by decide +kernel
theorem dX7_readFirst_16 : decode MX7_readFirst.2.1 16 = .ok (.if_icmp .ge 27, 3) := by decide +kernel
theorem dX7_readFirst_19 : decode MX7_readFirst.2.1 19 = .ok (.iload_n 1, 1) := by decide +kernel
theorem dX7_readFirst_20 : decode MX7_readFirst.2.1 20 = .ok (.bipush 40, 2) := by decide +kernel
theorem dX7_readFirst_22 : decode MX7_readFirst.2.1 22 = .ok (.if_icmp .ge 21, 3) := by decide +kernel
theorem dX7_readFirst_25 : decode MX7_readFirst.2.1 25 = .ok (.aload_n 0, 1) := by decide +kernel
theorem dX7_readFirst_26 : decode MX7_readFirst.2.1 26 = .ok (.getfield 11, 3) := by decide +kernel
theorem dX7_readFirst_29 : decode MX7_readFirst.2.1 29 = .ok (.iload_n 1, 1) := by decide +kernel
theorem dX7_readFirst_30 : decode MX7_readFirst.2.1 30 = .ok (.ldc 49, 2) := by decide +kernel
theorem dX7_readFirst_32 : decode MX7_readFirst.2.1 32 = .ok (.iload_n 1, 1) := by decide +kernel
theorem dX7_readFirst_33 : decode MX7_readFirst.2.1 33 = .ok (.invokevirtual 54, 3) := by decide +kernel
theorem dX7_readFirst_36 : decode MX7_readFirst.2.1 36 = .ok (.iastore, 1) := by decide +kernel
theorem dX7_readFirst_37 : decode MX7_readFirst.2.1 37 = .ok (.iinc 1 1, 3) := by decide +kernel
theorem dX7_readFirst_40 : decode MX7_readFirst.2.1 40 = .ok (.goto (-29), 3) := by decide +kernel
theorem dX7_readFirst_43 : decode MX7_readFirst.2.1 43 = .ok (.aload_n 0, 1) := by decide +kernel
theorem dX7_readFirst_44 : decode MX7_readFirst.2.1 44 = .ok (.invokevirtual 43, 3) := by decide +kernel
theorem dX7_readFirst_47 : decode MX7_readFirst.2.1 47 = .ok (.pop, 1) := by decide +kernel
theorem dX7_readFirst_48 : decode MX7_readFirst.2.1 48 = .ok (.return_, 1) := by decide +kernel
theorem dX7_readAll_0 : decode MX7_readAll.2.1 0 = .ok (.aload_n 0, 1) := by decide +kernel
theorem dX7_readAll_1 : decode MX7_readAll.2.1 1 = .ok (.iconst 0, 1) := by decide +kernel
theorem dX7_readAll_2 : decode MX7_readAll.2.1 2 = .ok (.putfield 47, 3) := by decide +kernel
theorem dX7_readAll_5 : decode MX7_readAll.2.1 5 = .ok (.aload_n 0, 1) := by decide +kernel
theorem dX7_readAll_6 : decode MX7_readAll.2.1 6 = .ok (.iconst 0, 1) := by decide +kernel
theorem dX7_readAll_7 : decode MX7_readAll.2.1 7 = .ok (.putfield 58, 3) := by decide +kernel
theorem dX7_readAll_10 : decode MX7_readAll.2.1 10 = .ok (.aload_n 0, 1) := by decide +kernel
theorem dX7_readAll_11 : decode MX7_readAll.2.1 11 = .ok (.iconst 0, 1) := by decide +kernel
theorem dX7_readAll_12 : decode MX7_readAll.2.1 12 = .ok (.invokevirtual 61, 3) := by decide +kernel
theorem dX7_readAll_15 : decode MX7_readAll.2.1 15 = .ok (.ifCond .eq 18, 3) := by decide +kernel
theorem dX7_readAll_18 : decode MX7_readAll.2.1 18 = .ok (.aload_n 0, 1) := by decide +kernel
theorem dX7_readAll_19 : decode MX7_readAll.2.1 19 = .ok (.getfield 47, 3) := by decide +kernel
theorem dX7_readAll_22 : decode MX7_readAll.2.1 22 = .ok (.aload_n 0, 1) := by decide +kernel
theorem dX7_readAll_23 : decode MX7_readAll.2.1 23 = .ok (.getfield 36, 3) := by decide +kernel
theorem dX7_readAll_26 : decode MX7_readAll.2.1 26 = .ok (.if_icmp .ne 7, 3) := by decide +kernel
theorem dX7_readAll_29 : decode MX7_readAll.2.1 29 = .ok (.iconst 1, 1) := by decide +kernel
theorem dX7_readAll_30 : decode MX7_readAll.2.1 30 = .ok (.goto 4, 3) := by decide +kernel
theorem dX7_readAll_33 : decode MX7_readAll.2.1 33 = .ok (.iconst 0, 1) := by decide +kernel
theorem dX7_readAll_34 : decode MX7_readAll.2.1 34 = .ok (.ireturn, 1) := by decide +kernel
theorem dX7_readExpression_0 : decode MX7_readExpression.2.1 0 = .ok (.aload_n 0, 1) := by decide +kernel
theorem dX7_readExpression_1 : decode MX7_readExpression.2.1 1 = .ok (.iload_n 1, 1) := by decide +kernel
theorem dX7_readExpression_2 : decode MX7_readExpression.2.1 2 = .ok (.invokevirtual 65, 3) := by decide +kernel
theorem dX7_readExpression_5 : decode MX7_readExpression.2.1 5 = .ok (.ifCond .ne 5, 3) := by decide +kernel
theorem dX7_readExpression_8 : decode MX7_readExpression.2.1 8 = .ok (.iconst 0, 1) := by decide +kernel
theorem dX7_readExpression_9 : decode MX7_readExpression.2.1 9 = .ok (.ireturn, 1) := by decide +kernel
theorem dX7_readExpression_10 : decode MX7_readExpression.2.1 10 = .ok (.aload_n 0, 1) := by decide +kernel
theorem dX7_readExpression_11 : decode MX7_readExpression.2.1 11 = .ok (.invokevirtual 68, 3) := by decide +kernel
theorem dX7_readExpression_14 : decode MX7_readExpression.2.1 14 = .ok (.istore_n 2, 1) := by decide +kernel
theorem dX7_readExpression_15 : decode MX7_readExpression.2.1 15 = .ok (.iload_n 2, 1) := by decide +kernel
theorem dX7_readExpression_16 : decode MX7_readExpression.2.1 16 = .ok (.bipush 60, 2) := by decide +kernel
theorem dX7_readExpression_18 : decode MX7_readExpression.2.1 18 = .ok (.if_icmp .eq 17, 3) := by decide +kernel
theorem dX7_readExpression_21 : decode MX7_readExpression.2.1 21 = .ok (.iload_n 2, 1) := by decide +kernel
theorem dX7_readExpression_22 : decode MX7_readExpression.2.1 22 = .ok (.bipush 62, 2) := by decide +kernel
theorem dX7_readExpression_24 : decode MX7_readExpression.2.1 24 = .ok (.if_icmp .eq 11, 3) := by decide +kernel
theorem dX7_readExpression_27 : decode MX7_readExpression.2.1 27 = .ok (.iload_n 2, 1) := by decide +kernel
theorem dX7_readExpression_28 : decode MX7_readExpression.2.1 28 = .ok (.bipush 61, 2) := by decide +kernel
theorem dX7_readExpression_30 : decode MX7_readExpression.2.1 30 = .ok (.if_icmp .eq 5, 3) := by decide +kernel
theorem dX7_readExpression_33 : decode MX7_readExpression.2.1 33 = .ok (.iconst 1, 1) := by decide +kernel
theorem dX7_readExpression_34 : decode MX7_readExpression.2.1 34 = .ok (.ireturn, 1) := by decide +kernel
theorem dX7_readExpression_35 : decode MX7_readExpression.2.1 35 = .ok (.aload_n 0, 1) := by decide +kernel
theorem dX7_readExpression_36 : decode MX7_readExpression.2.1 36 = .ok (.dup, 1) := by decide +kernel
theorem dX7_readExpression_37 : decode MX7_readExpression.2.1 37 = .ok (.getfield 47, 3) := by decide +kernel
theorem dX7_readExpression_40 : decode MX7_readExpression.2.1 40 = .ok (.iconst 1, 1) := by decide +kernel
theorem dX7_readExpression_41 : decode MX7_readExpression.2.1 41 = .ok (.iadd, 1) := by decide +kernel
theorem dX7_readExpression_42 : decode MX7_readExpression.2.1 42 = .ok (.putfield 47, 3) := by decide +kernel
theorem dX7_readExpression_45 : decode MX7_readExpression.2.1 45 = .ok (.aload_n 0, 1) := by decide +kernel
theorem dX7_readExpression_46 : decode MX7_readExpression.2.1 46 = .ok (.iload_n 1, 1) := by decide +kernel
theorem dX7_readExpression_47 : decode MX7_readExpression.2.1 47 = .ok (.invokevirtual 65, 3) := by decide +kernel
theorem dX7_readExpression_50 : decode MX7_readExpression.2.1 50 = .ok (.ifCond .eq 16, 3) := by decide +kernel
theorem dX7_readExpression_53 : decode MX7_readExpression.2.1 53 = .ok (.aload_n 0, 1) := by decide +kernel
theorem dX7_readExpression_54 : decode MX7_readExpression.2.1 54 = .ok (.iload_n 2, 1) := by decide +kernel
theorem dX7_readExpression_55 : decode MX7_readExpression.2.1 55 = .ok (.ineg, 1) := by decide +kernel
theorem dX7_readExpression_56 : decode MX7_readExpression.2.1 56 = .ok (.invokevirtual 71, 3) := by decide +kernel
theorem dX7_readExpression_59 : decode MX7_readExpression.2.1 59 = .ok (.ifCond .eq 7, 3) := by decide +kernel
theorem dX7_readExpression_62 : decode MX7_readExpression.2.1 62 = .ok (.iconst 1, 1) := by decide +kernel
theorem dX7_readExpression_63 : decode MX7_readExpression.2.1 63 = .ok (.goto 4, 3) := by decide +kernel
theorem dX7_readExpression_66 : decode MX7_readExpression.2.1 66 = .ok (.iconst 0, 1) := by decide +kernel
theorem dX7_readExpression_67 : decode MX7_readExpression.2.1 67 = .ok (.ireturn, 1) := by decide +kernel
theorem dX7_readSum_0 : decode MX7_readSum.2.1 0 = .ok (.aload_n 0, 1) := by decide +kernel
theorem dX7_readSum_1 : decode MX7_readSum.2.1 1 = .ok (.iload_n 1, 1) := by decide +kernel
theorem dX7_readSum_2 : decode MX7_readSum.2.1 2 = .ok (.invokevirtual 74, 3) := by decide +kernel
theorem dX7_readSum_5 : decode MX7_readSum.2.1 5 = .ok (.istore_n 2, 1) := by decide +kernel
theorem dX7_readSum_6 : decode MX7_readSum.2.1 6 = .ok (.iconst 0, 1) := by decide +kernel
theorem dX7_readSum_7 : decode MX7_readSum.2.1 7 = .ok (.istore_n 3, 1) := by decide +kernel
theorem dX7_readSum_8 : decode MX7_readSum.2.1 8 = .ok (.iload_n 3, 1) := by decide +kernel
theorem dX7_readSum_9 : decode MX7_readSum.2.1 9 = .ok (.bipush 40, 2) := by decide +kernel
theorem dX7_readSum_11 : decode MX7_readSum.2.1 11 = .ok (.if_icmp .ge 71, 3) := by decide +kernel
theorem dX7_readSum_14 : decode MX7_readSum.2.1 14 = .ok (.iload_n 2, 1) := by decide +kernel
theorem dX7_readSum_15 : decode MX7_readSum.2.1 15 = .ok (.ifCond .eq 67, 3) := by decide +kernel
theorem dX7_readSum_18 : decode MX7_readSum.2.1 18 = .ok (.aload_n 0, 1) := by decide +kernel
theorem dX7_readSum_19 : decode MX7_readSum.2.1 19 = .ok (.invokevirtual 68, 3) := by decide +kernel
theorem dX7_readSum_22 : decode MX7_readSum.2.1 22 = .ok (.bipush 43, 2) := by decide +kernel
theorem dX7_readSum_24 : decode MX7_readSum.2.1 24 = .ok (.if_icmp .eq 12, 3) := by decide +kernel
theorem dX7_readSum_27 : decode MX7_readSum.2.1 27 = .ok (.aload_n 0, 1) := by decide +kernel
theorem dX7_readSum_28 : decode MX7_readSum.2.1 28 = .ok (.invokevirtual 68, 3) := by decide +kernel
theorem dX7_readSum_31 : decode MX7_readSum.2.1 31 = .ok (.bipush 45, 2) := by decide +kernel
theorem dX7_readSum_33 : decode MX7_readSum.2.1 33 = .ok (.if_icmp .ne 49, 3) := by decide +kernel
theorem dX7_readSum_36 : decode MX7_readSum.2.1 36 = .ok (.aload_n 0, 1) := by decide +kernel
theorem dX7_readSum_37 : decode MX7_readSum.2.1 37 = .ok (.invokevirtual 68, 3) := by decide +kernel
theorem dX7_readSum_40 : decode MX7_readSum.2.1 40 = .ok (.istore 4, 2) := by decide +kernel
theorem dX7_readSum_42 : decode MX7_readSum.2.1 42 = .ok (.aload_n 0, 1) := by decide +kernel
theorem dX7_readSum_43 : decode MX7_readSum.2.1 43 = .ok (.dup, 1) := by decide +kernel
theorem dX7_readSum_44 : decode MX7_readSum.2.1 44 = .ok (.getfield 47, 3) := by decide +kernel
theorem dX7_readSum_47 : decode MX7_readSum.2.1 47 = .ok (.iconst 1, 1) := by decide +kernel
theorem dX7_readSum_48 : decode MX7_readSum.2.1 48 = .ok (.iadd, 1) := by decide +kernel
theorem dX7_readSum_49 : decode MX7_readSum.2.1 49 = .ok (.putfield 47, 3) := by decide +kernel
theorem dX7_readSum_52 : decode MX7_readSum.2.1 52 = .ok (.aload_n 0, 1) := by decide +kernel
theorem dX7_readSum_53 : decode MX7_readSum.2.1 53 = .ok (.iload_n 1, 1) := by decide +kernel
theorem dX7_readSum_54 : decode MX7_readSum.2.1 54 = .ok (.invokevirtual 74, 3) := by decide +kernel
theorem dX7_readSum_57 : decode MX7_readSum.2.1 57 = .ok (.ifCond .eq 17, 3) := by decide +kernel
theorem dX7_readSum_60 : decode MX7_readSum.2.1 60 = .ok (.aload_n 0, 1) := by decide +kernel
theorem dX7_readSum_61 : decode MX7_readSum.2.1 61 = .ok (.iload 4, 2) := by decide +kernel
theorem dX7_readSum_63 : decode MX7_readSum.2.1 63 = .ok (.ineg, 1) := by decide +kernel
theorem dX7_readSum_64 : decode MX7_readSum.2.1 64 = .ok (.invokevirtual 71, 3) := by decide +kernel
theorem dX7_readSum_67 : decode MX7_readSum.2.1 67 = .ok (.ifCond .eq 7, 3) := by decide +kernel
theorem dX7_readSum_70 : decode MX7_readSum.2.1 70 = .ok (.iconst 1, 1) := by decide +kernel
theorem dX7_readSum_71 : decode MX7_readSum.2.1 71 = .ok (.goto 4, 3) := by decide +kernel
theorem dX7_readSum_74 : decode MX7_readSum.2.1 74 = .ok (.iconst 0, 1) := by decide +kernel
theorem dX7_readSum_75 : decode MX7_readSum.2.1 75 = .ok (.istore_n 2, 1) := by decide +kernel
theorem dX7_readSum_76 : decode MX7_readSum.2.1 76 = .ok (.iinc 3 1, 3) := by decide +kernel
theorem dX7_readSum_79 : decode MX7_readSum.2.1 79 = .ok (.goto (-71), 3) := by decide +kernel
theorem dX7_readSum_82 : decode MX7_readSum.2.1 82 = .ok (.iload_n 2, 1) := by decide +kernel
theorem dX7_readSum_83 : decode MX7_readSum.2.1 83 = .ok (.ireturn, 1) := by decide +kernel
theorem dX7_readProduct_0 : decode MX7_readProduct.2.1 0 = .ok (.aload_n 0, 1) := by decide +kernel
theorem dX7_readProduct_1 : decode MX7_readProduct.2.1 1 = .ok (.iload_n 1, 1) := by decide +kernel
theorem dX7_readProduct_2 : decode MX7_readProduct.2.1 2 = .ok (.invokevirtual 77, 3) := by decide +kernel
theorem dX7_readProduct_5 : decode MX7_readProduct.2.1 5 = .ok (.istore_n 2, 1) := by decide +kernel
theorem dX7_readProduct_6 : decode MX7_readProduct.2.1 6 = .ok (.iconst 0, 1) := by decide +kernel
theorem dX7_readProduct_7 : decode MX7_readProduct.2.1 7 = .ok (.istore_n 3, 1) := by decide +kernel
theorem dX7_readProduct_8 : decode MX7_readProduct.2.1 8 = .ok (.iload_n 3, 1) := by decide +kernel
theorem dX7_readProduct_9 : decode MX7_readProduct.2.1 9 = .ok (.bipush 40, 2) := by decide +kernel
theorem dX7_readProduct_11 : decode MX7_readProduct.2.1 11 = .ok (.if_icmp .ge 71, 3) := by decide +kernel
theorem dX7_readProduct_14 : decode MX7_readProduct.2.1 14 = .ok (.iload_n 2, 1) := by decide +kernel
theorem dX7_readProduct_15 : decode MX7_readProduct.2.1 15 = .ok (.ifCond .eq 67, 3) := by decide +kernel
theorem dX7_readProduct_18 : decode MX7_readProduct.2.1 18 = .ok (.aload_n 0, 1) := by decide +kernel
theorem dX7_readProduct_19 : decode MX7_readProduct.2.1 19 = .ok (.invokevirtual 68, 3) := by decide +kernel
theorem dX7_readProduct_22 : decode MX7_readProduct.2.1 22 = .ok (.bipush 42, 2) := by decide +kernel
theorem dX7_readProduct_24 : decode MX7_readProduct.2.1 24 = .ok (.if_icmp .eq 12, 3) := by decide +kernel
theorem dX7_readProduct_27 : decode MX7_readProduct.2.1 27 = .ok (.aload_n 0, 1) := by decide +kernel
theorem dX7_readProduct_28 : decode MX7_readProduct.2.1 28 = .ok (.invokevirtual 68, 3) := by decide +kernel
theorem dX7_readProduct_31 : decode MX7_readProduct.2.1 31 = .ok (.bipush 47, 2) := by decide +kernel
theorem dX7_readProduct_33 : decode MX7_readProduct.2.1 33 = .ok (.if_icmp .ne 49, 3) := by decide +kernel
theorem dX7_readProduct_36 : decode MX7_readProduct.2.1 36 = .ok (.aload_n 0, 1) := by decide +kernel
theorem dX7_readProduct_37 : decode MX7_readProduct.2.1 37 = .ok (.invokevirtual 68, 3) := by decide +kernel
theorem dX7_readProduct_40 : decode MX7_readProduct.2.1 40 = .ok (.istore 4, 2) := by decide +kernel
theorem dX7_readProduct_42 : decode MX7_readProduct.2.1 42 = .ok (.aload_n 0, 1) := by decide +kernel
theorem dX7_readProduct_43 : decode MX7_readProduct.2.1 43 = .ok (.dup, 1) := by decide +kernel
theorem dX7_readProduct_44 : decode MX7_readProduct.2.1 44 = .ok (.getfield 47, 3) := by decide +kernel
theorem dX7_readProduct_47 : decode MX7_readProduct.2.1 47 = .ok (.iconst 1, 1) := by decide +kernel
theorem dX7_readProduct_48 : decode MX7_readProduct.2.1 48 = .ok (.iadd, 1) := by decide +kernel
theorem dX7_readProduct_49 : decode MX7_readProduct.2.1 49 = .ok (.putfield 47, 3) := by decide +kernel
theorem dX7_readProduct_52 : decode MX7_readProduct.2.1 52 = .ok (.aload_n 0, 1) := by decide +kernel
theorem dX7_readProduct_53 : decode MX7_readProduct.2.1 53 = .ok (.iload_n 1, 1) := by decide +kernel
theorem dX7_readProduct_54 : decode MX7_readProduct.2.1 54 = .ok (.invokevirtual 77, 3) := by decide +kernel
theorem dX7_readProduct_57 : decode MX7_readProduct.2.1 57 = .ok (.ifCond .eq 17, 3) := by decide +kernel
theorem dX7_readProduct_60 : decode MX7_readProduct.2.1 60 = .ok (.aload_n 0, 1) := by decide +kernel
theorem dX7_readProduct_61 : decode MX7_readProduct.2.1 61 = .ok (.iload 4, 2) := by decide +kernel
theorem dX7_readProduct_63 : decode MX7_readProduct.2.1 63 = .ok (.ineg, 1) := by decide +kernel
theorem dX7_readProduct_64 : decode MX7_readProduct.2.1 64 = .ok (.invokevirtual 71, 3) := by decide +kernel
theorem dX7_readProduct_67 : decode MX7_readProduct.2.1 67 = .ok (.ifCond .eq 7, 3) := by decide +kernel
theorem dX7_readProduct_70 : decode MX7_readProduct.2.1 70 = .ok (.iconst 1, 1) := by decide +kernel
theorem dX7_readProduct_71 : decode MX7_readProduct.2.1 71 = .ok (.goto 4, 3) := by decide +kernel
theorem dX7_readProduct_74 : decode MX7_readProduct.2.1 74 = .ok (.iconst 0, 1) := by decide +kernel
theorem dX7_readProduct_75 : decode MX7_readProduct.2.1 75 = .ok (.istore_n 2, 1) := by decide +kernel
theorem dX7_readProduct_76 : decode MX7_readProduct.2.1 76 = .ok (.iinc 3 1, 3) := by decide +kernel
theorem dX7_readProduct_79 : decode MX7_readProduct.2.1 79 = .ok (.goto (-71), 3) := by decide +kernel
theorem dX7_readProduct_82 : decode MX7_readProduct.2.1 82 = .ok (.iload_n 2, 1) := by decide +kernel
theorem dX7_readProduct_83 : decode MX7_readProduct.2.1 83 = .ok (.ireturn, 1) := by decide +kernel
theorem dX7_readSigned_0 : decode MX7_readSigned.2.1 0 = .ok (.iconst 0, 1) := by decide +kernel
theorem dX7_readSigned_1 : decode MX7_readSigned.2.1 1 = .ok (.istore_n 2, 1) := by decide +kernel
theorem dX7_readSigned_2 : decode MX7_readSigned.2.1 2 = .ok (.iconst 0, 1) := by decide +kernel
theorem dX7_readSigned_3 : decode MX7_readSigned.2.1 3 = .ok (.istore_n 3, 1) := by decide +kernel
theorem dX7_readSigned_4 : decode MX7_readSigned.2.1 4 = .ok (.iload_n 3, 1) := by decide +kernel
theorem dX7_readSigned_5 : decode MX7_readSigned.2.1 5 = .ok (.bipush 40, 2) := by decide +kernel
theorem dX7_readSigned_7 : decode MX7_readSigned.2.1 7 = .ok (.if_icmp .ge 38, 3) := by decide +kernel
theorem dX7_readSigned_10 : decode MX7_readSigned.2.1 10 = .ok (.aload_n 0, 1) := by decide +kernel
theorem dX7_readSigned_11 : decode MX7_readSigned.2.1 11 = .ok (.invokevirtual 68, 3) := by decide +kernel
theorem dX7_readSigned_14 : decode MX7_readSigned.2.1 14 = .ok (.bipush 45, 2) := by decide +kernel
theorem dX7_readSigned_16 : decode MX7_readSigned.2.1 16 = .ok (.if_icmp .ne 29, 3) := by decide +kernel
theorem dX7_readSigned_19 : decode MX7_readSigned.2.1 19 = .ok (.iload_n 2, 1) := by decide +kernel
theorem dX7_readSigned_20 : decode MX7_readSigned.2.1 20 = .ok (.ifCond .ne 7, 3) := by decide +kernel
theorem dX7_readSigned_23 : decode MX7_readSigned.2.1 23 = .ok (.iconst 1, 1) := by decide +kernel
theorem dX7_readSigned_24 : decode MX7_readSigned.2.1 24 = .ok (.goto 4, 3) := by decide +kernel
theorem dX7_readSigned_27 : decode MX7_readSigned.2.1 27 = .ok (.iconst 0, 1) := by decide +kernel
theorem dX7_readSigned_28 : decode MX7_readSigned.2.1 28 = .ok (.istore_n 2, 1) := by decide +kernel
theorem dX7_readSigned_29 : decode MX7_readSigned.2.1 29 = .ok (.aload_n 0, 1) := by decide +kernel
theorem dX7_readSigned_30 : decode MX7_readSigned.2.1 30 = .ok (.dup, 1) := by decide +kernel
theorem dX7_readSigned_31 : decode MX7_readSigned.2.1 31 = .ok (.getfield 47, 3) := by decide +kernel
theorem dX7_readSigned_34 : decode MX7_readSigned.2.1 34 = .ok (.iconst 1, 1) := by decide +kernel
theorem dX7_readSigned_35 : decode MX7_readSigned.2.1 35 = .ok (.iadd, 1) := by decide +kernel
theorem dX7_readSigned_36 : decode MX7_readSigned.2.1 36 = .ok (.putfield 47, 3) := by decide +kernel
theorem dX7_readSigned_39 : decode MX7_readSigned.2.1 39 = .ok (.iinc 3 1, 3) := by decide +kernel
theorem dX7_readSigned_42 : decode MX7_readSigned.2.1 42 = .ok (.goto (-38), 3) := by decide +kernel
theorem dX7_readSigned_45 : decode MX7_readSigned.2.1 45 = .ok (.aload_n 0, 1) := by decide +kernel
theorem dX7_readSigned_46 : decode MX7_readSigned.2.1 46 = .ok (.iload_n 1, 1) := by decide +kernel
theorem dX7_readSigned_47 : decode MX7_readSigned.2.1 47 = .ok (.invokevirtual 80, 3) := by decide +kernel
theorem dX7_readSigned_50 : decode MX7_readSigned.2.1 50 = .ok (.ifCond .eq 20, 3) := by decide +kernel
theorem dX7_readSigned_53 : decode MX7_readSigned.2.1 53 = .ok (.iload_n 2, 1) := by decide +kernel
theorem dX7_readSigned_54 : decode MX7_readSigned.2.1 54 = .ok (.ifCond .eq 12, 3) := by decide +kernel
theorem dX7_readSigned_57 : decode MX7_readSigned.2.1 57 = .ok (.aload_n 0, 1) := by decide +kernel
theorem dX7_readSigned_58 : decode MX7_readSigned.2.1 58 = .ok (.bipush (-126), 2) := by decide +kernel
theorem dX7_readSigned_60 : decode MX7_readSigned.2.1 60 = .ok (.invokevirtual 71, 3) := by decide +kernel
theorem dX7_readSigned_63 : decode MX7_readSigned.2.1 63 = .ok (.ifCond .eq 7, 3) := by decide +kernel
theorem dX7_readSigned_66 : decode MX7_readSigned.2.1 66 = .ok (.iconst 1, 1) := by decide +kernel
theorem dX7_readSigned_67 : decode MX7_readSigned.2.1 67 = .ok (.goto 4, 3) := by decide +kernel
theorem dX7_readSigned_70 : decode MX7_readSigned.2.1 70 = .ok (.iconst 0, 1) := by decide +kernel
theorem dX7_readSigned_71 : decode MX7_readSigned.2.1 71 = .ok (.ireturn, 1) := by decide +kernel
theorem dX7_readThing_0 : decode MX7_readThing.2.1 0 = .ok (.aload_n 0, 1) := by decide +kernel
theorem dX7_readThing_1 : decode MX7_readThing.2.1 1 = .ok (.invokevirtual 68, 3) := by decide +kernel
theorem dX7_readThing_4 : decode MX7_readThing.2.1 4 = .ok (.istore_n 2, 1) := by decide +kernel
theorem dX7_readThing_5 : decode MX7_readThing.2.1 5 = .ok (.iload_n 2, 1) := by decide +kernel
theorem dX7_readThing_6 : decode MX7_readThing.2.1 6 = .ok (.invokestatic 83, 3) := by decide +kernel
theorem dX7_readThing_9 : decode MX7_readThing.2.1 9 = .ok (.ifCond .eq 8, 3) := by decide +kernel
theorem dX7_readThing_12 : decode MX7_readThing.2.1 12 = .ok (.aload_n 0, 1) := by decide +kernel
theorem dX7_readThing_13 : decode MX7_readThing.2.1 13 = .ok (.invokevirtual 86, 3) := by decide +kernel
theorem dX7_readThing_16 : decode MX7_readThing.2.1 16 = .ok (.ireturn, 1) := by decide +kernel
theorem dX7_readThing_17 : decode MX7_readThing.2.1 17 = .ok (.iload_n 2, 1) := by decide +kernel
theorem dX7_readThing_18 : decode MX7_readThing.2.1 18 = .ok (.invokestatic 89, 3) := by decide +kernel
theorem dX7_readThing_21 : decode MX7_readThing.2.1 21 = .ok (.ifCond .eq 20, 3) := by decide +kernel
theorem dX7_readThing_24 : decode MX7_readThing.2.1 24 = .ok (.aload_n 0, 1) := by decide +kernel
theorem dX7_readThing_25 : decode MX7_readThing.2.1 25 = .ok (.dup, 1) := by decide +kernel
theorem dX7_readThing_26 : decode MX7_readThing.2.1 26 = .ok (.getfield 47, 3) := by decide +kernel
theorem dX7_readThing_29 : decode MX7_readThing.2.1 29 = .ok (.iconst 1, 1) := by decide +kernel
theorem dX7_readThing_30 : decode MX7_readThing.2.1 30 = .ok (.iadd, 1) := by decide +kernel
theorem dX7_readThing_31 : decode MX7_readThing.2.1 31 = .ok (.putfield 47, 3) := by decide +kernel
theorem dX7_readThing_34 : decode MX7_readThing.2.1 34 = .ok (.aload_n 0, 1) := by decide +kernel
theorem dX7_readThing_35 : decode MX7_readThing.2.1 35 = .ok (.iload_n 2, 1) := by decide +kernel
theorem dX7_readThing_36 : decode MX7_readThing.2.1 36 = .ok (.ineg, 1) := by decide +kernel
theorem dX7_readThing_37 : decode MX7_readThing.2.1 37 = .ok (.invokevirtual 71, 3) := by decide +kernel
theorem dX7_readThing_40 : decode MX7_readThing.2.1 40 = .ok (.ireturn, 1) := by decide +kernel
theorem dX7_readThing_41 : decode MX7_readThing.2.1 41 = .ok (.iload_n 2, 1) := by decide +kernel
theorem dX7_readThing_42 : decode MX7_readThing.2.1 42 = .ok (.bipush 40, 2) := by decide +kernel
theorem dX7_readThing_44 : decode MX7_readThing.2.1 44 = .ok (.if_icmp .ne 8, 3) := by decide +kernel
theorem dX7_readThing_47 : decode MX7_readThing.2.1 47 = .ok (.iload_n 1, 1) := by decide +kernel
theorem dX7_readThing_48 : decode MX7_readThing.2.1 48 = .ok (.iconst 4, 1) := by decide +kernel
theorem dX7_readThing_49 : decode MX7_readThing.2.1 49 = .ok (.if_icmp .lt 5, 3) := by decide +kernel
theorem dX7_readThing_52 : decode MX7_readThing.2.1 52 = .ok (.iconst 0, 1) := by decide +kernel
theorem dX7_readThing_53 : decode MX7_readThing.2.1 53 = .ok (.ireturn, 1) := by decide +kernel
theorem dX7_readThing_54 : decode MX7_readThing.2.1 54 = .ok (.aload_n 0, 1) := by decide +kernel
theorem dX7_readThing_55 : decode MX7_readThing.2.1 55 = .ok (.dup, 1) := by decide +kernel
theorem dX7_readThing_56 : decode MX7_readThing.2.1 56 = .ok (.getfield 47, 3) := by decide +kernel
theorem dX7_readThing_59 : decode MX7_readThing.2.1 59 = .ok (.iconst 1, 1) := by decide +kernel
theorem dX7_readThing_60 : decode MX7_readThing.2.1 60 = .ok (.iadd, 1) := by decide +kernel
theorem dX7_readThing_61 : decode MX7_readThing.2.1 61 = .ok (.putfield 47, 3) := by decide +kernel
theorem dX7_readThing_64 : decode MX7_readThing.2.1 64 = .ok (.aload_n 0, 1) := by decide +kernel
theorem dX7_readThing_65 : decode MX7_readThing.2.1 65 = .ok (.iload_n 1, 1) := by decide +kernel
theorem dX7_readThing_66 : decode MX7_readThing.2.1 66 = .ok (.iconst 1, 1) := by decide +kernel
theorem dX7_readThing_67 : decode MX7_readThing.2.1 67 = .ok (.iadd, 1) := by decide +kernel
theorem dX7_readThing_68 : decode MX7_readThing.2.1 68 = .ok (.invokevirtual 61, 3) := by decide +kernel
theorem dX7_readThing_71 : decode MX7_readThing.2.1 71 = .ok (.ifCond .eq 12, 3) := by decide +kernel
theorem dX7_readThing_74 : decode MX7_readThing.2.1 74 = .ok (.aload_n 0, 1) := by decide +kernel
theorem dX7_readThing_75 : decode MX7_readThing.2.1 75 = .ok (.invokevirtual 68, 3) := by decide +kernel
theorem dX7_readThing_78 : decode MX7_readThing.2.1 78 = .ok (.bipush 41, 2) := by decide +kernel
theorem dX7_readThing_80 : decode MX7_readThing.2.1 80 = .ok (.if_icmp .eq 5, 3) := by decide +kernel
theorem dX7_readThing_83 : decode MX7_readThing.2.1 83 = .ok (.iconst 0, 1) := by decide +kernel
theorem dX7_readThing_84 : decode MX7_readThing.2.1 84 = .ok (.ireturn, 1) := by decide +kernel
theorem dX7_readThing_85 : decode MX7_readThing.2.1 85 = .ok (.aload_n 0, 1) := by decide +kernel
theorem dX7_readThing_86 : decode MX7_readThing.2.1 86 = .ok (.dup, 1) := by decide +kernel
theorem dX7_readThing_87 : decode MX7_readThing.2.1 87 = .ok (.getfield 47, 3) := by decide +kernel
theorem dX7_readThing_90 : decode MX7_readThing.2.1 90 = .ok (.iconst 1, 1) := by decide +kernel
theorem dX7_readThing_91 : decode MX7_readThing.2.1 91 = .ok (.iadd, 1) := by decide +kernel
theorem dX7_readThing_92 : decode MX7_readThing.2.1 92 = .ok (.putfield 47, 3) := by decide +kernel
theorem dX7_readThing_95 : decode MX7_readThing.2.1 95 = .ok (.iconst 1, 1) := by decide +kernel
theorem dX7_readThing_96 : decode MX7_readThing.2.1 96 = .ok (.ireturn, 1) := by decide +kernel
theorem dX7_readNumber_0 : decode MX7_readNumber.2.1 0 = .ok (.iconst 0, 1) := by decide +kernel
theorem dX7_readNumber_1 : decode MX7_readNumber.2.1 1 = .ok (.istore_n 1, 1) := by decide +kernel
theorem dX7_readNumber_2 : decode MX7_readNumber.2.1 2 = .ok (.iconst 0, 1) := by decide +kernel
theorem dX7_readNumber_3 : decode MX7_readNumber.2.1 3 = .ok (.istore_n 2, 1) := by decide +kernel
theorem dX7_readNumber_4 : decode MX7_readNumber.2.1 4 = .ok (.iload_n 2, 1) := by decide +kernel
theorem dX7_readNumber_5 : decode MX7_readNumber.2.1 5 = .ok (.iconst 3, 1) := by decide +kernel
theorem dX7_readNumber_6 : decode MX7_readNumber.2.1 6 = .ok (.if_icmp .ge 42, 3) := by decide +kernel
theorem dX7_readNumber_9 : decode MX7_readNumber.2.1 9 = .ok (.aload_n 0, 1) := by decide +kernel
theorem dX7_readNumber_10 : decode MX7_readNumber.2.1 10 = .ok (.invokevirtual 68, 3) := by decide +kernel
theorem dX7_readNumber_13 : decode MX7_readNumber.2.1 13 = .ok (.invokestatic 83, 3) := by decide +kernel
theorem dX7_readNumber_16 : decode MX7_readNumber.2.1 16 = .ok (.ifCond .eq 32, 3) := by decide +kernel
theorem dX7_readNumber_19 : decode MX7_readNumber.2.1 19 = .ok (.iload_n 1, 1) := by decide +kernel
theorem dX7_readNumber_20 : decode MX7_readNumber.2.1 20 = .ok (.bipush 10, 2) := by decide +kernel
theorem dX7_readNumber_22 : decode MX7_readNumber.2.1 22 = .ok (.imul, 1) := by decide +kernel
theorem dX7_readNumber_23 : decode MX7_readNumber.2.1 23 = .ok (.aload_n 0, 1) := by decide +kernel
theorem dX7_readNumber_24 : decode MX7_readNumber.2.1 24 = .ok (.invokevirtual 68, 3) := by decide +kernel
theorem dX7_readNumber_27 : decode MX7_readNumber.2.1 27 = .ok (.iadd, 1) := by decide +kernel
theorem dX7_readNumber_28 : decode MX7_readNumber.2.1 28 = .ok (.bipush 48, 2) := by decide +kernel
theorem dX7_readNumber_30 : decode MX7_readNumber.2.1 30 = .ok (.isub, 1) := by decide +kernel
theorem dX7_readNumber_31 : decode MX7_readNumber.2.1 31 = .ok (.istore_n 1, 1) := by decide +kernel
theorem dX7_readNumber_32 : decode MX7_readNumber.2.1 32 = .ok (.aload_n 0, 1) := by decide +kernel
theorem dX7_readNumber_33 : decode MX7_readNumber.2.1 33 = .ok (.dup, 1) := by decide +kernel
theorem dX7_readNumber_34 : decode MX7_readNumber.2.1 34 = .ok (.getfield 47, 3) := by decide +kernel
theorem dX7_readNumber_37 : decode MX7_readNumber.2.1 37 = .ok (.iconst 1, 1) := by decide +kernel
theorem dX7_readNumber_38 : decode MX7_readNumber.2.1 38 = .ok (.iadd, 1) := by decide +kernel
theorem dX7_readNumber_39 : decode MX7_readNumber.2.1 39 = .ok (.putfield 47, 3) := by decide +kernel
theorem dX7_readNumber_42 : decode MX7_readNumber.2.1 42 = .ok (.iinc 2 1, 3) := by decide +kernel
theorem dX7_readNumber_45 : decode MX7_readNumber.2.1 45 = .ok (.goto (-41), 3) := by decide +kernel
theorem dX7_readNumber_48 : decode MX7_readNumber.2.1 48 = .ok (.aload_n 0, 1) := by decide +kernel
theorem dX7_readNumber_49 : decode MX7_readNumber.2.1 49 = .ok (.iload_n 1, 1) := by decide +kernel
theorem dX7_readNumber_50 : decode MX7_readNumber.2.1 50 = .ok (.invokevirtual 71, 3) := by decide +kernel
theorem dX7_readNumber_53 : decode MX7_readNumber.2.1 53 = .ok (.ireturn, 1) := by decide +kernel
theorem dX7_isThing_0 : decode MX7_isThing.2.1 0 = .ok (.iload_n 0, 1) := by decide +kernel
theorem dX7_isThing_1 : decode MX7_isThing.2.1 1 = .ok (.bipush 111, 2) := by decide +kernel
theorem dX7_isThing_3 : decode MX7_isThing.2.1 3 = .ok (.if_icmp .eq 33, 3) := by decide +kernel
theorem dX7_isThing_6 : decode MX7_isThing.2.1 6 = .ok (.iload_n 0, 1) := by decide +kernel
theorem dX7_isThing_7 : decode MX7_isThing.2.1 7 = .ok (.bipush 100, 2) := by decide +kernel
theorem dX7_isThing_9 : decode MX7_isThing.2.1 9 = .ok (.if_icmp .eq 27, 3) := by decide +kernel
theorem dX7_isThing_12 : decode MX7_isThing.2.1 12 = .ok (.iload_n 0, 1) := by decide +kernel
theorem dX7_isThing_13 : decode MX7_isThing.2.1 13 = .ok (.bipush 116, 2) := by decide +kernel
theorem dX7_isThing_15 : decode MX7_isThing.2.1 15 = .ok (.if_icmp .eq 21, 3) := by decide +kernel
theorem dX7_isThing_18 : decode MX7_isThing.2.1 18 = .ok (.iload_n 0, 1) := by decide +kernel
theorem dX7_isThing_19 : decode MX7_isThing.2.1 19 = .ok (.bipush 101, 2) := by decide +kernel
theorem dX7_isThing_21 : decode MX7_isThing.2.1 21 = .ok (.if_icmp .eq 15, 3) := by decide +kernel
theorem dX7_isThing_24 : decode MX7_isThing.2.1 24 = .ok (.iload_n 0, 1) := by decide +kernel
theorem dX7_isThing_25 : decode MX7_isThing.2.1 25 = .ok (.bipush 102, 2) := by decide +kernel
theorem dX7_isThing_27 : decode MX7_isThing.2.1 27 = .ok (.if_icmp .eq 9, 3) := by decide +kernel
theorem dX7_isThing_30 : decode MX7_isThing.2.1 30 = .ok (.iload_n 0, 1) := by decide +kernel
theorem dX7_isThing_31 : decode MX7_isThing.2.1 31 = .ok (.bipush 110, 2) := by decide +kernel
theorem dX7_isThing_33 : decode MX7_isThing.2.1 33 = .ok (.if_icmp .ne 7, 3) := by decide +kernel
theorem dX7_isThing_36 : decode MX7_isThing.2.1 36 = .ok (.iconst 1, 1) := by decide +kernel
theorem dX7_isThing_37 : decode MX7_isThing.2.1 37 = .ok (.goto 4, 3) := by decide +kernel
theorem dX7_isThing_40 : decode MX7_isThing.2.1 40 = .ok (.iconst 0, 1) := by decide +kernel
theorem dX7_isThing_41 : decode MX7_isThing.2.1 41 = .ok (.ireturn, 1) := by decide +kernel
theorem dX7_next_0 : decode MX7_next.2.1 0 = .ok (.aload_n 0, 1) := by decide +kernel
theorem dX7_next_1 : decode MX7_next.2.1 1 = .ok (.getfield 47, 3) := by decide +kernel
theorem dX7_next_4 : decode MX7_next.2.1 4 = .ok (.ifCond .lt 35, 3) := by decide +kernel
theorem dX7_next_7 : decode MX7_next.2.1 7 = .ok (.aload_n 0, 1) := by decide +kernel
theorem dX7_next_8 : decode MX7_next.2.1 8 = .ok (.getfield 47, 3) := by decide +kernel
theorem dX7_next_11 : decode MX7_next.2.1 11 = .ok (.aload_n 0, 1) := by decide +kernel
theorem dX7_next_12 : decode MX7_next.2.1 12 = .ok (.getfield 36, 3) := by decide +kernel
theorem dX7_next_15 : decode MX7_next.2.1 15 = .ok (.if_icmp .ge 24, 3) := by decide +kernel
theorem dX7_next_18 : decode MX7_next.2.1 18 = .ok (.aload_n 0, 1) := by decide +kernel
theorem dX7_next_19 : decode MX7_next.2.1 19 = .ok (.getfield 47, 3) := by decide +kernel
theorem dX7_next_22 : decode MX7_next.2.1 22 = .ok (.bipush 40, 2) := by decide +kernel
theorem dX7_next_24 : decode MX7_next.2.1 24 = .ok (.if_icmp .ge 15, 3) := by decide +kernel
theorem dX7_next_27 : decode MX7_next.2.1 27 = .ok (.aload_n 0, 1) := by decide +kernel
theorem dX7_next_28 : decode MX7_next.2.1 28 = .ok (.getfield 11, 3) := by decide +kernel
theorem dX7_next_31 : decode MX7_next.2.1 31 = .ok (.aload_n 0, 1) := by decide +kernel
theorem dX7_next_32 : decode MX7_next.2.1 32 = .ok (.getfield 47, 3) := by decide +kernel
theorem dX7_next_35 : decode MX7_next.2.1 35 = .ok (.iaload, 1) := by decide +kernel
theorem dX7_next_36 : decode MX7_next.2.1 36 = .ok (.goto 4, 3) := by decide +kernel
theorem dX7_next_39 : decode MX7_next.2.1 39 = .ok (.iconst (-1), 1) := by decide +kernel
theorem dX7_next_40 : decode MX7_next.2.1 40 = .ok (.ireturn, 1) := by decide +kernel
theorem dX7_put_0 : decode MX7_put.2.1 0 = .ok (.aload_n 0, 1) := by decide +kernel
theorem dX7_put_1 : decode MX7_put.2.1 1 = .ok (.getfield 58, 3) := by decide +kernel
theorem dX7_put_4 : decode MX7_put.2.1 4 = .ok (.bipush 40, 2) := by decide +kernel
theorem dX7_put_6 : decode MX7_put.2.1 6 = .ok (.if_icmp .lt 5, 3) := by decide +kernel
theorem dX7_put_9 : decode MX7_put.2.1 9 = .ok (.iconst 0, 1) := by decide +kernel
theorem dX7_put_10 : decode MX7_put.2.1 10 = .ok (.ireturn, 1) := by decide +kernel
theorem dX7_put_11 : decode MX7_put.2.1 11 = .ok (.aload_n 0, 1) := by decide +kernel
theorem dX7_put_12 : decode MX7_put.2.1 12 = .ok (.getfield 15, 3) := by decide +kernel
theorem dX7_put_15 : decode MX7_put.2.1 15 = .ok (.aload_n 0, 1) := by decide +kernel
theorem dX7_put_16 : decode MX7_put.2.1 16 = .ok (.getfield 58, 3) := by decide +kernel
theorem dX7_put_19 : decode MX7_put.2.1 19 = .ok (.iload_n 1, 1) := by decide +kernel
theorem dX7_put_20 : decode MX7_put.2.1 20 = .ok (.iastore, 1) := by decide +kernel
theorem dX7_put_21 : decode MX7_put.2.1 21 = .ok (.aload_n 0, 1) := by decide +kernel
theorem dX7_put_22 : decode MX7_put.2.1 22 = .ok (.dup, 1) := by decide +kernel
theorem dX7_put_23 : decode MX7_put.2.1 23 = .ok (.getfield 58, 3) := by decide +kernel
theorem dX7_put_26 : decode MX7_put.2.1 26 = .ok (.iconst 1, 1) := by decide +kernel
theorem dX7_put_27 : decode MX7_put.2.1 27 = .ok (.iadd, 1) := by decide +kernel
theorem dX7_put_28 : decode MX7_put.2.1 28 = .ok (.putfield 58, 3) := by decide +kernel
theorem dX7_put_31 : decode MX7_put.2.1 31 = .ok (.iconst 1, 1) := by decide +kernel
theorem dX7_put_32 : decode MX7_put.2.1 32 = .ok (.ireturn, 1) := by decide +kernel
theorem dX7_words_0 : decode MX7_words.2.1 0 = .ok (.aload_n 0, 1) := by decide +kernel
theorem dX7_words_1 : decode MX7_words.2.1 1 = .ok (.iconst 0, 1) := by decide +kernel
theorem dX7_words_2 : decode MX7_words.2.1 2 = .ok (.putfield 92, 3) := by decide +kernel
theorem dX7_words_5 : decode MX7_words.2.1 5 = .ok (.iconst 0, 1) := by decide +kernel
theorem dX7_words_6 : decode MX7_words.2.1 6 = .ok (.istore 4, 2) := by decide +kernel
theorem dX7_words_8 : decode MX7_words.2.1 8 = .ok (.iload 4, 2) := by decide +kernel
theorem dX7_words_10 : decode MX7_words.2.1 10 = .ok (.aload_n 0, 1) := by decide +kernel
theorem dX7_words_11 : decode MX7_words.2.1 11 = .ok (.getfield 58, 3) := by decide +kernel
theorem dX7_words_14 : decode MX7_words.2.1 14 = .ok (.if_icmp .ge 98, 3) := by decide +kernel
theorem dX7_words_17 : decode MX7_words.2.1 17 = .ok (.aload_n 0, 1) := by decide +kernel
theorem dX7_words_18 : decode MX7_words.2.1 18 = .ok (.getfield 15, 3) := by decide +kernel
theorem dX7_words_21 : decode MX7_words.2.1 21 = .ok (.iload 4, 2) := by decide +kernel
theorem dX7_words_23 : decode MX7_words.2.1 23 = .ok (.iaload, 1) := by decide +kernel
theorem dX7_words_24 : decode MX7_words.2.1 24 = .ok (.istore 5, 2) := by decide +kernel
theorem dX7_words_26 : decode MX7_words.2.1 26 = .ok (.iload 5, 2) := by decide +kernel
theorem dX7_words_28 : decode MX7_words.2.1 28 = .ok (.ifCond .lt 12, 3) := by decide +kernel
theorem dX7_words_31 : decode MX7_words.2.1 31 = .ok (.aload_n 0, 1) := by decide +kernel
theorem dX7_words_32 : decode MX7_words.2.1 32 = .ok (.iload 5, 2) := by decide +kernel
theorem dX7_words_34 : decode MX7_words.2.1 34 = .ok (.invokevirtual 95, 3) := by decide +kernel
theorem dX7_words_37 : decode MX7_words.2.1 37 = .ok (.goto 69, 3) := by decide +kernel
theorem dX7_words_40 : decode MX7_words.2.1 40 = .ok (.iload 5, 2) := by decide +kernel
theorem dX7_words_42 : decode MX7_words.2.1 42 = .ok (.ineg, 1) := by decide +kernel
theorem dX7_words_43 : decode MX7_words.2.1 43 = .ok (.invokestatic 89, 3) := by decide +kernel
theorem dX7_words_46 : decode MX7_words.2.1 46 = .ok (.ifCond .eq 19, 3) := by decide +kernel
theorem dX7_words_49 : decode MX7_words.2.1 49 = .ok (.aload_n 0, 1) := by decide +kernel
theorem dX7_words_50 : decode MX7_words.2.1 50 = .ok (.iload 5, 2) := by decide +kernel
theorem dX7_words_52 : decode MX7_words.2.1 52 = .ok (.ineg, 1) := by decide +kernel
theorem dX7_words_53 : decode MX7_words.2.1 53 = .ok (.aload_n 1, 1) := by decide +kernel
theorem dX7_words_54 : decode MX7_words.2.1 54 = .ok (.iload_n 2, 1) := by decide +kernel
theorem dX7_words_55 : decode MX7_words.2.1 55 = .ok (.iload_n 3, 1) := by decide +kernel
theorem dX7_words_56 : decode MX7_words.2.1 56 = .ok (.invokestatic 99, 3) := by decide +kernel
theorem dX7_words_59 : decode MX7_words.2.1 59 = .ok (.invokevirtual 95, 3) := by decide +kernel
theorem dX7_words_62 : decode MX7_words.2.1 62 = .ok (.goto 44, 3) := by decide +kernel
theorem dX7_words_65 : decode MX7_words.2.1 65 = .ok (.iload 5, 2) := by decide +kernel
theorem dX7_words_67 : decode MX7_words.2.1 67 = .ok (.bipush (-126), 2) := by decide +kernel
theorem dX7_words_69 : decode MX7_words.2.1 69 = .ok (.if_icmp .ne 15, 3) := by decide +kernel
theorem dX7_words_72 : decode MX7_words.2.1 72 = .ok (.aload_n 0, 1) := by decide +kernel
theorem dX7_words_73 : decode MX7_words.2.1 73 = .ok (.aload_n 0, 1) := by decide +kernel
theorem dX7_words_74 : decode MX7_words.2.1 74 = .ok (.invokevirtual 103, 3) := by decide +kernel
theorem dX7_words_77 : decode MX7_words.2.1 77 = .ok (.ineg, 1) := by decide +kernel
theorem dX7_words_78 : decode MX7_words.2.1 78 = .ok (.invokevirtual 95, 3) := by decide +kernel
theorem dX7_words_81 : decode MX7_words.2.1 81 = .ok (.goto 25, 3) := by decide +kernel
theorem dX7_words_84 : decode MX7_words.2.1 84 = .ok (.aload_n 0, 1) := by decide +kernel
theorem dX7_words_85 : decode MX7_words.2.1 85 = .ok (.invokevirtual 103, 3) := by decide +kernel
theorem dX7_words_88 : decode MX7_words.2.1 88 = .ok (.istore 6, 2) := by decide +kernel
theorem dX7_words_90 : decode MX7_words.2.1 90 = .ok (.aload_n 0, 1) := by decide +kernel
theorem dX7_words_91 : decode MX7_words.2.1 91 = .ok (.iload 5, 2) := by decide +kernel
theorem dX7_words_93 : decode MX7_words.2.1 93 = .ok (.ineg, 1) := by decide +kernel
theorem dX7_words_94 : decode MX7_words.2.1 94 = .ok (.aload_n 0, 1) := by decide +kernel
theorem dX7_words_95 : decode MX7_words.2.1 95 = .ok (.invokevirtual 103, 3) := by decide +kernel
theorem dX7_words_98 : decode MX7_words.2.1 98 = .ok (.iload 6, 2) := by decide +kernel
theorem dX7_words_100 : decode MX7_words.2.1 100 = .ok (.invokestatic 106, 3) := by decide +kernel
theorem dX7_words_103 : decode MX7_words.2.1 103 = .ok (.invokevirtual 95, 3) := by decide +kernel
theorem dX7_words_106 : decode MX7_words.2.1 106 = .ok (.iinc 4 1, 3) := by decide +kernel
theorem dX7_words_109 : decode MX7_words.2.1 109 = .ok (.goto (-101), 3) := by decide +kernel
theorem dX7_words_112 : decode MX7_words.2.1 112 = .ok (.aload_n 0, 1) := by decide +kernel
theorem dX7_words_113 : decode MX7_words.2.1 113 = .ok (.invokevirtual 103, 3) := by decide +kernel
theorem dX7_words_116 : decode MX7_words.2.1 116 = .ok (.bipush 9, 2) := by decide +kernel
theorem dX7_words_118 : decode MX7_words.2.1 118 = .ok (.invokestatic 110, 3) := by decide +kernel
theorem dX7_words_121 : decode MX7_words.2.1 121 = .ok (.ireturn, 1) := by decide +kernel
theorem dX7_thing_0 : decode MX7_thing.2.1 0 = .ok (.iload_n 0, 1) := by decide +kernel
theorem dX7_thing_1 : decode MX7_thing.2.1 1 = .ok (.lookupswitch 105 #[(100, 62), (101, 83), (102, 94), (111, 51), (116, 76)], 51) := by decide +kernel
theorem dX7_thing_52 : decode MX7_thing.2.1 52 = .ok (.aload_n 1, 1) := by decide +kernel
theorem dX7_thing_53 : decode MX7_thing.2.1 53 = .ok (.getfield 113, 3) := by decide +kernel
theorem dX7_thing_56 : decode MX7_thing.2.1 56 = .ok (.iload_n 2, 1) := by decide +kernel
theorem dX7_thing_57 : decode MX7_thing.2.1 57 = .ok (.iload_n 3, 1) := by decide +kernel
theorem dX7_thing_58 : decode MX7_thing.2.1 58 = .ok (.invokestatic 118, 3) := by decide +kernel
theorem dX7_thing_61 : decode MX7_thing.2.1 61 = .ok (.iaload, 1) := by decide +kernel
theorem dX7_thing_62 : decode MX7_thing.2.1 62 = .ok (.ireturn, 1) := by decide +kernel
theorem dX7_thing_63 : decode MX7_thing.2.1 63 = .ok (.aload_n 1, 1) := by decide +kernel
theorem dX7_thing_64 : decode MX7_thing.2.1 64 = .ok (.iload_n 3, 1) := by decide +kernel
theorem dX7_thing_65 : decode MX7_thing.2.1 65 = .ok (.invokevirtual 121, 3) := by decide +kernel
theorem dX7_thing_68 : decode MX7_thing.2.1 68 = .ok (.ifCond .eq 7, 3) := by decide +kernel
theorem dX7_thing_71 : decode MX7_thing.2.1 71 = .ok (.iconst 0, 1) := by decide +kernel
theorem dX7_thing_72 : decode MX7_thing.2.1 72 = .ok (.goto 4, 3) := by decide +kernel
theorem dX7_thing_75 : decode MX7_thing.2.1 75 = .ok (.iconst 1, 1) := by decide +kernel
theorem dX7_thing_76 : decode MX7_thing.2.1 76 = .ok (.ireturn, 1) := by decide +kernel
theorem dX7_thing_77 : decode MX7_thing.2.1 77 = .ok (.aload_n 1, 1) := by decide +kernel
theorem dX7_thing_78 : decode MX7_thing.2.1 78 = .ok (.getfield 124, 3) := by decide +kernel
theorem dX7_thing_81 : decode MX7_thing.2.1 81 = .ok (.iload_n 3, 1) := by decide +kernel
theorem dX7_thing_82 : decode MX7_thing.2.1 82 = .ok (.iaload, 1) := by decide +kernel
theorem dX7_thing_83 : decode MX7_thing.2.1 83 = .ok (.ireturn, 1) := by decide +kernel
theorem dX7_thing_84 : decode MX7_thing.2.1 84 = .ok (.aload_n 1, 1) := by decide +kernel
theorem dX7_thing_85 : decode MX7_thing.2.1 85 = .ok (.getfield 127, 3) := by decide +kernel
theorem dX7_thing_88 : decode MX7_thing.2.1 88 = .ok (.iload_n 2, 1) := by decide +kernel
theorem dX7_thing_89 : decode MX7_thing.2.1 89 = .ok (.iload_n 3, 1) := by decide +kernel
theorem dX7_thing_90 : decode MX7_thing.2.1 90 = .ok (.invokestatic 118, 3) := by decide +kernel
theorem dX7_thing_93 : decode MX7_thing.2.1 93 = .ok (.iaload, 1) := by decide +kernel
theorem dX7_thing_94 : decode MX7_thing.2.1 94 = .ok (.ireturn, 1) := by decide +kernel
theorem dX7_thing_95 : decode MX7_thing.2.1 95 = .ok (.aload_n 1, 1) := by decide +kernel
theorem dX7_thing_96 : decode MX7_thing.2.1 96 = .ok (.getfield 127, 3) := by decide +kernel
theorem dX7_thing_99 : decode MX7_thing.2.1 99 = .ok (.iload_n 3, 1) := by decide +kernel
theorem dX7_thing_100 : decode MX7_thing.2.1 100 = .ok (.iload_n 2, 1) := by decide +kernel
theorem dX7_thing_101 : decode MX7_thing.2.1 101 = .ok (.invokestatic 118, 3) := by decide +kernel
theorem dX7_thing_104 : decode MX7_thing.2.1 104 = .ok (.iaload, 1) := by decide +kernel
theorem dX7_thing_105 : decode MX7_thing.2.1 105 = .ok (.ireturn, 1) := by decide +kernel
theorem dX7_thing_106 : decode MX7_thing.2.1 106 = .ok (.aload_n 1, 1) := by decide +kernel
theorem dX7_thing_107 : decode MX7_thing.2.1 107 = .ok (.getfield 130, 3) := by decide +kernel
theorem dX7_thing_110 : decode MX7_thing.2.1 110 = .ok (.bipush 12, 2) := by decide +kernel
theorem dX7_thing_112 : decode MX7_thing.2.1 112 = .ok (.irem, 1) := by decide +kernel
theorem dX7_thing_113 : decode MX7_thing.2.1 113 = .ok (.ireturn, 1) := by decide +kernel
theorem dX7_join_0 : decode MX7_join.2.1 0 = .ok (.iload_n 0, 1) := by decide +kernel
theorem dX7_join_1 : decode MX7_join.2.1 1 = .ok (.lookupswitch 105 #[(42, 67), (43, 59), (45, 63), (47, 71), (60, 83), (62, 94)], 59) := by decide +kernel
theorem dX7_join_60 : decode MX7_join.2.1 60 = .ok (.iload_n 1, 1) := by decide +kernel
theorem dX7_join_61 : decode MX7_join.2.1 61 = .ok (.iload_n 2, 1) := by decide +kernel
theorem dX7_join_62 : decode MX7_join.2.1 62 = .ok (.iadd, 1) := by decide +kernel
theorem dX7_join_63 : decode MX7_join.2.1 63 = .ok (.ireturn, 1) := by decide +kernel
theorem dX7_join_64 : decode MX7_join.2.1 64 = .ok (.iload_n 1, 1) := by decide +kernel
theorem dX7_join_65 : decode MX7_join.2.1 65 = .ok (.iload_n 2, 1) := by decide +kernel
theorem dX7_join_66 : decode MX7_join.2.1 66 = .ok (.isub, 1) := by decide +kernel
theorem dX7_join_67 : decode MX7_join.2.1 67 = .ok (.ireturn, 1) := by decide +kernel
theorem dX7_join_68 : decode MX7_join.2.1 68 = .ok (.iload_n 1, 1) := by decide +kernel
theorem dX7_join_69 : decode MX7_join.2.1 69 = .ok (.iload_n 2, 1) := by decide +kernel
theorem dX7_join_70 : decode MX7_join.2.1 70 = .ok (.imul, 1) := by decide +kernel
theorem dX7_join_71 : decode MX7_join.2.1 71 = .ok (.ireturn, 1) := by decide +kernel
theorem dX7_join_72 : decode MX7_join.2.1 72 = .ok (.iload_n 2, 1) := by decide +kernel
theorem dX7_join_73 : decode MX7_join.2.1 73 = .ok (.ifCond .ne 7, 3) := by decide +kernel
theorem dX7_join_76 : decode MX7_join.2.1 76 = .ok (.iconst 0, 1) := by decide +kernel
theorem dX7_join_77 : decode MX7_join.2.1 77 = .ok (.goto 6, 3) := by decide +kernel
theorem dX7_join_80 : decode MX7_join.2.1 80 = .ok (.iload_n 1, 1) := by decide +kernel
theorem dX7_join_81 : decode MX7_join.2.1 81 = .ok (.iload_n 2, 1) := by decide +kernel
theorem dX7_join_82 : decode MX7_join.2.1 82 = .ok (.idiv, 1) := by decide +kernel
theorem dX7_join_83 : decode MX7_join.2.1 83 = .ok (.ireturn, 1) := by decide +kernel
theorem dX7_join_84 : decode MX7_join.2.1 84 = .ok (.iload_n 1, 1) := by decide +kernel
theorem dX7_join_85 : decode MX7_join.2.1 85 = .ok (.iload_n 2, 1) := by decide +kernel
theorem dX7_join_86 : decode MX7_join.2.1 86 = .ok (.if_icmp .ge 7, 3) := by decide +kernel
theorem dX7_join_89 : decode MX7_join.2.1 89 = .ok (.iconst 1, 1) := by decide +kernel
theorem dX7_join_90 : decode MX7_join.2.1 90 = .ok (.goto 4, 3) := by decide +kernel
theorem dX7_join_93 : decode MX7_join.2.1 93 = .ok (.iconst 0, 1) := by decide +kernel
theorem dX7_join_94 : decode MX7_join.2.1 94 = .ok (.ireturn, 1) := by decide +kernel
theorem dX7_join_95 : decode MX7_join.2.1 95 = .ok (.iload_n 1, 1) := by decide +kernel
theorem dX7_join_96 : decode MX7_join.2.1 96 = .ok (.iload_n 2, 1) := by decide +kernel
theorem dX7_join_97 : decode MX7_join.2.1 97 = .ok (.if_icmp .le 7, 3) := by decide +kernel
theorem dX7_join_100 : decode MX7_join.2.1 100 = .ok (.iconst 1, 1) := by decide +kernel
theorem dX7_join_101 : decode MX7_join.2.1 101 = .ok (.goto 4, 3) := by decide +kernel
theorem dX7_join_104 : decode MX7_join.2.1 104 = .ok (.iconst 0, 1) := by decide +kernel
theorem dX7_join_105 : decode MX7_join.2.1 105 = .ok (.ireturn, 1) := by decide +kernel
theorem dX7_join_106 : decode MX7_join.2.1 106 = .ok (.iload_n 1, 1) := by decide +kernel
theorem dX7_join_107 : decode MX7_join.2.1 107 = .ok (.iload_n 2, 1) := by decide +kernel
theorem dX7_join_108 : decode MX7_join.2.1 108 = .ok (.if_icmp .ne 7, 3) := by decide +kernel
theorem dX7_join_111 : decode MX7_join.2.1 111 = .ok (.iconst 1, 1) := by decide +kernel
theorem dX7_join_112 : decode MX7_join.2.1 112 = .ok (.goto 4, 3) := by decide +kernel
theorem dX7_join_115 : decode MX7_join.2.1 115 = .ok (.iconst 0, 1) := by decide +kernel
theorem dX7_join_116 : decode MX7_join.2.1 116 = .ok (.ireturn, 1) := by decide +kernel
theorem dX7_push_0 : decode MX7_push.2.1 0 = .ok (.aload_n 0, 1) := by decide +kernel
theorem dX7_push_1 : decode MX7_push.2.1 1 = .ok (.getfield 92, 3) := by decide +kernel
theorem dX7_push_4 : decode MX7_push.2.1 4 = .ok (.bipush 40, 2) := by decide +kernel
theorem dX7_push_6 : decode MX7_push.2.1 6 = .ok (.if_icmp .ge 23, 3) := by decide +kernel
theorem dX7_push_9 : decode MX7_push.2.1 9 = .ok (.aload_n 0, 1) := by decide +kernel
theorem dX7_push_10 : decode MX7_push.2.1 10 = .ok (.getfield 18, 3) := by decide +kernel
theorem dX7_push_13 : decode MX7_push.2.1 13 = .ok (.aload_n 0, 1) := by decide +kernel
theorem dX7_push_14 : decode MX7_push.2.1 14 = .ok (.getfield 92, 3) := by decide +kernel
theorem dX7_push_17 : decode MX7_push.2.1 17 = .ok (.iload_n 1, 1) := by decide +kernel
theorem dX7_push_18 : decode MX7_push.2.1 18 = .ok (.iastore, 1) := by decide +kernel
theorem dX7_push_19 : decode MX7_push.2.1 19 = .ok (.aload_n 0, 1) := by decide +kernel
theorem dX7_push_20 : decode MX7_push.2.1 20 = .ok (.dup, 1) := by decide +kernel
theorem dX7_push_21 : decode MX7_push.2.1 21 = .ok (.getfield 92, 3) := by decide +kernel
theorem dX7_push_24 : decode MX7_push.2.1 24 = .ok (.iconst 1, 1) := by decide +kernel
theorem dX7_push_25 : decode MX7_push.2.1 25 = .ok (.iadd, 1) := by decide +kernel
theorem dX7_push_26 : decode MX7_push.2.1 26 = .ok (.putfield 92, 3) := by decide +kernel
theorem dX7_push_29 : decode MX7_push.2.1 29 = .ok (.return_, 1) := by decide +kernel
theorem dX7_pop_0 : decode MX7_pop.2.1 0 = .ok (.aload_n 0, 1) := by decide +kernel
theorem dX7_pop_1 : decode MX7_pop.2.1 1 = .ok (.getfield 92, 3) := by decide +kernel
theorem dX7_pop_4 : decode MX7_pop.2.1 4 = .ok (.ifCond .gt 5, 3) := by decide +kernel
theorem dX7_pop_7 : decode MX7_pop.2.1 7 = .ok (.iconst 0, 1) := by decide +kernel
theorem dX7_pop_8 : decode MX7_pop.2.1 8 = .ok (.ireturn, 1) := by decide +kernel
theorem dX7_pop_9 : decode MX7_pop.2.1 9 = .ok (.aload_n 0, 1) := by decide +kernel
theorem dX7_pop_10 : decode MX7_pop.2.1 10 = .ok (.dup, 1) := by decide +kernel
theorem dX7_pop_11 : decode MX7_pop.2.1 11 = .ok (.getfield 92, 3) := by decide +kernel
theorem dX7_pop_14 : decode MX7_pop.2.1 14 = .ok (.iconst 1, 1) := by decide +kernel
theorem dX7_pop_15 : decode MX7_pop.2.1 15 = .ok (.isub, 1) := by decide +kernel
theorem dX7_pop_16 : decode MX7_pop.2.1 16 = .ok (.putfield 92, 3) := by decide +kernel
theorem dX7_pop_19 : decode MX7_pop.2.1 19 = .ok (.aload_n 0, 1) := by decide +kernel
theorem dX7_pop_20 : decode MX7_pop.2.1 20 = .ok (.getfield 18, 3) := by decide +kernel
theorem dX7_pop_23 : decode MX7_pop.2.1 23 = .ok (.aload_n 0, 1) := by decide +kernel
theorem dX7_pop_24 : decode MX7_pop.2.1 24 = .ok (.getfield 92, 3) := by decide +kernel
theorem dX7_pop_27 : decode MX7_pop.2.1 27 = .ok (.iaload, 1) := by decide +kernel
theorem dX7_pop_28 : decode MX7_pop.2.1 28 = .ok (.ireturn, 1) := by decide +kernel
theorem dX8_init_0 : decode MX8_init.2.1 0 = .ok (.aload_n 0, 1) := by decide +kernel
theorem dX8_init_1 : decode MX8_init.2.1 1 = .ok (.invokespecial 3, 3) := by decide +kernel
theorem dX8_init_4 : decode MX8_init.2.1 4 = .ok (.aload_n 0, 1) := by decide +kernel
theorem dX8_init_5 : decode MX8_init.2.1 5 = .ok (.bipush 12, 2) := by decide +kernel
theorem dX8_init_7 : decode MX8_init.2.1 7 = .ok (.newarray .int, 2) := by decide +kernel
theorem dX8_init_9 : decode MX8_init.2.1 9 = .ok (.putfield 11, 3) := by decide +kernel
theorem dX8_init_12 : decode MX8_init.2.1 12 = .ok (.aload_n 0, 1) := by decide +kernel
theorem dX8_init_13 : decode MX8_init.2.1 13 = .ok (.bipush 12, 2) := by decide +kernel
theorem dX8_init_15 : decode MX8_init.2.1 15 = .ok (.newarray .int, 2) := by decide +kernel
theorem dX8_init_17 : decode MX8_init.2.1 17 = .ok (.putfield 15, 3) := by decide +kernel
theorem dX8_init_20 : decode MX8_init.2.1 20 = .ok (.aload_n 0, 1) := by decide +kernel
theorem dX8_init_21 : decode MX8_init.2.1 21 = .ok (.bipush 12, 2) := by decide +kernel
theorem dX8_init_23 : decode MX8_init.2.1 23 = .ok (.newarray .int, 2) := by decide +kernel
theorem dX8_init_25 : decode MX8_init.2.1 25 = .ok (.putfield 18, 3) := by decide +kernel
theorem dX8_init_28 : decode MX8_init.2.1 28 = .ok (.aload_n 0, 1) := by decide +kernel
theorem dX8_init_29 : decode MX8_init.2.1 29 = .ok (.bipush 10, 2) := by decide +kernel
theorem dX8_init_31 : decode MX8_init.2.1 31 = .ok (.newarray .int, 2) := by decide +kernel
theorem dX8_init_33 : decode MX8_init.2.1 33 = .ok (.putfield 21, 3) := by decide +kernel
theorem dX8_init_36 : decode MX8_init.2.1 36 = .ok (.return_, 1) := by decide +kernel
theorem dX8_size_0 : decode MX8_size.2.1 0 = .ok (.aload_n 0, 1) := by decide +kernel
theorem dX8_size_1 : decode MX8_size.2.1 1 = .ok (.getfield 24, 3) := by decide +kernel
theorem dX8_size_4 : decode MX8_size.2.1 4 = .ok (.ireturn, 1) := by decide +kernel
theorem dX8_add_0 : decode MX8_add.2.1 0 = .ok (.iload_n 1, 1) := by decide +kernel
theorem dX8_add_1 : decode MX8_add.2.1 1 = .ok (.ifCond .lt 32, 3) := by decide +kernel
theorem dX8_add_4 : decode MX8_add.2.1 4 = .ok (.iload_n 1, 1) := by decide +kernel
theorem dX8_add_5 : decode MX8_add.2.1 5 = .ok (.bipush 9, 2) := by decide +kernel
theorem dX8_add_7 : decode MX8_add.2.1 7 = .ok (.if_icmp .gt 26, 3) := by decide +kernel
theorem dX8_add_10 : decode MX8_add.2.1 10 = .ok (.iload_n 2, 1) := by decide +kernel
theorem dX8_add_11 : decode MX8_add.2.1 11 = .ok (.ifCond .eq 8, 3) := by decide +kernel
theorem dX8_add_14 : decode MX8_add.2.1 14 = .ok (.iload_n 2, 1) := by decide +kernel
theorem dX8_add_15 : decode MX8_add.2.1 15 = .ok (.iconst 1, 1) := by decide +kernel
theorem dX8_add_16 : decode MX8_add.2.1 16 = .ok (.if_icmp .ne 17, 3) := by decide +kernel
theorem dX8_add_19 : decode MX8_add.2.1 19 = .ok (.iload_n 3, 1) := by decide +kernel
theorem dX8_add_20 : decode MX8_add.2.1 20 = .ok (.ifCond .lt 13, 3) := by decide +kernel
theorem dX8_add_23 : decode MX8_add.2.1 23 = .ok (.iload_n 3, 1) := by decide +kernel
theorem dX8_add_24 : decode MX8_add.2.1 24 = .ok (.bipush 9, 2) := by decide +kernel
theorem dX8_add_26 : decode MX8_add.2.1 26 = .ok (.if_icmp .gt 7, 3) := by decide +kernel
theorem dX8_add_29 : decode MX8_add.2.1 29 = .ok (.iconst 1, 1) := by decide +kernel
theorem dX8_add_30 : decode MX8_add.2.1 30 = .ok (.goto 4, 3) := by decide +kernel
theorem dX8_add_33 : decode MX8_add.2.1 33 = .ok (.iconst 0, 1) := by decide +kernel
theorem dX8_add_34 : decode MX8_add.2.1 34 = .ok (.istore 4, 2) := by decide +kernel
theorem dX8_add_36 : decode MX8_add.2.1 36 = .ok (.iload 4, 2) := by decide +kernel
theorem dX8_add_38 : decode MX8_add.2.1 38 = .ok (.ifCond .eq 12, 3) := by decide +kernel
theorem dX8_add_41 : decode MX8_add.2.1 41 = .ok (.aload_n 0, 1) := by decide +kernel
theorem dX8_add_42 : decode MX8_add.2.1 42 = .ok (.getfield 24, 3) := by decide +kernel
theorem dX8_add_45 : decode MX8_add.2.1 45 = .ok (.bipush 12, 2) := by decide +kernel
theorem dX8_add_47 : decode MX8_add.2.1 47 = .ok (.if_icmp .lt 5, 3) := by decide +kernel
theorem dX8_add_50 : decode MX8_add.2.1 50 = .ok (.iconst (-1), 1) := by decide +kernel
theorem dX8_add_51 : decode MX8_add.2.1 51 = .ok (.ireturn, 1) := by decide +kernel
theorem dX8_add_52 : decode MX8_add.2.1 52 = .ok (.aload_n 0, 1) := by decide +kernel
theorem dX8_add_53 : decode MX8_add.2.1 53 = .ok (.getfield 11, 3) := by decide +kernel
theorem dX8_add_56 : decode MX8_add.2.1 56 = .ok (.aload_n 0, 1) := by decide +kernel
theorem dX8_add_57 : decode MX8_add.2.1 57 = .ok (.getfield 24, 3) := by decide +kernel
theorem dX8_add_60 : decode MX8_add.2.1 60 = .ok (.iload_n 1, 1) := by decide +kernel
theorem dX8_add_61 : decode MX8_add.2.1 61 = .ok (.iastore, 1) := by decide +kernel
theorem dX8_add_62 : decode MX8_add.2.1 62 = .ok (.aload_n 0, 1) := by decide +kernel
theorem dX8_add_63 : decode MX8_add.2.1 63 = .ok (.getfield 15, 3) := by decide +kernel
theorem dX8_add_66 : decode MX8_add.2.1 66 = .ok (.aload_n 0, 1) := by decide +kernel
theorem dX8_add_67 : decode MX8_add.2.1 67 = .ok (.getfield 24, 3) := by decide +kernel
theorem dX8_add_70 : decode MX8_add.2.1 70 = .ok (.iload_n 2, 1) := by decide +kernel
theorem dX8_add_71 : decode MX8_add.2.1 71 = .ok (.iastore, 1) := by decide +kernel
theorem dX8_add_72 : decode MX8_add.2.1 72 = .ok (.aload_n 0, 1) := by decide +kernel
theorem dX8_add_73 : decode MX8_add.2.1 73 = .ok (.getfield 18, 3) := by decide +kernel
theorem dX8_add_76 : decode MX8_add.2.1 76 = .ok (.aload_n 0, 1) := by decide +kernel
theorem dX8_add_77 : decode MX8_add.2.1 77 = .ok (.getfield 24, 3) := by decide +kernel
theorem dX8_add_80 : decode MX8_add.2.1 80 = .ok (.iload_n 3, 1) := by decide +kernel
theorem dX8_add_81 : decode MX8_add.2.1 81 = .ok (.iastore, 1) := by decide +kernel
theorem dX8_add_82 : decode MX8_add.2.1 82 = .ok (.aload_n 0, 1) := by decide +kernel
theorem dX8_add_83 : decode MX8_add.2.1 83 = .ok (.dup, 1) := by decide +kernel
theorem dX8_add_84 : decode MX8_add.2.1 84 = .ok (.getfield 24, 3) := by decide +kernel
theorem dX8_add_87 : decode MX8_add.2.1 87 = .ok (.iconst 1, 1) := by decide +kernel
theorem dX8_add_88 : decode MX8_add.2.1 88 = .ok (.iadd, 1) := by decide +kernel
theorem dX8_add_89 : decode MX8_add.2.1 89 = .ok (.putfield 24, 3) := by decide +kernel
theorem dX8_add_92 : decode MX8_add.2.1 92 = .ok (.aload_n 0, 1) := by decide +kernel
theorem dX8_add_93 : decode MX8_add.2.1 93 = .ok (.getfield 24, 3) := by decide +kernel
theorem dX8_add_96 : decode MX8_add.2.1 96 = .ok (.ireturn, 1) := by decide +kernel
theorem dX8_clear_0 : decode MX8_clear.2.1 0 = .ok (.aload_n 0, 1) := by decide +kernel
theorem dX8_clear_1 : decode MX8_clear.2.1 1 = .ok (.getfield 24, 3) := by decide +kernel
theorem dX8_clear_4 : decode MX8_clear.2.1 4 = .ok (.istore_n 1, 1) := by decide +kernel
theorem dX8_clear_5 : decode MX8_clear.2.1 5 = .ok (.aload_n 0, 1) := by decide +kernel
theorem dX8_clear_6 : decode MX8_clear.2.1 6 = .ok (.iconst 0, 1) := by decide +kernel
theorem dX8_clear_7 : decode MX8_clear.2.1 7 = .ok (.putfield 24, 3) := by decide +kernel
theorem dX8_clear_10 : decode MX8_clear.2.1 10 = .ok (.iload_n 1, 1) := by decide +kernel
theorem dX8_clear_11 : decode MX8_clear.2.1 11 = .ok (.ireturn, 1) := by decide +kernel
theorem dX8_isPossible_0 : decode MX8_isPossible.2.1 0 = .ok (.iconst 0, 1) := by decide +kernel
theorem dX8_isPossible_1 : decode MX8_isPossible.2.1 1 = .ok (.istore_n 3, 1) := by decide +kernel
theorem dX8_isPossible_2 : decode MX8_isPossible.2.1 2 = .ok (.iload_n 3, 1) := by decide +kernel
theorem dX8_isPossible_3 : decode MX8_isPossible.2.1 3 = .ok (.aload_n 0, 1) := by decide +kernel
theorem dX8_isPossible_4 : decode MX8_isPossible.2.1 4 = .ok (.getfield 24, 3) := by decide +kernel
theorem dX8_isPossible_7 : decode MX8_isPossible.2.1 7 = .ok (.if_icmp .ge 43, 3) := by decide +kernel
theorem dX8_isPossible_10 : decode MX8_isPossible.2.1 10 = .ok (.aload_n 0, 1) := by decide +kernel
theorem dX8_isPossible_11 : decode MX8_isPossible.2.1 11 = .ok (.getfield 15, 3) := by decide +kernel
theorem dX8_isPossible_14 : decode MX8_isPossible.2.1 14 = .ok (.iload_n 3, 1) := by decide +kernel
theorem dX8_isPossible_15 : decode MX8_isPossible.2.1 15 = .ok (.iaload, 1) := by decide +kernel
theorem dX8_isPossible_16 : decode MX8_isPossible.2.1 16 = .ok (.iload_n 1, 1) := by decide +kernel
theorem dX8_isPossible_17 : decode MX8_isPossible.2.1 17 = .ok (.if_icmp .ne 27, 3) := by decide +kernel
theorem dX8_isPossible_20 : decode MX8_isPossible.2.1 20 = .ok (.aload_n 0, 1) := by decide +kernel
theorem dX8_isPossible_21 : decode MX8_isPossible.2.1 21 = .ok (.getfield 11, 3) := by decide +kernel
theorem dX8_isPossible_24 : decode MX8_isPossible.2.1 24 = .ok (.iload_n 3, 1) := by decide +kernel
theorem dX8_isPossible_25 : decode MX8_isPossible.2.1 25 = .ok (.iaload, 1) := by decide +kernel
theorem dX8_isPossible_26 : decode MX8_isPossible.2.1 26 = .ok (.iload_n 2, 1) := by decide +kernel
theorem dX8_isPossible_27 : decode MX8_isPossible.2.1 27 = .ok (.iadd, 1) := by decide +kernel
theorem dX8_isPossible_28 : decode MX8_isPossible.2.1 28 = .ok (.bipush 9, 2) := by decide +kernel
theorem dX8_isPossible_30 : decode MX8_isPossible.2.1 30 = .ok (.invokestatic 28, 3) := by decide +kernel
theorem dX8_isPossible_33 : decode MX8_isPossible.2.1 33 = .ok (.aload_n 0, 1) := by decide +kernel
theorem dX8_isPossible_34 : decode MX8_isPossible.2.1 34 = .ok (.getfield 18, 3) := by decide +kernel
theorem dX8_isPossible_37 : decode MX8_isPossible.2.1 37 = .ok (.iload_n 3, 1) := by decide +kernel
theorem dX8_isPossible_38 : decode MX8_isPossible.2.1 38 = .ok (.iaload, 1) := by decide +kernel
theorem dX8_isPossible_39 : decode MX8_isPossible.2.1 39 = .ok (.if_icmp .eq 5, 3) := by decide +kernel
theorem dX8_isPossible_42 : decode MX8_isPossible.2.1 42 = .ok (.iconst 0, 1) := by decide +kernel
theorem dX8_isPossible_43 : decode MX8_isPossible.2.1 43 = .ok (.ireturn, 1) := by decide +kernel
theorem dX8_isPossible_44 : decode MX8_isPossible.2.1 44 = .ok (.iinc 3 1, 3) := by decide +kernel
theorem dX8_isPossible_47 : decode MX8_isPossible.2.1 47 = .ok (.goto (-45), 3) := by decide +kernel
theorem dX8_isPossible_50 : decode MX8_isPossible.2.1 50 = .ok (.iconst 1, 1) := by decide +kernel
theorem dX8_isPossible_51 : decode MX8_isPossible.2.1 51 = .ok (.ireturn, 1) := by decide +kernel
theorem dX8_fitting_0 : decode MX8_fitting.2.1 0 = .ok (.iconst 0, 1) := by decide +kernel
theorem dX8_fitting_1 : decode MX8_fitting.2.1 1 = .ok (.istore_n 2, 1) := by decide +kernel
theorem dX8_fitting_2 : decode MX8_fitting.2.1 2 = .ok (.bipush (-9), 2) := by decide +kernel
theorem dX8_fitting_4 : decode MX8_fitting.2.1 4 = .ok (.istore_n 3, 1) := by decide +kernel
theorem dX8_fitting_5 : decode MX8_fitting.2.1 5 = .ok (.iload_n 3, 1) := by decide +kernel
theorem dX8_fitting_6 : decode MX8_fitting.2.1 6 = .ok (.bipush 9, 2) := by decide +kernel
theorem dX8_fitting_8 : decode MX8_fitting.2.1 8 = .ok (.if_icmp .gt 21, 3) := by decide +kernel
theorem dX8_fitting_11 : decode MX8_fitting.2.1 11 = .ok (.aload_n 0, 1) := by decide +kernel
theorem dX8_fitting_12 : decode MX8_fitting.2.1 12 = .ok (.iload_n 1, 1) := by decide +kernel
theorem dX8_fitting_13 : decode MX8_fitting.2.1 13 = .ok (.iload_n 3, 1) := by decide +kernel
theorem dX8_fitting_14 : decode MX8_fitting.2.1 14 = .ok (.invokevirtual 32, 3) := by decide +kernel
theorem dX8_fitting_17 : decode MX8_fitting.2.1 17 = .ok (.ifCond .eq 6, 3) := by decide +kernel
theorem dX8_fitting_20 : decode MX8_fitting.2.1 20 = .ok (.iinc 2 1, 3) := by decide +kernel
theorem dX8_fitting_23 : decode MX8_fitting.2.1 23 = .ok (.iinc 3 1, 3) := by decide +kernel
theorem dX8_fitting_26 : decode MX8_fitting.2.1 26 = .ok (.goto (-21), 3) := by decide +kernel
theorem dX8_fitting_29 : decode MX8_fitting.2.1 29 = .ok (.iload_n 2, 1) := by decide +kernel
theorem dX8_fitting_30 : decode MX8_fitting.2.1 30 = .ok (.ireturn, 1) := by decide +kernel
theorem dX8_least_0 : decode MX8_least.2.1 0 = .ok (.bipush (-9), 2) := by decide +kernel
theorem dX8_least_2 : decode MX8_least.2.1 2 = .ok (.istore_n 2, 1) := by decide +kernel
theorem dX8_least_3 : decode MX8_least.2.1 3 = .ok (.iload_n 2, 1) := by decide +kernel
theorem dX8_least_4 : decode MX8_least.2.1 4 = .ok (.bipush 9, 2) := by decide +kernel
theorem dX8_least_6 : decode MX8_least.2.1 6 = .ok (.if_icmp .ge 18, 3) := by decide +kernel
theorem dX8_least_9 : decode MX8_least.2.1 9 = .ok (.aload_n 0, 1) := by decide +kernel
theorem dX8_least_10 : decode MX8_least.2.1 10 = .ok (.iload_n 1, 1) := by decide +kernel
theorem dX8_least_11 : decode MX8_least.2.1 11 = .ok (.iload_n 2, 1) := by decide +kernel
theorem dX8_least_12 : decode MX8_least.2.1 12 = .ok (.invokevirtual 32, 3) := by decide +kernel
theorem dX8_least_15 : decode MX8_least.2.1 15 = .ok (.ifCond .ne 9, 3) := by decide +kernel
theorem dX8_least_18 : decode MX8_least.2.1 18 = .ok (.iinc 2 1, 3) := by decide +kernel
theorem dX8_least_21 : decode MX8_least.2.1 21 = .ok (.goto (-18), 3) := by decide +kernel
theorem dX8_least_24 : decode MX8_least.2.1 24 = .ok (.iload_n 2, 1) := by decide +kernel
theorem dX8_least_25 : decode MX8_least.2.1 25 = .ok (.ireturn, 1) := by decide +kernel
theorem dX8_leftAtMost_0 : decode MX8_leftAtMost.2.1 0 = .ok (.iconst 0, 1) := by decide +kernel
theorem dX8_leftAtMost_1 : decode MX8_leftAtMost.2.1 1 = .ok (.istore_n 3, 1) := by decide +kernel
theorem dX8_leftAtMost_2 : decode MX8_leftAtMost.2.1 2 = .ok (.iload_n 3, 1) := by decide +kernel
theorem dX8_leftAtMost_3 : decode MX8_leftAtMost.2.1 3 = .ok (.bipush 9, 2) := by decide +kernel
theorem dX8_leftAtMost_5 : decode MX8_leftAtMost.2.1 5 = .ok (.if_icmp .gt 16, 3) := by decide +kernel
theorem dX8_leftAtMost_8 : decode MX8_leftAtMost.2.1 8 = .ok (.aload_n 0, 1) := by decide +kernel
theorem dX8_leftAtMost_9 : decode MX8_leftAtMost.2.1 9 = .ok (.getfield 21, 3) := by decide +kernel
theorem dX8_leftAtMost_12 : decode MX8_leftAtMost.2.1 12 = .ok (.iload_n 3, 1) := by decide +kernel
theorem dX8_leftAtMost_13 : decode MX8_leftAtMost.2.1 13 = .ok (.iconst 0, 1) := by decide +kernel
theorem dX8_leftAtMost_14 : decode MX8_leftAtMost.2.1 14 = .ok (.iastore, 1) := by decide +kernel
theorem dX8_leftAtMost_15 : decode MX8_leftAtMost.2.1 15 = .ok (.iinc 3 1, 3) := by decide +kernel
theorem dX8_leftAtMost_18 : decode MX8_leftAtMost.2.1 18 = .ok (.goto (-16), 3) := by decide +kernel
theorem dX8_leftAtMost_21 : decode MX8_leftAtMost.2.1 21 = .ok (.iconst 0, 1) := by decide +kernel
theorem dX8_leftAtMost_22 : decode MX8_leftAtMost.2.1 22 = .ok (.istore_n 3, 1) := by decide +kernel
theorem dX8_leftAtMost_23 : decode MX8_leftAtMost.2.1 23 = .ok (.bipush (-9), 2) := by decide +kernel
theorem dX8_leftAtMost_25 : decode MX8_leftAtMost.2.1 25 = .ok (.istore 4, 2) := by decide +kernel
theorem dX8_leftAtMost_27 : decode MX8_leftAtMost.2.1 27 = .ok (.iload 4, 2) := by decide +kernel
theorem dX8_leftAtMost_29 : decode MX8_leftAtMost.2.1 29 = .ok (.bipush 9, 2) := by decide +kernel
theorem dX8_leftAtMost_31 : decode MX8_leftAtMost.2.1 31 = .ok (.if_icmp .gt 53, 3) := by decide +kernel
theorem dX8_leftAtMost_34 : decode MX8_leftAtMost.2.1 34 = .ok (.aload_n 0, 1) := by decide +kernel
theorem dX8_leftAtMost_35 : decode MX8_leftAtMost.2.1 35 = .ok (.iload_n 1, 1) := by decide +kernel
theorem dX8_leftAtMost_36 : decode MX8_leftAtMost.2.1 36 = .ok (.iload 4, 2) := by decide +kernel
theorem dX8_leftAtMost_38 : decode MX8_leftAtMost.2.1 38 = .ok (.invokevirtual 32, 3) := by decide +kernel
theorem dX8_leftAtMost_41 : decode MX8_leftAtMost.2.1 41 = .ok (.ifCond .eq 37, 3) := by decide +kernel
theorem dX8_leftAtMost_44 : decode MX8_leftAtMost.2.1 44 = .ok (.iload_n 2, 1) := by decide +kernel
theorem dX8_leftAtMost_45 : decode MX8_leftAtMost.2.1 45 = .ok (.iload 4, 2) := by decide +kernel
theorem dX8_leftAtMost_47 : decode MX8_leftAtMost.2.1 47 = .ok (.iadd, 1) := by decide +kernel
theorem dX8_leftAtMost_48 : decode MX8_leftAtMost.2.1 48 = .ok (.bipush 9, 2) := by decide +kernel
theorem dX8_leftAtMost_50 : decode MX8_leftAtMost.2.1 50 = .ok (.invokestatic 28, 3) := by decide +kernel
theorem dX8_leftAtMost_53 : decode MX8_leftAtMost.2.1 53 = .ok (.istore 5, 2) := by decide +kernel
theorem dX8_leftAtMost_55 : decode MX8_leftAtMost.2.1 55 = .ok (.aload_n 0, 1) := by decide +kernel
theorem dX8_leftAtMost_56 : decode MX8_leftAtMost.2.1 56 = .ok (.getfield 21, 3) := by decide +kernel
theorem dX8_leftAtMost_59 : decode MX8_leftAtMost.2.1 59 = .ok (.iload 5, 2) := by decide +kernel
theorem dX8_leftAtMost_61 : decode MX8_leftAtMost.2.1 61 = .ok (.dup2, 1) := by decide +kernel
theorem dX8_leftAtMost_62 : decode MX8_leftAtMost.2.1 62 = .ok (.iaload, 1) := by decide +kernel
theorem dX8_leftAtMost_63 : decode MX8_leftAtMost.2.1 63 = .ok (.iconst 1, 1) := by decide +kernel
theorem dX8_leftAtMost_64 : decode MX8_leftAtMost.2.1 64 = .ok (.iadd, 1) := by decide +kernel
theorem dX8_leftAtMost_65 : decode MX8_leftAtMost.2.1 65 = .ok (.iastore, 1) := by decide +kernel
theorem dX8_leftAtMost_66 : decode MX8_leftAtMost.2.1 66 = .ok (.iload_n 3, 1) := by decide +kernel
theorem dX8_leftAtMost_67 : decode MX8_leftAtMost.2.1 67 = .ok (.aload_n 0, 1) := by decide +kernel
theorem dX8_leftAtMost_68 : decode MX8_leftAtMost.2.1 68 = .ok (.getfield 21, 3) := by decide +kernel
theorem dX8_leftAtMost_71 : decode MX8_leftAtMost.2.1 71 = .ok (.iload 5, 2) := by decide +kernel
theorem dX8_leftAtMost_73 : decode MX8_leftAtMost.2.1 73 = .ok (.iaload, 1) := by decide +kernel
theorem dX8_leftAtMost_74 : decode MX8_leftAtMost.2.1 74 = .ok (.invokestatic 36, 3) := by decide +kernel
theorem dX8_leftAtMost_77 : decode MX8_leftAtMost.2.1 77 = .ok (.istore_n 3, 1) := by decide +kernel
theorem dX8_leftAtMost_78 : decode MX8_leftAtMost.2.1 78 = .ok (.iinc 4 1, 3) := by decide +kernel
theorem dX8_leftAtMost_81 : decode MX8_leftAtMost.2.1 81 = .ok (.goto (-54), 3) := by decide +kernel
theorem dX8_leftAtMost_84 : decode MX8_leftAtMost.2.1 84 = .ok (.iload_n 3, 1) := by decide +kernel
theorem dX8_leftAtMost_85 : decode MX8_leftAtMost.2.1 85 = .ok (.ireturn, 1) := by decide +kernel
theorem dX9_init_0 : decode MX9_init.2.1 0 = .ok (.aload_n 0, 1) := by decide +kernel
theorem dX9_init_1 : decode MX9_init.2.1 1 = .ok (.invokespecial 3, 3) := by decide +kernel
theorem dX9_init_4 : decode MX9_init.2.1 4 = .ok (.aload_n 0, 1) := by decide +kernel
theorem dX9_init_5 : decode MX9_init.2.1 5 = .ok (.bipush 80, 2) := by decide +kernel
theorem dX9_init_7 : decode MX9_init.2.1 7 = .ok (.newarray .int, 2) := by decide +kernel
theorem dX9_init_9 : decode MX9_init.2.1 9 = .ok (.putfield 11, 3) := by decide +kernel
theorem dX9_init_12 : decode MX9_init.2.1 12 = .ok (.return_, 1) := by decide +kernel
theorem dX9_add_0 : decode MX9_add.2.1 0 = .ok (.aload_n 0, 1) := by decide +kernel
theorem dX9_add_1 : decode MX9_add.2.1 1 = .ok (.getfield 15, 3) := by decide +kernel
theorem dX9_add_4 : decode MX9_add.2.1 4 = .ok (.iconst 4, 1) := by decide +kernel
theorem dX9_add_5 : decode MX9_add.2.1 5 = .ok (.iadd, 1) := by decide +kernel
theorem dX9_add_6 : decode MX9_add.2.1 6 = .ok (.bipush 80, 2) := by decide +kernel
theorem dX9_add_8 : decode MX9_add.2.1 8 = .ok (.if_icmp .le 5, 3) := by decide +kernel
theorem dX9_add_11 : decode MX9_add.2.1 11 = .ok (.iconst (-1), 1) := by decide +kernel
theorem dX9_add_12 : decode MX9_add.2.1 12 = .ok (.ireturn, 1) := by decide +kernel
theorem dX9_add_13 : decode MX9_add.2.1 13 = .ok (.iconst 0, 1) := by decide +kernel
theorem dX9_add_14 : decode MX9_add.2.1 14 = .ok (.istore_n 2, 1) := by decide +kernel
theorem dX9_add_15 : decode MX9_add.2.1 15 = .ok (.iload_n 2, 1) := by decide +kernel
theorem dX9_add_16 : decode MX9_add.2.1 16 = .ok (.iconst 4, 1) := by decide +kernel
theorem dX9_add_17 : decode MX9_add.2.1 17 = .ok (.if_icmp .ge 33, 3) := by decide +kernel
theorem dX9_add_20 : decode MX9_add.2.1 20 = .ok (.aload_n 0, 1) := by decide +kernel
theorem dX9_add_21 : decode MX9_add.2.1 21 = .ok (.getfield 11, 3) := by decide +kernel
theorem dX9_add_24 : decode MX9_add.2.1 24 = .ok (.aload_n 0, 1) := by decide +kernel
theorem dX9_add_25 : decode MX9_add.2.1 25 = .ok (.getfield 15, 3) := by decide +kernel
theorem dX9_add_28 : decode MX9_add.2.1 28 = .ok (.iload_n 2, 1) := by decide +kernel
theorem dX9_add_29 : decode MX9_add.2.1 29 = .ok (.iadd, 1) := by decide +kernel
theorem dX9_add_30 : decode MX9_add.2.1 30 = .ok (.iload_n 1, 1) := by decide +kernel
theorem dX9_add_31 : decode MX9_add.2.1 31 = .ok (.bipush 24, 2) := by decide +kernel
theorem dX9_add_33 : decode MX9_add.2.1 33 = .ok (.bipush 8, 2) := by decide +kernel
theorem dX9_add_35 : decode MX9_add.2.1 35 = .ok (.iload_n 2, 1) := by decide +kernel
theorem dX9_add_36 : decode MX9_add.2.1 36 = .ok (.imul, 1) := by decide +kernel
theorem dX9_add_37 : decode MX9_add.2.1 37 = .ok (.isub, 1) := by decide +kernel
theorem dX9_add_38 : decode MX9_add.2.1 38 = .ok (.iushr, 1) := by decide +kernel
theorem dX9_add_39 : decode MX9_add.2.1 39 = .ok (.sipush 255, 3) := by decide +kernel
theorem dX9_add_42 : decode MX9_add.2.1 42 = .ok (.iand, 1) := by decide +kernel
theorem dX9_add_43 : decode MX9_add.2.1 43 = .ok (.iastore, 1) := by decide +kernel
theorem dX9_add_44 : decode MX9_add.2.1 44 = .ok (.iinc 2 1, 3) := by decide +kernel
theorem dX9_add_47 : decode MX9_add.2.1 47 = .ok (.goto (-32), 3) := by decide +kernel
theorem dX9_add_50 : decode MX9_add.2.1 50 = .ok (.aload_n 0, 1) := by decide +kernel
theorem dX9_add_51 : decode MX9_add.2.1 51 = .ok (.dup, 1) := by decide +kernel
theorem dX9_add_52 : decode MX9_add.2.1 52 = .ok (.getfield 15, 3) := by decide +kernel
theorem dX9_add_55 : decode MX9_add.2.1 55 = .ok (.iconst 4, 1) := by decide +kernel
theorem dX9_add_56 : decode MX9_add.2.1 56 = .ok (.iadd, 1) := by decide +kernel
theorem dX9_add_57 : decode MX9_add.2.1 57 = .ok (.putfield 15, 3) := by decide +kernel
theorem dX9_add_60 : decode MX9_add.2.1 60 = .ok (.aload_n 0, 1) := by decide +kernel
theorem dX9_add_61 : decode MX9_add.2.1 61 = .ok (.getfield 15, 3) := by decide +kernel
theorem dX9_add_64 : decode MX9_add.2.1 64 = .ok (.ireturn, 1) := by decide +kernel
theorem dX9_cut_0 : decode MX9_cut.2.1 0 = .ok (.iload_n 1, 1) := by decide +kernel
theorem dX9_cut_1 : decode MX9_cut.2.1 1 = .ok (.ifCond .lt 11, 3) := by decide +kernel
theorem dX9_cut_4 : decode MX9_cut.2.1 4 = .ok (.iload_n 1, 1) := by decide +kernel
theorem dX9_cut_5 : decode MX9_cut.2.1 5 = .ok (.aload_n 0, 1) := by decide +kernel
theorem dX9_cut_6 : decode MX9_cut.2.1 6 = .ok (.getfield 15, 3) := by decide +kernel
theorem dX9_cut_9 : decode MX9_cut.2.1 9 = .ok (.if_icmp .le 5, 3) := by decide +kernel
theorem dX9_cut_12 : decode MX9_cut.2.1 12 = .ok (.iconst 0, 1) := by decide +kernel
theorem dX9_cut_13 : decode MX9_cut.2.1 13 = .ok (.ireturn, 1) := by decide +kernel
theorem dX9_cut_14 : decode MX9_cut.2.1 14 = .ok (.aload_n 0, 1) := by decide +kernel
theorem dX9_cut_15 : decode MX9_cut.2.1 15 = .ok (.iload_n 1, 1) := by decide +kernel
theorem dX9_cut_16 : decode MX9_cut.2.1 16 = .ok (.putfield 15, 3) := by decide +kernel
theorem dX9_cut_19 : decode MX9_cut.2.1 19 = .ok (.iconst 1, 1) := by decide +kernel
theorem dX9_cut_20 : decode MX9_cut.2.1 20 = .ok (.ireturn, 1) := by decide +kernel
theorem dX9_clear_0 : decode MX9_clear.2.1 0 = .ok (.aload_n 0, 1) := by decide +kernel
theorem dX9_clear_1 : decode MX9_clear.2.1 1 = .ok (.iconst 0, 1) := by decide +kernel
theorem dX9_clear_2 : decode MX9_clear.2.1 2 = .ok (.putfield 15, 3) := by decide +kernel
theorem dX9_clear_5 : decode MX9_clear.2.1 5 = .ok (.return_, 1) := by decide +kernel
theorem dX9_length_0 : decode MX9_length.2.1 0 = .ok (.aload_n 0, 1) := by decide +kernel
theorem dX9_length_1 : decode MX9_length.2.1 1 = .ok (.getfield 15, 3) := by decide +kernel
theorem dX9_length_4 : decode MX9_length.2.1 4 = .ok (.ireturn, 1) := by decide +kernel
theorem dX9_at_0 : decode MX9_at.2.1 0 = .ok (.iload_n 1, 1) := by decide +kernel
theorem dX9_at_1 : decode MX9_at.2.1 1 = .ok (.ifCond .lt 20, 3) := by decide +kernel
theorem dX9_at_4 : decode MX9_at.2.1 4 = .ok (.iload_n 1, 1) := by decide +kernel
theorem dX9_at_5 : decode MX9_at.2.1 5 = .ok (.aload_n 0, 1) := by decide +kernel
theorem dX9_at_6 : decode MX9_at.2.1 6 = .ok (.getfield 15, 3) := by decide +kernel
theorem dX9_at_9 : decode MX9_at.2.1 9 = .ok (.if_icmp .ge 12, 3) := by decide +kernel
theorem dX9_at_12 : decode MX9_at.2.1 12 = .ok (.aload_n 0, 1) := by decide +kernel
theorem dX9_at_13 : decode MX9_at.2.1 13 = .ok (.getfield 11, 3) := by decide +kernel
theorem dX9_at_16 : decode MX9_at.2.1 16 = .ok (.iload_n 1, 1) := by decide +kernel
theorem dX9_at_17 : decode MX9_at.2.1 17 = .ok (.iaload, 1) := by decide +kernel
theorem dX9_at_18 : decode MX9_at.2.1 18 = .ok (.goto 4, 3) := by decide +kernel
theorem dX9_at_21 : decode MX9_at.2.1 21 = .ok (.iconst (-1), 1) := by decide +kernel
theorem dX9_at_22 : decode MX9_at.2.1 22 = .ok (.ireturn, 1) := by decide +kernel
theorem dX10_init_0 : decode MX10_init.2.1 0 = .ok (.aload_n 0, 1) := by decide +kernel
theorem dX10_init_1 : decode MX10_init.2.1 1 = .ok (.invokespecial 3, 3) := by decide +kernel
theorem dX10_init_4 : decode MX10_init.2.1 4 = .ok (.aload_n 0, 1) := by decide +kernel
theorem dX10_init_5 : decode MX10_init.2.1 5 = .ok (.bipush 36, 2) := by decide +kernel
theorem dX10_init_7 : decode MX10_init.2.1 7 = .ok (.newarray .int, 2) := by decide +kernel
theorem dX10_init_9 : decode MX10_init.2.1 9 = .ok (.putfield 9, 3) := by decide +kernel
theorem dX10_init_12 : decode MX10_init.2.1 12 = .ok (.aload_n 0, 1) := by decide +kernel
theorem dX10_init_13 : decode MX10_init.2.1 13 = .ok (.bipush 36, 2) := by decide +kernel
theorem dX10_init_15 : decode MX10_init.2.1 15 = .ok (.newarray .int, 2) := by decide +kernel
theorem dX10_init_17 : decode MX10_init.2.1 17 = .ok (.putfield 15, 3) := by decide +kernel
theorem dX10_init_20 : decode MX10_init.2.1 20 = .ok (.aload_n 0, 1) := by decide +kernel
theorem dX10_init_21 : decode MX10_init.2.1 21 = .ok (.bipush 6, 2) := by decide +kernel
theorem dX10_init_23 : decode MX10_init.2.1 23 = .ok (.newarray .int, 2) := by decide +kernel
theorem dX10_init_25 : decode MX10_init.2.1 25 = .ok (.putfield 18, 3) := by decide +kernel
theorem dX10_init_28 : decode MX10_init.2.1 28 = .ok (.aload_n 0, 1) := by decide +kernel
theorem dX10_init_29 : decode MX10_init.2.1 29 = .ok (.bipush 6, 2) := by decide +kernel
theorem dX10_init_31 : decode MX10_init.2.1 31 = .ok (.newarray .int, 2) := by decide +kernel
theorem dX10_init_33 : decode MX10_init.2.1 33 = .ok (.putfield 21, 3) := by decide +kernel
theorem dX10_init_36 : decode MX10_init.2.1 36 = .ok (.aload_n 0, 1) := by decide +kernel
theorem dX10_init_37 : decode MX10_init.2.1 37 = .ok (.bipush 6, 2) := by decide +kernel
theorem dX10_init_39 : decode MX10_init.2.1 39 = .ok (.newarray .int, 2) := by decide +kernel
theorem dX10_init_41 : decode MX10_init.2.1 41 = .ok (.putfield 24, 3) := by decide +kernel
theorem dX10_init_44 : decode MX10_init.2.1 44 = .ok (.aload_n 0, 1) := by decide +kernel
theorem dX10_init_45 : decode MX10_init.2.1 45 = .ok (.bipush 6, 2) := by decide +kernel
theorem dX10_init_47 : decode MX10_init.2.1 47 = .ok (.newarray .int, 2) := by decide +kernel
theorem dX10_init_49 : decode MX10_init.2.1 49 = .ok (.putfield 27, 3) := by decide +kernel
theorem dX10_init_52 : decode MX10_init.2.1 52 = .ok (.aload_n 0, 1) := by decide +kernel
theorem dX10_init_53 : decode MX10_init.2.1 53 = .ok (.bipush 6, 2) := by decide +kernel
theorem dX10_init_55 : decode MX10_init.2.1 55 = .ok (.newarray .int, 2) := by decide +kernel
theorem dX10_init_57 : decode MX10_init.2.1 57 = .ok (.putfield 30, 3) := by decide +kernel
theorem dX10_init_60 : decode MX10_init.2.1 60 = .ok (.return_, 1) := by decide +kernel
theorem dX10_copy_0 : decode MX10_copy.2.1 0 = .ok (.aload_n 1, 1) := by decide +kernel
theorem dX10_copy_1 : decode MX10_copy.2.1 1 = .ok (.getfield 9, 3) := by decide +kernel
theorem dX10_copy_4 : decode MX10_copy.2.1 4 = .ok (.iconst 0, 1) := by decide +kernel
theorem dX10_copy_5 : decode MX10_copy.2.1 5 = .ok (.aload_n 0, 1) := by decide +kernel
theorem dX10_copy_6 : decode MX10_copy.2.1 6 = .ok (.getfield 9, 3) := by decide +kernel
theorem dX10_copy_9 : decode MX10_copy.2.1 9 = .ok (.iconst 0, 1) := by decide +kernel
theorem dX10_copy_10 : decode MX10_copy.2.1 10 = .ok (.bipush 36, 2) := by decide +kernel
theorem dX10_copy_12 : decode MX10_copy.2.1 12 = .ok (.invokestatic 33, 3) := by decide +kernel
theorem dX10_copy_15 : decode MX10_copy.2.1 15 = .ok (.aload_n 1, 1) := by decide +kernel
theorem dX10_copy_16 : decode MX10_copy.2.1 16 = .ok (.getfield 15, 3) := by decide +kernel
theorem dX10_copy_19 : decode MX10_copy.2.1 19 = .ok (.iconst 0, 1) := by decide +kernel
theorem dX10_copy_20 : decode MX10_copy.2.1 20 = .ok (.aload_n 0, 1) := by decide +kernel
theorem dX10_copy_21 : decode MX10_copy.2.1 21 = .ok (.getfield 15, 3) := by decide +kernel
theorem dX10_copy_24 : decode MX10_copy.2.1 24 = .ok (.iconst 0, 1) := by decide +kernel
theorem dX10_copy_25 : decode MX10_copy.2.1 25 = .ok (.bipush 36, 2) := by decide +kernel
theorem dX10_copy_27 : decode MX10_copy.2.1 27 = .ok (.invokestatic 33, 3) := by decide +kernel
theorem dX10_copy_30 : decode MX10_copy.2.1 30 = .ok (.aload_n 1, 1) := by decide +kernel
theorem dX10_copy_31 : decode MX10_copy.2.1 31 = .ok (.getfield 18, 3) := by decide +kernel
theorem dX10_copy_34 : decode MX10_copy.2.1 34 = .ok (.iconst 0, 1) := by decide +kernel
theorem dX10_copy_35 : decode MX10_copy.2.1 35 = .ok (.aload_n 0, 1) := by decide +kernel
theorem dX10_copy_36 : decode MX10_copy.2.1 36 = .ok (.getfield 18, 3) := by decide +kernel
theorem dX10_copy_39 : decode MX10_copy.2.1 39 = .ok (.iconst 0, 1) := by decide +kernel
theorem dX10_copy_40 : decode MX10_copy.2.1 40 = .ok (.bipush 6, 2) := by decide +kernel
theorem dX10_copy_42 : decode MX10_copy.2.1 42 = .ok (.invokestatic 33, 3) := by decide +kernel
theorem dX10_copy_45 : decode MX10_copy.2.1 45 = .ok (.aload_n 1, 1) := by decide +kernel
theorem dX10_copy_46 : decode MX10_copy.2.1 46 = .ok (.getfield 21, 3) := by decide +kernel
theorem dX10_copy_49 : decode MX10_copy.2.1 49 = .ok (.iconst 0, 1) := by decide +kernel
theorem dX10_copy_50 : decode MX10_copy.2.1 50 = .ok (.aload_n 0, 1) := by decide +kernel
theorem dX10_copy_51 : decode MX10_copy.2.1 51 = .ok (.getfield 21, 3) := by decide +kernel
theorem dX10_copy_54 : decode MX10_copy.2.1 54 = .ok (.iconst 0, 1) := by decide +kernel
theorem dX10_copy_55 : decode MX10_copy.2.1 55 = .ok (.bipush 6, 2) := by decide +kernel
theorem dX10_copy_57 : decode MX10_copy.2.1 57 = .ok (.invokestatic 33, 3) := by decide +kernel
theorem dX10_copy_60 : decode MX10_copy.2.1 60 = .ok (.aload_n 1, 1) := by decide +kernel
theorem dX10_copy_61 : decode MX10_copy.2.1 61 = .ok (.getfield 24, 3) := by decide +kernel
theorem dX10_copy_64 : decode MX10_copy.2.1 64 = .ok (.iconst 0, 1) := by decide +kernel
theorem dX10_copy_65 : decode MX10_copy.2.1 65 = .ok (.aload_n 0, 1) := by decide +kernel
theorem dX10_copy_66 : decode MX10_copy.2.1 66 = .ok (.getfield 24, 3) := by decide +kernel
theorem dX10_copy_69 : decode MX10_copy.2.1 69 = .ok (.iconst 0, 1) := by decide +kernel
theorem dX10_copy_70 : decode MX10_copy.2.1 70 = .ok (.bipush 6, 2) := by decide +kernel
theorem dX10_copy_72 : decode MX10_copy.2.1 72 = .ok (.invokestatic 33, 3) := by decide +kernel
theorem dX10_copy_75 : decode MX10_copy.2.1 75 = .ok (.aload_n 1, 1) := by decide +kernel
theorem dX10_copy_76 : decode MX10_copy.2.1 76 = .ok (.getfield 27, 3) := by decide +kernel
theorem dX10_copy_79 : decode MX10_copy.2.1 79 = .ok (.iconst 0, 1) := by decide +kernel
theorem dX10_copy_80 : decode MX10_copy.2.1 80 = .ok (.aload_n 0, 1) := by decide +kernel
theorem dX10_copy_81 : decode MX10_copy.2.1 81 = .ok (.getfield 27, 3) := by decide +kernel
theorem dX10_copy_84 : decode MX10_copy.2.1 84 = .ok (.iconst 0, 1) := by decide +kernel
theorem dX10_copy_85 : decode MX10_copy.2.1 85 = .ok (.bipush 6, 2) := by decide +kernel
theorem dX10_copy_87 : decode MX10_copy.2.1 87 = .ok (.invokestatic 33, 3) := by decide +kernel
theorem dX10_copy_90 : decode MX10_copy.2.1 90 = .ok (.aload_n 1, 1) := by decide +kernel
theorem dX10_copy_91 : decode MX10_copy.2.1 91 = .ok (.getfield 30, 3) := by decide +kernel
theorem dX10_copy_94 : decode MX10_copy.2.1 94 = .ok (.iconst 0, 1) := by decide +kernel
theorem dX10_copy_95 : decode MX10_copy.2.1 95 = .ok (.aload_n 0, 1) := by decide +kernel
theorem dX10_copy_96 : decode MX10_copy.2.1 96 = .ok (.getfield 30, 3) := by decide +kernel
theorem dX10_copy_99 : decode MX10_copy.2.1 99 = .ok (.iconst 0, 1) := by decide +kernel
theorem dX10_copy_100 : decode MX10_copy.2.1 100 = .ok (.bipush 6, 2) := by decide +kernel
theorem dX10_copy_102 : decode MX10_copy.2.1 102 = .ok (.invokestatic 33, 3) := by decide +kernel
theorem dX10_copy_105 : decode MX10_copy.2.1 105 = .ok (.aload_n 0, 1) := by decide +kernel
theorem dX10_copy_106 : decode MX10_copy.2.1 106 = .ok (.aload_n 1, 1) := by decide +kernel
theorem dX10_copy_107 : decode MX10_copy.2.1 107 = .ok (.getfield 39, 3) := by decide +kernel
theorem dX10_copy_110 : decode MX10_copy.2.1 110 = .ok (.putfield 39, 3) := by decide +kernel
theorem dX10_copy_113 : decode MX10_copy.2.1 113 = .ok (.aload_n 0, 1) := by decide +kernel
theorem dX10_copy_114 : decode MX10_copy.2.1 114 = .ok (.aload_n 1, 1) := by decide +kernel
theorem dX10_copy_115 : decode MX10_copy.2.1 115 = .ok (.getfield 43, 3) := by decide +kernel
theorem dX10_copy_118 : decode MX10_copy.2.1 118 = .ok (.putfield 43, 3) := by decide +kernel
theorem dX10_copy_121 : decode MX10_copy.2.1 121 = .ok (.return_, 1) := by decide +kernel
theorem dX10_has_0 : decode MX10_has.2.1 0 = .ok (.iload_n 1, 1) := by decide +kernel
theorem dX10_has_1 : decode MX10_has.2.1 1 = .ok (.ifCond .lt 15, 3) := by decide +kernel
theorem dX10_has_4 : decode MX10_has.2.1 4 = .ok (.iload_n 1, 1) := by decide +kernel
theorem dX10_has_5 : decode MX10_has.2.1 5 = .ok (.aload_n 0, 1) := by decide +kernel
theorem dX10_has_6 : decode MX10_has.2.1 6 = .ok (.getfield 43, 3) := by decide +kernel
theorem dX10_has_9 : decode MX10_has.2.1 9 = .ok (.if_icmp .ge 7, 3) := by decide +kernel
theorem dX10_has_12 : decode MX10_has.2.1 12 = .ok (.iconst 1, 1) := by decide +kernel
theorem dX10_has_13 : decode MX10_has.2.1 13 = .ok (.goto 4, 3) := by decide +kernel
theorem dX10_has_16 : decode MX10_has.2.1 16 = .ok (.iconst 0, 1) := by decide +kernel
theorem dX10_has_17 : decode MX10_has.2.1 17 = .ok (.ireturn, 1) := by decide +kernel
theorem dX10_hasTwo_0 : decode MX10_hasTwo.2.1 0 = .ok (.aload_n 0, 1) := by decide +kernel
theorem dX10_hasTwo_1 : decode MX10_hasTwo.2.1 1 = .ok (.iload_n 1, 1) := by decide +kernel
theorem dX10_hasTwo_2 : decode MX10_hasTwo.2.1 2 = .ok (.invokevirtual 46, 3) := by decide +kernel
theorem dX10_hasTwo_5 : decode MX10_hasTwo.2.1 5 = .ok (.ifCond .eq 20, 3) := by decide +kernel
theorem dX10_hasTwo_8 : decode MX10_hasTwo.2.1 8 = .ok (.aload_n 0, 1) := by decide +kernel
theorem dX10_hasTwo_9 : decode MX10_hasTwo.2.1 9 = .ok (.iload_n 2, 1) := by decide +kernel
theorem dX10_hasTwo_10 : decode MX10_hasTwo.2.1 10 = .ok (.invokevirtual 46, 3) := by decide +kernel
theorem dX10_hasTwo_13 : decode MX10_hasTwo.2.1 13 = .ok (.ifCond .eq 12, 3) := by decide +kernel
theorem dX10_hasTwo_16 : decode MX10_hasTwo.2.1 16 = .ok (.iload_n 1, 1) := by decide +kernel
theorem dX10_hasTwo_17 : decode MX10_hasTwo.2.1 17 = .ok (.iload_n 2, 1) := by decide +kernel
theorem dX10_hasTwo_18 : decode MX10_hasTwo.2.1 18 = .ok (.if_icmp .eq 7, 3) := by decide +kernel
theorem dX10_hasTwo_21 : decode MX10_hasTwo.2.1 21 = .ok (.iconst 1, 1) := by decide +kernel
theorem dX10_hasTwo_22 : decode MX10_hasTwo.2.1 22 = .ok (.goto 4, 3) := by decide +kernel
theorem dX10_hasTwo_25 : decode MX10_hasTwo.2.1 25 = .ok (.iconst 0, 1) := by decide +kernel
theorem dX10_hasTwo_26 : decode MX10_hasTwo.2.1 26 = .ok (.ireturn, 1) := by decide +kernel
theorem dX10_lives_0 : decode MX10_lives.2.1 0 = .ok (.aload_n 0, 1) := by decide +kernel
theorem dX10_lives_1 : decode MX10_lives.2.1 1 = .ok (.getfield 27, 3) := by decide +kernel
theorem dX10_lives_4 : decode MX10_lives.2.1 4 = .ok (.iload_n 1, 1) := by decide +kernel
theorem dX10_lives_5 : decode MX10_lives.2.1 5 = .ok (.iaload, 1) := by decide +kernel
theorem dX10_lives_6 : decode MX10_lives.2.1 6 = .ok (.ifCond .ne 7, 3) := by decide +kernel
theorem dX10_lives_9 : decode MX10_lives.2.1 9 = .ok (.iconst 1, 1) := by decide +kernel
theorem dX10_lives_10 : decode MX10_lives.2.1 10 = .ok (.goto 4, 3) := by decide +kernel
theorem dX10_lives_13 : decode MX10_lives.2.1 13 = .ok (.iconst 0, 1) := by decide +kernel
theorem dX10_lives_14 : decode MX10_lives.2.1 14 = .ok (.ireturn, 1) := by decide +kernel
theorem dX10_livingSet_0 : decode MX10_livingSet.2.1 0 = .ok (.iconst 0, 1) := by decide +kernel
theorem dX10_livingSet_1 : decode MX10_livingSet.2.1 1 = .ok (.istore_n 1, 1) := by decide +kernel
theorem dX10_livingSet_2 : decode MX10_livingSet.2.1 2 = .ok (.iconst 0, 1) := by decide +kernel
theorem dX10_livingSet_3 : decode MX10_livingSet.2.1 3 = .ok (.istore_n 2, 1) := by decide +kernel
theorem dX10_livingSet_4 : decode MX10_livingSet.2.1 4 = .ok (.iload_n 2, 1) := by decide +kernel
theorem dX10_livingSet_5 : decode MX10_livingSet.2.1 5 = .ok (.aload_n 0, 1) := by decide +kernel
theorem dX10_livingSet_6 : decode MX10_livingSet.2.1 6 = .ok (.getfield 43, 3) := by decide +kernel
theorem dX10_livingSet_9 : decode MX10_livingSet.2.1 9 = .ok (.if_icmp .ge 23, 3) := by decide +kernel
theorem dX10_livingSet_12 : decode MX10_livingSet.2.1 12 = .ok (.aload_n 0, 1) := by decide +kernel
theorem dX10_livingSet_13 : decode MX10_livingSet.2.1 13 = .ok (.iload_n 2, 1) := by decide +kernel
theorem dX10_livingSet_14 : decode MX10_livingSet.2.1 14 = .ok (.invokevirtual 50, 3) := by decide +kernel
theorem dX10_livingSet_17 : decode MX10_livingSet.2.1 17 = .ok (.ifCond .eq 9, 3) := by decide +kernel
theorem dX10_livingSet_20 : decode MX10_livingSet.2.1 20 = .ok (.iload_n 1, 1) := by decide +kernel
theorem dX10_livingSet_21 : decode MX10_livingSet.2.1 21 = .ok (.iconst 1, 1) := by decide +kernel
theorem dX10_livingSet_22 : decode MX10_livingSet.2.1 22 = .ok (.iload_n 2, 1) := by decide +kernel
theorem dX10_livingSet_23 : decode MX10_livingSet.2.1 23 = .ok (.ishl, 1) := by decide +kernel
theorem dX10_livingSet_24 : decode MX10_livingSet.2.1 24 = .ok (.ior, 1) := by decide +kernel
theorem dX10_livingSet_25 : decode MX10_livingSet.2.1 25 = .ok (.istore_n 1, 1) := by decide +kernel
theorem dX10_livingSet_26 : decode MX10_livingSet.2.1 26 = .ok (.iinc 2 1, 3) := by decide +kernel
theorem dX10_livingSet_29 : decode MX10_livingSet.2.1 29 = .ok (.goto (-25), 3) := by decide +kernel
theorem dX10_livingSet_32 : decode MX10_livingSet.2.1 32 = .ok (.iload_n 1, 1) := by decide +kernel
theorem dX10_livingSet_33 : decode MX10_livingSet.2.1 33 = .ok (.ireturn, 1) := by decide +kernel
theorem dX10_deadCount_0 : decode MX10_deadCount.2.1 0 = .ok (.aload_n 0, 1) := by decide +kernel
theorem dX10_deadCount_1 : decode MX10_deadCount.2.1 1 = .ok (.getfield 43, 3) := by decide +kernel
theorem dX10_deadCount_4 : decode MX10_deadCount.2.1 4 = .ok (.aload_n 0, 1) := by decide +kernel
theorem dX10_deadCount_5 : decode MX10_deadCount.2.1 5 = .ok (.invokevirtual 53, 3) := by decide +kernel
theorem dX10_deadCount_8 : decode MX10_deadCount.2.1 8 = .ok (.invokestatic 57, 3) := by decide +kernel
theorem dX10_deadCount_11 : decode MX10_deadCount.2.1 11 = .ok (.isub, 1) := by decide +kernel
theorem dX10_deadCount_12 : decode MX10_deadCount.2.1 12 = .ok (.ireturn, 1) := by decide +kernel
theorem dX10_sum_0 : decode MX10_sum.2.1 0 = .ok (.iconst 0, 1) := by decide +kernel
theorem dX10_sum_1 : decode MX10_sum.2.1 1 = .ok (.istore_n 2, 1) := by decide +kernel
theorem dX10_sum_2 : decode MX10_sum.2.1 2 = .ok (.iconst 0, 1) := by decide +kernel
theorem dX10_sum_3 : decode MX10_sum.2.1 3 = .ok (.istore_n 3, 1) := by decide +kernel
theorem dX10_sum_4 : decode MX10_sum.2.1 4 = .ok (.iload_n 3, 1) := by decide +kernel
theorem dX10_sum_5 : decode MX10_sum.2.1 5 = .ok (.aload_n 0, 1) := by decide +kernel
theorem dX10_sum_6 : decode MX10_sum.2.1 6 = .ok (.getfield 43, 3) := by decide +kernel
theorem dX10_sum_9 : decode MX10_sum.2.1 9 = .ok (.if_icmp .ge 21, 3) := by decide +kernel
theorem dX10_sum_12 : decode MX10_sum.2.1 12 = .ok (.iload_n 3, 1) := by decide +kernel
theorem dX10_sum_13 : decode MX10_sum.2.1 13 = .ok (.aload_n 1, 1) := by decide +kernel
theorem dX10_sum_14 : decode MX10_sum.2.1 14 = .ok (.arraylength, 1) := by decide +kernel
theorem dX10_sum_15 : decode MX10_sum.2.1 15 = .ok (.if_icmp .ge 15, 3) := by decide +kernel
theorem dX10_sum_18 : decode MX10_sum.2.1 18 = .ok (.iload_n 2, 1) := by decide +kernel
theorem dX10_sum_19 : decode MX10_sum.2.1 19 = .ok (.aload_n 1, 1) := by decide +kernel
theorem dX10_sum_20 : decode MX10_sum.2.1 20 = .ok (.iload_n 3, 1) := by decide +kernel
theorem dX10_sum_21 : decode MX10_sum.2.1 21 = .ok (.iaload, 1) := by decide +kernel
theorem dX10_sum_22 : decode MX10_sum.2.1 22 = .ok (.iadd, 1) := by decide +kernel
theorem dX10_sum_23 : decode MX10_sum.2.1 23 = .ok (.istore_n 2, 1) := by decide +kernel
theorem dX10_sum_24 : decode MX10_sum.2.1 24 = .ok (.iinc 3 1, 3) := by decide +kernel
theorem dX10_sum_27 : decode MX10_sum.2.1 27 = .ok (.goto (-23), 3) := by decide +kernel
theorem dX10_sum_30 : decode MX10_sum.2.1 30 = .ok (.iload_n 2, 1) := by decide +kernel
theorem dX10_sum_31 : decode MX10_sum.2.1 31 = .ok (.ireturn, 1) := by decide +kernel
theorem dX10_sumOfPairs_0 : decode MX10_sumOfPairs.2.1 0 = .ok (.iconst 0, 1) := by decide +kernel
theorem dX10_sumOfPairs_1 : decode MX10_sumOfPairs.2.1 1 = .ok (.istore_n 2, 1) := by decide +kernel
theorem dX10_sumOfPairs_2 : decode MX10_sumOfPairs.2.1 2 = .ok (.iconst 0, 1) := by decide +kernel
theorem dX10_sumOfPairs_3 : decode MX10_sumOfPairs.2.1 3 = .ok (.istore_n 3, 1) := by decide +kernel
theorem dX10_sumOfPairs_4 : decode MX10_sumOfPairs.2.1 4 = .ok (.iload_n 3, 1) := by decide +kernel
theorem dX10_sumOfPairs_5 : decode MX10_sumOfPairs.2.1 5 = .ok (.aload_n 0, 1) := by decide +kernel
theorem dX10_sumOfPairs_6 : decode MX10_sumOfPairs.2.1 6 = .ok (.getfield 43, 3) := by decide +kernel
theorem dX10_sumOfPairs_9 : decode MX10_sumOfPairs.2.1 9 = .ok (.if_icmp .ge 59, 3) := by decide +kernel
theorem dX10_sumOfPairs_12 : decode MX10_sumOfPairs.2.1 12 = .ok (.iconst 0, 1) := by decide +kernel
theorem dX10_sumOfPairs_13 : decode MX10_sumOfPairs.2.1 13 = .ok (.istore 4, 2) := by decide +kernel
theorem dX10_sumOfPairs_15 : decode MX10_sumOfPairs.2.1 15 = .ok (.iload 4, 2) := by decide +kernel
theorem dX10_sumOfPairs_17 : decode MX10_sumOfPairs.2.1 17 = .ok (.aload_n 0, 1) := by decide +kernel
theorem dX10_sumOfPairs_18 : decode MX10_sumOfPairs.2.1 18 = .ok (.getfield 43, 3) := by decide +kernel
theorem dX10_sumOfPairs_21 : decode MX10_sumOfPairs.2.1 21 = .ok (.if_icmp .ge 41, 3) := by decide +kernel
theorem dX10_sumOfPairs_24 : decode MX10_sumOfPairs.2.1 24 = .ok (.iload_n 3, 1) := by decide +kernel
theorem dX10_sumOfPairs_25 : decode MX10_sumOfPairs.2.1 25 = .ok (.iload 4, 2) := by decide +kernel
theorem dX10_sumOfPairs_27 : decode MX10_sumOfPairs.2.1 27 = .ok (.invokestatic 63, 3) := by decide +kernel
theorem dX10_sumOfPairs_30 : decode MX10_sumOfPairs.2.1 30 = .ok (.istore 5, 2) := by decide +kernel
theorem dX10_sumOfPairs_32 : decode MX10_sumOfPairs.2.1 32 = .ok (.iload_n 2, 1) := by decide +kernel
theorem dX10_sumOfPairs_33 : decode MX10_sumOfPairs.2.1 33 = .ok (.iload_n 3, 1) := by decide +kernel
theorem dX10_sumOfPairs_34 : decode MX10_sumOfPairs.2.1 34 = .ok (.iload 4, 2) := by decide +kernel
theorem dX10_sumOfPairs_36 : decode MX10_sumOfPairs.2.1 36 = .ok (.if_icmp .eq 10, 3) := by decide +kernel
theorem dX10_sumOfPairs_39 : decode MX10_sumOfPairs.2.1 39 = .ok (.iload 5, 2) := by decide +kernel
theorem dX10_sumOfPairs_41 : decode MX10_sumOfPairs.2.1 41 = .ok (.aload_n 1, 1) := by decide +kernel
theorem dX10_sumOfPairs_42 : decode MX10_sumOfPairs.2.1 42 = .ok (.arraylength, 1) := by decide +kernel
theorem dX10_sumOfPairs_43 : decode MX10_sumOfPairs.2.1 43 = .ok (.if_icmp .lt 7, 3) := by decide +kernel
theorem dX10_sumOfPairs_46 : decode MX10_sumOfPairs.2.1 46 = .ok (.iconst 0, 1) := by decide +kernel
theorem dX10_sumOfPairs_47 : decode MX10_sumOfPairs.2.1 47 = .ok (.goto 7, 3) := by decide +kernel
theorem dX10_sumOfPairs_50 : decode MX10_sumOfPairs.2.1 50 = .ok (.aload_n 1, 1) := by decide +kernel
theorem dX10_sumOfPairs_51 : decode MX10_sumOfPairs.2.1 51 = .ok (.iload 5, 2) := by decide +kernel
theorem dX10_sumOfPairs_53 : decode MX10_sumOfPairs.2.1 53 = .ok (.iaload, 1) := by decide +kernel
theorem dX10_sumOfPairs_54 : decode MX10_sumOfPairs.2.1 54 = .ok (.iadd, 1) := by decide +kernel
theorem dX10_sumOfPairs_55 : decode MX10_sumOfPairs.2.1 55 = .ok (.istore_n 2, 1) := by decide +kernel
theorem dX10_sumOfPairs_56 : decode MX10_sumOfPairs.2.1 56 = .ok (.iinc 4 1, 3) := by decide +kernel
theorem dX10_sumOfPairs_59 : decode MX10_sumOfPairs.2.1 59 = .ok (.goto (-44), 3) := by decide +kernel
theorem dX10_sumOfPairs_62 : decode MX10_sumOfPairs.2.1 62 = .ok (.iinc 3 1, 3) := by decide +kernel
theorem dX10_sumOfPairs_65 : decode MX10_sumOfPairs.2.1 65 = .ok (.goto (-61), 3) := by decide +kernel
theorem dX10_sumOfPairs_68 : decode MX10_sumOfPairs.2.1 68 = .ok (.iload_n 2, 1) := by decide +kernel
theorem dX10_sumOfPairs_69 : decode MX10_sumOfPairs.2.1 69 = .ok (.ireturn, 1) := by decide +kernel
theorem dX10_owedBy_0 : decode MX10_owedBy.2.1 0 = .ok (.iconst 0, 1) := by decide +kernel
theorem dX10_owedBy_1 : decode MX10_owedBy.2.1 1 = .ok (.istore_n 2, 1) := by decide +kernel
theorem dX10_owedBy_2 : decode MX10_owedBy.2.1 2 = .ok (.iconst 0, 1) := by decide +kernel
theorem dX10_owedBy_3 : decode MX10_owedBy.2.1 3 = .ok (.istore_n 3, 1) := by decide +kernel
theorem dX10_owedBy_4 : decode MX10_owedBy.2.1 4 = .ok (.iload_n 3, 1) := by decide +kernel
theorem dX10_owedBy_5 : decode MX10_owedBy.2.1 5 = .ok (.aload_n 0, 1) := by decide +kernel
theorem dX10_owedBy_6 : decode MX10_owedBy.2.1 6 = .ok (.getfield 43, 3) := by decide +kernel
theorem dX10_owedBy_9 : decode MX10_owedBy.2.1 9 = .ok (.if_icmp .ge 22, 3) := by decide +kernel
theorem dX10_owedBy_12 : decode MX10_owedBy.2.1 12 = .ok (.iload_n 2, 1) := by decide +kernel
theorem dX10_owedBy_13 : decode MX10_owedBy.2.1 13 = .ok (.aload_n 0, 1) := by decide +kernel
theorem dX10_owedBy_14 : decode MX10_owedBy.2.1 14 = .ok (.getfield 15, 3) := by decide +kernel
theorem dX10_owedBy_17 : decode MX10_owedBy.2.1 17 = .ok (.iload_n 1, 1) := by decide +kernel
theorem dX10_owedBy_18 : decode MX10_owedBy.2.1 18 = .ok (.iload_n 3, 1) := by decide +kernel
theorem dX10_owedBy_19 : decode MX10_owedBy.2.1 19 = .ok (.invokestatic 63, 3) := by decide +kernel
theorem dX10_owedBy_22 : decode MX10_owedBy.2.1 22 = .ok (.iaload, 1) := by decide +kernel
theorem dX10_owedBy_23 : decode MX10_owedBy.2.1 23 = .ok (.iadd, 1) := by decide +kernel
theorem dX10_owedBy_24 : decode MX10_owedBy.2.1 24 = .ok (.istore_n 2, 1) := by decide +kernel
theorem dX10_owedBy_25 : decode MX10_owedBy.2.1 25 = .ok (.iinc 3 1, 3) := by decide +kernel
theorem dX10_owedBy_28 : decode MX10_owedBy.2.1 28 = .ok (.goto (-24), 3) := by decide +kernel
theorem dX10_owedBy_31 : decode MX10_owedBy.2.1 31 = .ok (.iload_n 2, 1) := by decide +kernel
theorem dX10_owedBy_32 : decode MX10_owedBy.2.1 32 = .ok (.ireturn, 1) := by decide +kernel
theorem dX10_owedTo_0 : decode MX10_owedTo.2.1 0 = .ok (.iconst 0, 1) := by decide +kernel
theorem dX10_owedTo_1 : decode MX10_owedTo.2.1 1 = .ok (.istore_n 2, 1) := by decide +kernel
theorem dX10_owedTo_2 : decode MX10_owedTo.2.1 2 = .ok (.iconst 0, 1) := by decide +kernel
theorem dX10_owedTo_3 : decode MX10_owedTo.2.1 3 = .ok (.istore_n 3, 1) := by decide +kernel
theorem dX10_owedTo_4 : decode MX10_owedTo.2.1 4 = .ok (.iload_n 3, 1) := by decide +kernel
theorem dX10_owedTo_5 : decode MX10_owedTo.2.1 5 = .ok (.aload_n 0, 1) := by decide +kernel
theorem dX10_owedTo_6 : decode MX10_owedTo.2.1 6 = .ok (.getfield 43, 3) := by decide +kernel
theorem dX10_owedTo_9 : decode MX10_owedTo.2.1 9 = .ok (.if_icmp .ge 22, 3) := by decide +kernel
theorem dX10_owedTo_12 : decode MX10_owedTo.2.1 12 = .ok (.iload_n 2, 1) := by decide +kernel
theorem dX10_owedTo_13 : decode MX10_owedTo.2.1 13 = .ok (.aload_n 0, 1) := by decide +kernel
theorem dX10_owedTo_14 : decode MX10_owedTo.2.1 14 = .ok (.getfield 15, 3) := by decide +kernel
theorem dX10_owedTo_17 : decode MX10_owedTo.2.1 17 = .ok (.iload_n 3, 1) := by decide +kernel
theorem dX10_owedTo_18 : decode MX10_owedTo.2.1 18 = .ok (.iload_n 1, 1) := by decide +kernel
theorem dX10_owedTo_19 : decode MX10_owedTo.2.1 19 = .ok (.invokestatic 63, 3) := by decide +kernel
theorem dX10_owedTo_22 : decode MX10_owedTo.2.1 22 = .ok (.iaload, 1) := by decide +kernel
theorem dX10_owedTo_23 : decode MX10_owedTo.2.1 23 = .ok (.iadd, 1) := by decide +kernel
theorem dX10_owedTo_24 : decode MX10_owedTo.2.1 24 = .ok (.istore_n 2, 1) := by decide +kernel
theorem dX10_owedTo_25 : decode MX10_owedTo.2.1 25 = .ok (.iinc 3 1, 3) := by decide +kernel
theorem dX10_owedTo_28 : decode MX10_owedTo.2.1 28 = .ok (.goto (-24), 3) := by decide +kernel
theorem dX10_owedTo_31 : decode MX10_owedTo.2.1 31 = .ok (.iload_n 2, 1) := by decide +kernel
theorem dX10_owedTo_32 : decode MX10_owedTo.2.1 32 = .ok (.ireturn, 1) := by decide +kernel
theorem dX10_balance_0 : decode MX10_balance.2.1 0 = .ok (.aload_n 0, 1) := by decide +kernel
theorem dX10_balance_1 : decode MX10_balance.2.1 1 = .ok (.iload_n 1, 1) := by decide +kernel
theorem dX10_balance_2 : decode MX10_balance.2.1 2 = .ok (.invokevirtual 67, 3) := by decide +kernel
theorem dX10_balance_5 : decode MX10_balance.2.1 5 = .ok (.aload_n 0, 1) := by decide +kernel
theorem dX10_balance_6 : decode MX10_balance.2.1 6 = .ok (.iload_n 1, 1) := by decide +kernel
theorem dX10_balance_7 : decode MX10_balance.2.1 7 = .ok (.invokevirtual 70, 3) := by decide +kernel
theorem dX10_balance_10 : decode MX10_balance.2.1 10 = .ok (.isub, 1) := by decide +kernel
theorem dX10_balance_11 : decode MX10_balance.2.1 11 = .ok (.ireturn, 1) := by decide +kernel
theorem dX10_worth_0 : decode MX10_worth.2.1 0 = .ok (.aload_n 0, 1) := by decide +kernel
theorem dX10_worth_1 : decode MX10_worth.2.1 1 = .ok (.getfield 18, 3) := by decide +kernel
theorem dX10_worth_4 : decode MX10_worth.2.1 4 = .ok (.iload_n 1, 1) := by decide +kernel
theorem dX10_worth_5 : decode MX10_worth.2.1 5 = .ok (.iaload, 1) := by decide +kernel
theorem dX10_worth_6 : decode MX10_worth.2.1 6 = .ok (.aload_n 0, 1) := by decide +kernel
theorem dX10_worth_7 : decode MX10_worth.2.1 7 = .ok (.iload_n 1, 1) := by decide +kernel
theorem dX10_worth_8 : decode MX10_worth.2.1 8 = .ok (.invokevirtual 73, 3) := by decide +kernel
theorem dX10_worth_11 : decode MX10_worth.2.1 11 = .ok (.iadd, 1) := by decide +kernel
theorem dX10_worth_12 : decode MX10_worth.2.1 12 = .ok (.ireturn, 1) := by decide +kernel
theorem dX10_richIn_0 : decode MX10_richIn.2.1 0 = .ok (.iconst 0, 1) := by decide +kernel
theorem dX10_richIn_1 : decode MX10_richIn.2.1 1 = .ok (.istore_n 3, 1) := by decide +kernel
theorem dX10_richIn_2 : decode MX10_richIn.2.1 2 = .ok (.iconst 0, 1) := by decide +kernel
theorem dX10_richIn_3 : decode MX10_richIn.2.1 3 = .ok (.istore 4, 2) := by decide +kernel
theorem dX10_richIn_5 : decode MX10_richIn.2.1 5 = .ok (.iload 4, 2) := by decide +kernel
theorem dX10_richIn_7 : decode MX10_richIn.2.1 7 = .ok (.aload_n 0, 1) := by decide +kernel
theorem dX10_richIn_8 : decode MX10_richIn.2.1 8 = .ok (.getfield 43, 3) := by decide +kernel
theorem dX10_richIn_11 : decode MX10_richIn.2.1 11 = .ok (.if_icmp .ge 32, 3) := by decide +kernel
theorem dX10_richIn_14 : decode MX10_richIn.2.1 14 = .ok (.iload 4, 2) := by decide +kernel
theorem dX10_richIn_16 : decode MX10_richIn.2.1 16 = .ok (.iload_n 1, 1) := by decide +kernel
theorem dX10_richIn_17 : decode MX10_richIn.2.1 17 = .ok (.invokestatic 76, 3) := by decide +kernel
theorem dX10_richIn_20 : decode MX10_richIn.2.1 20 = .ok (.ifCond .eq 17, 3) := by decide +kernel
theorem dX10_richIn_23 : decode MX10_richIn.2.1 23 = .ok (.aload_n 0, 1) := by decide +kernel
theorem dX10_richIn_24 : decode MX10_richIn.2.1 24 = .ok (.getfield 18, 3) := by decide +kernel
theorem dX10_richIn_27 : decode MX10_richIn.2.1 27 = .ok (.iload 4, 2) := by decide +kernel
theorem dX10_richIn_29 : decode MX10_richIn.2.1 29 = .ok (.iaload, 1) := by decide +kernel
theorem dX10_richIn_30 : decode MX10_richIn.2.1 30 = .ok (.iload_n 2, 1) := by decide +kernel
theorem dX10_richIn_31 : decode MX10_richIn.2.1 31 = .ok (.if_icmp .lt 6, 3) := by decide +kernel
theorem dX10_richIn_34 : decode MX10_richIn.2.1 34 = .ok (.iinc 3 1, 3) := by decide +kernel
theorem dX10_richIn_37 : decode MX10_richIn.2.1 37 = .ok (.iinc 4 1, 3) := by decide +kernel
theorem dX10_richIn_40 : decode MX10_richIn.2.1 40 = .ok (.goto (-35), 3) := by decide +kernel
theorem dX10_richIn_43 : decode MX10_richIn.2.1 43 = .ok (.iload_n 3, 1) := by decide +kernel
theorem dX10_richIn_44 : decode MX10_richIn.2.1 44 = .ok (.ireturn, 1) := by decide +kernel
theorem dX10_letDie_0 : decode MX10_letDie.2.1 0 = .ok (.aload_n 0, 1) := by decide +kernel
theorem dX10_letDie_1 : decode MX10_letDie.2.1 1 = .ok (.iload_n 1, 1) := by decide +kernel
theorem dX10_letDie_2 : decode MX10_letDie.2.1 2 = .ok (.invokevirtual 46, 3) := by decide +kernel
theorem dX10_letDie_5 : decode MX10_letDie.2.1 5 = .ok (.ifCond .eq 10, 3) := by decide +kernel
theorem dX10_letDie_8 : decode MX10_letDie.2.1 8 = .ok (.iload_n 2, 1) := by decide +kernel
theorem dX10_letDie_9 : decode MX10_letDie.2.1 9 = .ok (.invokestatic 80, 3) := by decide +kernel
theorem dX10_letDie_12 : decode MX10_letDie.2.1 12 = .ok (.ifCond .ne 5, 3) := by decide +kernel
theorem dX10_letDie_15 : decode MX10_letDie.2.1 15 = .ok (.iconst (-1), 1) := by decide +kernel
theorem dX10_letDie_16 : decode MX10_letDie.2.1 16 = .ok (.ireturn, 1) := by decide +kernel
theorem dX10_letDie_17 : decode MX10_letDie.2.1 17 = .ok (.aload_n 0, 1) := by decide +kernel
theorem dX10_letDie_18 : decode MX10_letDie.2.1 18 = .ok (.iload_n 1, 1) := by decide +kernel
theorem dX10_letDie_19 : decode MX10_letDie.2.1 19 = .ok (.invokevirtual 50, 3) := by decide +kernel
theorem dX10_letDie_22 : decode MX10_letDie.2.1 22 = .ok (.ifCond .ne 6, 3) := by decide +kernel
theorem dX10_letDie_25 : decode MX10_letDie.2.1 25 = .ok (.bipush (-2), 2) := by decide +kernel
theorem dX10_letDie_27 : decode MX10_letDie.2.1 27 = .ok (.ireturn, 1) := by decide +kernel
theorem dX10_letDie_28 : decode MX10_letDie.2.1 28 = .ok (.aload_n 0, 1) := by decide +kernel
theorem dX10_letDie_29 : decode MX10_letDie.2.1 29 = .ok (.getfield 27, 3) := by decide +kernel
theorem dX10_letDie_32 : decode MX10_letDie.2.1 32 = .ok (.iload_n 1, 1) := by decide +kernel
theorem dX10_letDie_33 : decode MX10_letDie.2.1 33 = .ok (.iload_n 2, 1) := by decide +kernel
theorem dX10_letDie_34 : decode MX10_letDie.2.1 34 = .ok (.iastore, 1) := by decide +kernel
theorem dX10_letDie_35 : decode MX10_letDie.2.1 35 = .ok (.aload_n 0, 1) := by decide +kernel
theorem dX10_letDie_36 : decode MX10_letDie.2.1 36 = .ok (.getfield 24, 3) := by decide +kernel
theorem dX10_letDie_39 : decode MX10_letDie.2.1 39 = .ok (.iload_n 1, 1) := by decide +kernel
theorem dX10_letDie_40 : decode MX10_letDie.2.1 40 = .ok (.bipush 99, 2) := by decide +kernel
theorem dX10_letDie_42 : decode MX10_letDie.2.1 42 = .ok (.aload_n 0, 1) := by decide +kernel
theorem dX10_letDie_43 : decode MX10_letDie.2.1 43 = .ok (.getfield 24, 3) := by decide +kernel
theorem dX10_letDie_46 : decode MX10_letDie.2.1 46 = .ok (.iload_n 1, 1) := by decide +kernel
theorem dX10_letDie_47 : decode MX10_letDie.2.1 47 = .ok (.iaload, 1) := by decide +kernel
theorem dX10_letDie_48 : decode MX10_letDie.2.1 48 = .ok (.iconst 1, 1) := by decide +kernel
theorem dX10_letDie_49 : decode MX10_letDie.2.1 49 = .ok (.iadd, 1) := by decide +kernel
theorem dX10_letDie_50 : decode MX10_letDie.2.1 50 = .ok (.invokestatic 83, 3) := by decide +kernel
theorem dX10_letDie_53 : decode MX10_letDie.2.1 53 = .ok (.iastore, 1) := by decide +kernel
theorem dX10_letDie_54 : decode MX10_letDie.2.1 54 = .ok (.aload_n 0, 1) := by decide +kernel
theorem dX10_letDie_55 : decode MX10_letDie.2.1 55 = .ok (.getfield 30, 3) := by decide +kernel
theorem dX10_letDie_58 : decode MX10_letDie.2.1 58 = .ok (.iload_n 1, 1) := by decide +kernel
theorem dX10_letDie_59 : decode MX10_letDie.2.1 59 = .ok (.iconst 0, 1) := by decide +kernel
theorem dX10_letDie_60 : decode MX10_letDie.2.1 60 = .ok (.iastore, 1) := by decide +kernel
theorem dX10_letDie_61 : decode MX10_letDie.2.1 61 = .ok (.aload_n 0, 1) := by decide +kernel
theorem dX10_letDie_62 : decode MX10_letDie.2.1 62 = .ok (.invokevirtual 88, 3) := by decide +kernel
theorem dX10_letDie_65 : decode MX10_letDie.2.1 65 = .ok (.ireturn, 1) := by decide +kernel
theorem dX10_letCough_0 : decode MX10_letCough.2.1 0 = .ok (.aload_n 0, 1) := by decide +kernel
theorem dX10_letCough_1 : decode MX10_letCough.2.1 1 = .ok (.iload_n 1, 1) := by decide +kernel
theorem dX10_letCough_2 : decode MX10_letCough.2.1 2 = .ok (.invokevirtual 46, 3) := by decide +kernel
theorem dX10_letCough_5 : decode MX10_letCough.2.1 5 = .ok (.ifCond .ne 5, 3) := by decide +kernel
theorem dX10_letCough_8 : decode MX10_letCough.2.1 8 = .ok (.iconst (-1), 1) := by decide +kernel
theorem dX10_letCough_9 : decode MX10_letCough.2.1 9 = .ok (.ireturn, 1) := by decide +kernel
theorem dX10_letCough_10 : decode MX10_letCough.2.1 10 = .ok (.aload_n 0, 1) := by decide +kernel
theorem dX10_letCough_11 : decode MX10_letCough.2.1 11 = .ok (.iload_n 1, 1) := by decide +kernel
theorem dX10_letCough_12 : decode MX10_letCough.2.1 12 = .ok (.invokevirtual 50, 3) := by decide +kernel
theorem dX10_letCough_15 : decode MX10_letCough.2.1 15 = .ok (.ifCond .eq 6, 3) := by decide +kernel
theorem dX10_letCough_18 : decode MX10_letCough.2.1 18 = .ok (.bipush (-2), 2) := by decide +kernel
theorem dX10_letCough_20 : decode MX10_letCough.2.1 20 = .ok (.ireturn, 1) := by decide +kernel
theorem dX10_letCough_21 : decode MX10_letCough.2.1 21 = .ok (.aload_n 0, 1) := by decide +kernel
theorem dX10_letCough_22 : decode MX10_letCough.2.1 22 = .ok (.getfield 27, 3) := by decide +kernel
theorem dX10_letCough_25 : decode MX10_letCough.2.1 25 = .ok (.iload_n 1, 1) := by decide +kernel
theorem dX10_letCough_26 : decode MX10_letCough.2.1 26 = .ok (.iconst 0, 1) := by decide +kernel
theorem dX10_letCough_27 : decode MX10_letCough.2.1 27 = .ok (.iastore, 1) := by decide +kernel
theorem dX10_letCough_28 : decode MX10_letCough.2.1 28 = .ok (.aload_n 0, 1) := by decide +kernel
theorem dX10_letCough_29 : decode MX10_letCough.2.1 29 = .ok (.getfield 21, 3) := by decide +kernel
theorem dX10_letCough_32 : decode MX10_letCough.2.1 32 = .ok (.iload_n 1, 1) := by decide +kernel
theorem dX10_letCough_33 : decode MX10_letCough.2.1 33 = .ok (.dup2, 1) := by decide +kernel
theorem dX10_letCough_34 : decode MX10_letCough.2.1 34 = .ok (.iaload, 1) := by decide +kernel
theorem dX10_letCough_35 : decode MX10_letCough.2.1 35 = .ok (.iconst 2, 1) := by decide +kernel
theorem dX10_letCough_36 : decode MX10_letCough.2.1 36 = .ok (.idiv, 1) := by decide +kernel
theorem dX10_letCough_37 : decode MX10_letCough.2.1 37 = .ok (.iastore, 1) := by decide +kernel
theorem dX10_letCough_38 : decode MX10_letCough.2.1 38 = .ok (.aload_n 0, 1) := by decide +kernel
theorem dX10_letCough_39 : decode MX10_letCough.2.1 39 = .ok (.getfield 21, 3) := by decide +kernel
theorem dX10_letCough_42 : decode MX10_letCough.2.1 42 = .ok (.iload_n 1, 1) := by decide +kernel
theorem dX10_letCough_43 : decode MX10_letCough.2.1 43 = .ok (.iaload, 1) := by decide +kernel
theorem dX10_letCough_44 : decode MX10_letCough.2.1 44 = .ok (.ireturn, 1) := by decide +kernel
theorem dX10_lend_0 : decode MX10_lend.2.1 0 = .ok (.aload_n 0, 1) := by decide +kernel
theorem dX10_lend_1 : decode MX10_lend.2.1 1 = .ok (.iload_n 1, 1) := by decide +kernel
theorem dX10_lend_2 : decode MX10_lend.2.1 2 = .ok (.iload_n 2, 1) := by decide +kernel
theorem dX10_lend_3 : decode MX10_lend.2.1 3 = .ok (.iload_n 3, 1) := by decide +kernel
theorem dX10_lend_4 : decode MX10_lend.2.1 4 = .ok (.iconst 1, 1) := by decide +kernel
theorem dX10_lend_5 : decode MX10_lend.2.1 5 = .ok (.invokevirtual 91, 3) := by decide +kernel
theorem dX10_lend_8 : decode MX10_lend.2.1 8 = .ok (.ireturn, 1) := by decide +kernel
theorem dX10_pay_0 : decode MX10_pay.2.1 0 = .ok (.aload_n 0, 1) := by decide +kernel
theorem dX10_pay_1 : decode MX10_pay.2.1 1 = .ok (.iload_n 1, 1) := by decide +kernel
theorem dX10_pay_2 : decode MX10_pay.2.1 2 = .ok (.iload_n 2, 1) := by decide +kernel
theorem dX10_pay_3 : decode MX10_pay.2.1 3 = .ok (.iload_n 3, 1) := by decide +kernel
theorem dX10_pay_4 : decode MX10_pay.2.1 4 = .ok (.iconst 0, 1) := by decide +kernel
theorem dX10_pay_5 : decode MX10_pay.2.1 5 = .ok (.invokevirtual 91, 3) := by decide +kernel
theorem dX10_pay_8 : decode MX10_pay.2.1 8 = .ok (.ireturn, 1) := by decide +kernel
theorem dX10_hand_0 : decode MX10_hand.2.1 0 = .ok (.aload_n 0, 1) := by decide +kernel
theorem dX10_hand_1 : decode MX10_hand.2.1 1 = .ok (.iload_n 1, 1) := by decide +kernel
theorem dX10_hand_2 : decode MX10_hand.2.1 2 = .ok (.iload_n 2, 1) := by decide +kernel
theorem dX10_hand_3 : decode MX10_hand.2.1 3 = .ok (.invokevirtual 95, 3) := by decide +kernel
theorem dX10_hand_6 : decode MX10_hand.2.1 6 = .ok (.ifCond .eq 14, 3) := by decide +kernel
theorem dX10_hand_9 : decode MX10_hand.2.1 9 = .ok (.iload_n 3, 1) := by decide +kernel
theorem dX10_hand_10 : decode MX10_hand.2.1 10 = .ok (.iconst 1, 1) := by decide +kernel
theorem dX10_hand_11 : decode MX10_hand.2.1 11 = .ok (.if_icmp .lt 9, 3) := by decide +kernel
theorem dX10_hand_14 : decode MX10_hand.2.1 14 = .ok (.iload_n 3, 1) := by decide +kernel
theorem dX10_hand_15 : decode MX10_hand.2.1 15 = .ok (.bipush 99, 2) := by decide +kernel
theorem dX10_hand_17 : decode MX10_hand.2.1 17 = .ok (.if_icmp .le 5, 3) := by decide +kernel
theorem dX10_hand_20 : decode MX10_hand.2.1 20 = .ok (.iconst (-1), 1) := by decide +kernel
theorem dX10_hand_21 : decode MX10_hand.2.1 21 = .ok (.ireturn, 1) := by decide +kernel
theorem dX10_hand_22 : decode MX10_hand.2.1 22 = .ok (.aload_n 0, 1) := by decide +kernel
theorem dX10_hand_23 : decode MX10_hand.2.1 23 = .ok (.iload_n 1, 1) := by decide +kernel
theorem dX10_hand_24 : decode MX10_hand.2.1 24 = .ok (.invokevirtual 50, 3) := by decide +kernel
theorem dX10_hand_27 : decode MX10_hand.2.1 27 = .ok (.ifCond .eq 11, 3) := by decide +kernel
theorem dX10_hand_30 : decode MX10_hand.2.1 30 = .ok (.aload_n 0, 1) := by decide +kernel
theorem dX10_hand_31 : decode MX10_hand.2.1 31 = .ok (.iload_n 2, 1) := by decide +kernel
theorem dX10_hand_32 : decode MX10_hand.2.1 32 = .ok (.invokevirtual 50, 3) := by decide +kernel
theorem dX10_hand_35 : decode MX10_hand.2.1 35 = .ok (.ifCond .ne 6, 3) := by decide +kernel
theorem dX10_hand_38 : decode MX10_hand.2.1 38 = .ok (.bipush (-4), 2) := by decide +kernel
theorem dX10_hand_40 : decode MX10_hand.2.1 40 = .ok (.ireturn, 1) := by decide +kernel
theorem dX10_hand_41 : decode MX10_hand.2.1 41 = .ok (.aload_n 0, 1) := by decide +kernel
theorem dX10_hand_42 : decode MX10_hand.2.1 42 = .ok (.getfield 18, 3) := by decide +kernel
theorem dX10_hand_45 : decode MX10_hand.2.1 45 = .ok (.iload_n 1, 1) := by decide +kernel
theorem dX10_hand_46 : decode MX10_hand.2.1 46 = .ok (.iaload, 1) := by decide +kernel
theorem dX10_hand_47 : decode MX10_hand.2.1 47 = .ok (.iload_n 3, 1) := by decide +kernel
theorem dX10_hand_48 : decode MX10_hand.2.1 48 = .ok (.if_icmp .ge 6, 3) := by decide +kernel
theorem dX10_hand_51 : decode MX10_hand.2.1 51 = .ok (.bipush (-2), 2) := by decide +kernel
theorem dX10_hand_53 : decode MX10_hand.2.1 53 = .ok (.ireturn, 1) := by decide +kernel
theorem dX10_hand_54 : decode MX10_hand.2.1 54 = .ok (.iload 4, 2) := by decide +kernel
theorem dX10_hand_56 : decode MX10_hand.2.1 56 = .ok (.ifCond .eq 11, 3) := by decide +kernel
theorem dX10_hand_59 : decode MX10_hand.2.1 59 = .ok (.iload_n 2, 1) := by decide +kernel
theorem dX10_hand_60 : decode MX10_hand.2.1 60 = .ok (.iload_n 1, 1) := by decide +kernel
theorem dX10_hand_61 : decode MX10_hand.2.1 61 = .ok (.invokestatic 63, 3) := by decide +kernel
theorem dX10_hand_64 : decode MX10_hand.2.1 64 = .ok (.goto 8, 3) := by decide +kernel
theorem dX10_hand_67 : decode MX10_hand.2.1 67 = .ok (.iload_n 1, 1) := by decide +kernel
theorem dX10_hand_68 : decode MX10_hand.2.1 68 = .ok (.iload_n 2, 1) := by decide +kernel
theorem dX10_hand_69 : decode MX10_hand.2.1 69 = .ok (.invokestatic 63, 3) := by decide +kernel
theorem dX10_hand_72 : decode MX10_hand.2.1 72 = .ok (.istore 5, 2) := by decide +kernel
theorem dX10_hand_74 : decode MX10_hand.2.1 74 = .ok (.iload 4, 2) := by decide +kernel
theorem dX10_hand_76 : decode MX10_hand.2.1 76 = .ok (.ifCond .eq 15, 3) := by decide +kernel
theorem dX10_hand_79 : decode MX10_hand.2.1 79 = .ok (.aload_n 0, 1) := by decide +kernel
theorem dX10_hand_80 : decode MX10_hand.2.1 80 = .ok (.getfield 15, 3) := by decide +kernel
theorem dX10_hand_83 : decode MX10_hand.2.1 83 = .ok (.iload 5, 2) := by decide +kernel
theorem dX10_hand_85 : decode MX10_hand.2.1 85 = .ok (.iaload, 1) := by decide +kernel
theorem dX10_hand_86 : decode MX10_hand.2.1 86 = .ok (.iload_n 3, 1) := by decide +kernel
theorem dX10_hand_87 : decode MX10_hand.2.1 87 = .ok (.iadd, 1) := by decide +kernel
theorem dX10_hand_88 : decode MX10_hand.2.1 88 = .ok (.goto 12, 3) := by decide +kernel
theorem dX10_hand_91 : decode MX10_hand.2.1 91 = .ok (.aload_n 0, 1) := by decide +kernel
theorem dX10_hand_92 : decode MX10_hand.2.1 92 = .ok (.getfield 15, 3) := by decide +kernel
theorem dX10_hand_95 : decode MX10_hand.2.1 95 = .ok (.iload 5, 2) := by decide +kernel
theorem dX10_hand_97 : decode MX10_hand.2.1 97 = .ok (.iaload, 1) := by decide +kernel
theorem dX10_hand_98 : decode MX10_hand.2.1 98 = .ok (.iload_n 3, 1) := by decide +kernel
theorem dX10_hand_99 : decode MX10_hand.2.1 99 = .ok (.isub, 1) := by decide +kernel
theorem dX10_hand_100 : decode MX10_hand.2.1 100 = .ok (.istore 6, 2) := by decide +kernel
theorem dX10_hand_102 : decode MX10_hand.2.1 102 = .ok (.iload 6, 2) := by decide +kernel
theorem dX10_hand_104 : decode MX10_hand.2.1 104 = .ok (.ifCond .lt 23, 3) := by decide +kernel
theorem dX10_hand_107 : decode MX10_hand.2.1 107 = .ok (.iload 6, 2) := by decide +kernel
theorem dX10_hand_109 : decode MX10_hand.2.1 109 = .ok (.bipush 99, 2) := by decide +kernel
theorem dX10_hand_111 : decode MX10_hand.2.1 111 = .ok (.if_icmp .gt 16, 3) := by decide +kernel
theorem dX10_hand_114 : decode MX10_hand.2.1 114 = .ok (.aload_n 0, 1) := by decide +kernel
theorem dX10_hand_115 : decode MX10_hand.2.1 115 = .ok (.getfield 18, 3) := by decide +kernel
theorem dX10_hand_118 : decode MX10_hand.2.1 118 = .ok (.iload_n 2, 1) := by decide +kernel
theorem dX10_hand_119 : decode MX10_hand.2.1 119 = .ok (.iaload, 1) := by decide +kernel
theorem dX10_hand_120 : decode MX10_hand.2.1 120 = .ok (.iload_n 3, 1) := by decide +kernel
theorem dX10_hand_121 : decode MX10_hand.2.1 121 = .ok (.iadd, 1) := by decide +kernel
theorem dX10_hand_122 : decode MX10_hand.2.1 122 = .ok (.bipush 99, 2) := by decide +kernel
theorem dX10_hand_124 : decode MX10_hand.2.1 124 = .ok (.if_icmp .le 6, 3) := by decide +kernel
theorem dX10_hand_127 : decode MX10_hand.2.1 127 = .ok (.bipush (-3), 2) := by decide +kernel
theorem dX10_hand_129 : decode MX10_hand.2.1 129 = .ok (.ireturn, 1) := by decide +kernel
theorem dX10_hand_130 : decode MX10_hand.2.1 130 = .ok (.aload_n 0, 1) := by decide +kernel
theorem dX10_hand_131 : decode MX10_hand.2.1 131 = .ok (.getfield 18, 3) := by decide +kernel
theorem dX10_hand_134 : decode MX10_hand.2.1 134 = .ok (.iload_n 1, 1) := by decide +kernel
theorem dX10_hand_135 : decode MX10_hand.2.1 135 = .ok (.dup2, 1) := by decide +kernel
theorem dX10_hand_136 : decode MX10_hand.2.1 136 = .ok (.iaload, 1) := by decide +kernel
theorem dX10_hand_137 : decode MX10_hand.2.1 137 = .ok (.iload_n 3, 1) := by decide +kernel
theorem dX10_hand_138 : decode MX10_hand.2.1 138 = .ok (.isub, 1) := by decide +kernel
theorem dX10_hand_139 : decode MX10_hand.2.1 139 = .ok (.iastore, 1) := by decide +kernel
theorem dX10_hand_140 : decode MX10_hand.2.1 140 = .ok (.aload_n 0, 1) := by decide +kernel
theorem dX10_hand_141 : decode MX10_hand.2.1 141 = .ok (.getfield 18, 3) := by decide +kernel
theorem dX10_hand_144 : decode MX10_hand.2.1 144 = .ok (.iload_n 2, 1) := by decide +kernel
theorem dX10_hand_145 : decode MX10_hand.2.1 145 = .ok (.dup2, 1) := by decide +kernel
theorem dX10_hand_146 : decode MX10_hand.2.1 146 = .ok (.iaload, 1) := by decide +kernel
theorem dX10_hand_147 : decode MX10_hand.2.1 147 = .ok (.iload_n 3, 1) := by decide +kernel
theorem dX10_hand_148 : decode MX10_hand.2.1 148 = .ok (.iadd, 1) := by decide +kernel
theorem dX10_hand_149 : decode MX10_hand.2.1 149 = .ok (.iastore, 1) := by decide +kernel
theorem dX10_hand_150 : decode MX10_hand.2.1 150 = .ok (.aload_n 0, 1) := by decide +kernel
theorem dX10_hand_151 : decode MX10_hand.2.1 151 = .ok (.getfield 15, 3) := by decide +kernel
theorem dX10_hand_154 : decode MX10_hand.2.1 154 = .ok (.iload 5, 2) := by decide +kernel
theorem dX10_hand_156 : decode MX10_hand.2.1 156 = .ok (.iload 6, 2) := by decide +kernel
theorem dX10_hand_158 : decode MX10_hand.2.1 158 = .ok (.iastore, 1) := by decide +kernel
theorem dX10_hand_159 : decode MX10_hand.2.1 159 = .ok (.iload 6, 2) := by decide +kernel
theorem dX10_hand_161 : decode MX10_hand.2.1 161 = .ok (.ireturn, 1) := by decide +kernel
theorem dX11_init_0 : decode MX11_init.2.1 0 = .ok (.aload_n 0, 1) := by decide +kernel
theorem dX11_init_1 : decode MX11_init.2.1 1 = .ok (.invokespecial 3, 3) := by decide +kernel
theorem dX11_init_4 : decode MX11_init.2.1 4 = .ok (.aload_n 0, 1) := by decide +kernel
theorem dX11_init_5 : decode MX11_init.2.1 5 = .ok (.new 9, 3) := by decide +kernel
theorem dX11_init_8 : decode MX11_init.2.1 8 = .ok (.dup, 1) := by decide +kernel
theorem dX11_init_9 : decode MX11_init.2.1 9 = .ok (.invokespecial 11, 3) := by decide +kernel
theorem dX11_init_12 : decode MX11_init.2.1 12 = .ok (.putfield 12, 3) := by decide +kernel
theorem dX11_init_15 : decode MX11_init.2.1 15 = .ok (.aload_n 0, 1) := by decide +kernel
theorem dX11_init_16 : decode MX11_init.2.1 16 = .ok (.new 16, 3) := by decide +kernel
theorem dX11_init_19 : decode MX11_init.2.1 19 = .ok (.dup, 1) := by decide +kernel
theorem dX11_init_20 : decode MX11_init.2.1 20 = .ok (.invokespecial 18, 3) := by decide +kernel
theorem dX11_init_23 : decode MX11_init.2.1 23 = .ok (.putfield 19, 3) := by decide +kernel
theorem dX11_init_26 : decode MX11_init.2.1 26 = .ok (.aload_n 0, 1) := by decide +kernel
theorem dX11_init_27 : decode MX11_init.2.1 27 = .ok (.new 23, 3) := by decide +kernel
theorem dX11_init_30 : decode MX11_init.2.1 30 = .ok (.dup, 1) := by decide +kernel
theorem dX11_init_31 : decode MX11_init.2.1 31 = .ok (.invokespecial 25, 3) := by decide +kernel
theorem dX11_init_34 : decode MX11_init.2.1 34 = .ok (.putfield 26, 3) := by decide +kernel
theorem dX11_init_37 : decode MX11_init.2.1 37 = .ok (.aload_n 0, 1) := by decide +kernel
theorem dX11_init_38 : decode MX11_init.2.1 38 = .ok (.new 23, 3) := by decide +kernel
theorem dX11_init_41 : decode MX11_init.2.1 41 = .ok (.dup, 1) := by decide +kernel
theorem dX11_init_42 : decode MX11_init.2.1 42 = .ok (.invokespecial 25, 3) := by decide +kernel
theorem dX11_init_45 : decode MX11_init.2.1 45 = .ok (.putfield 30, 3) := by decide +kernel
theorem dX11_init_48 : decode MX11_init.2.1 48 = .ok (.aload_n 0, 1) := by decide +kernel
theorem dX11_init_49 : decode MX11_init.2.1 49 = .ok (.new 33, 3) := by decide +kernel
theorem dX11_init_52 : decode MX11_init.2.1 52 = .ok (.dup, 1) := by decide +kernel
theorem dX11_init_53 : decode MX11_init.2.1 53 = .ok (.invokespecial 35, 3) := by decide +kernel
theorem dX11_init_56 : decode MX11_init.2.1 56 = .ok (.putfield 36, 3) := by decide +kernel
theorem dX11_init_59 : decode MX11_init.2.1 59 = .ok (.aload_n 0, 1) := by decide +kernel
theorem dX11_init_60 : decode MX11_init.2.1 60 = .ok (.new 40, 3) := by decide +kernel
theorem dX11_init_63 : decode MX11_init.2.1 63 = .ok (.dup, 1) := by decide +kernel
theorem dX11_init_64 : decode MX11_init.2.1 64 = .ok (.invokespecial 42, 3) := by decide +kernel
theorem dX11_init_67 : decode MX11_init.2.1 67 = .ok (.putfield 43, 3) := by decide +kernel
theorem dX11_init_70 : decode MX11_init.2.1 70 = .ok (.aload_n 0, 1) := by decide +kernel
theorem dX11_init_71 : decode MX11_init.2.1 71 = .ok (.new 23, 3) := by decide +kernel
theorem dX11_init_74 : decode MX11_init.2.1 74 = .ok (.dup, 1) := by decide +kernel
theorem dX11_init_75 : decode MX11_init.2.1 75 = .ok (.invokespecial 25, 3) := by decide +kernel
theorem dX11_init_78 : decode MX11_init.2.1 78 = .ok (.putfield 47, 3) := by decide +kernel
theorem dX11_init_81 : decode MX11_init.2.1 81 = .ok (.aload_n 0, 1) := by decide +kernel
theorem dX11_init_82 : decode MX11_init.2.1 82 = .ok (.new 23, 3) := by decide +kernel
theorem dX11_init_85 : decode MX11_init.2.1 85 = .ok (.dup, 1) := by decide +kernel
theorem dX11_init_86 : decode MX11_init.2.1 86 = .ok (.invokespecial 25, 3) := by decide +kernel
theorem dX11_init_89 : decode MX11_init.2.1 89 = .ok (.putfield 50, 3) := by decide +kernel
theorem dX11_init_92 : decode MX11_init.2.1 92 = .ok (.aload_n 0, 1) := by decide +kernel
theorem dX11_init_93 : decode MX11_init.2.1 93 = .ok (.new 53, 3) := by decide +kernel
theorem dX11_init_96 : decode MX11_init.2.1 96 = .ok (.dup, 1) := by decide +kernel
theorem dX11_init_97 : decode MX11_init.2.1 97 = .ok (.invokespecial 55, 3) := by decide +kernel
theorem dX11_init_100 : decode MX11_init.2.1 100 = .ok (.putfield 56, 3) := by decide +kernel
theorem dX11_init_103 : decode MX11_init.2.1 103 = .ok (.aload_n 0, 1) := by decide +kernel
theorem dX11_init_104 : decode MX11_init.2.1 104 = .ok (.new 60, 3) := by decide +kernel
theorem dX11_init_107 : decode MX11_init.2.1 107 = .ok (.dup, 1) := by decide +kernel
theorem dX11_init_108 : decode MX11_init.2.1 108 = .ok (.invokespecial 62, 3) := by decide +kernel
theorem dX11_init_111 : decode MX11_init.2.1 111 = .ok (.putfield 63, 3) := by decide +kernel
theorem dX11_init_114 : decode MX11_init.2.1 114 = .ok (.aload_n 0, 1) := by decide +kernel
theorem dX11_init_115 : decode MX11_init.2.1 115 = .ok (.new 67, 3) := by decide +kernel
theorem dX11_init_118 : decode MX11_init.2.1 118 = .ok (.dup, 1) := by decide +kernel
theorem dX11_init_119 : decode MX11_init.2.1 119 = .ok (.invokespecial 69, 3) := by decide +kernel
theorem dX11_init_122 : decode MX11_init.2.1 122 = .ok (.putfield 70, 3) := by decide +kernel
theorem dX11_init_125 : decode MX11_init.2.1 125 = .ok (.aload_n 0, 1) := by decide +kernel
theorem dX11_init_126 : decode MX11_init.2.1 126 = .ok (.new 74, 3) := by decide +kernel
theorem dX11_init_129 : decode MX11_init.2.1 129 = .ok (.dup, 1) := by decide +kernel
theorem dX11_init_130 : decode MX11_init.2.1 130 = .ok (.invokespecial 76, 3) := by decide +kernel
theorem dX11_init_133 : decode MX11_init.2.1 133 = .ok (.putfield 77, 3) := by decide +kernel
theorem dX11_init_136 : decode MX11_init.2.1 136 = .ok (.aload_n 0, 1) := by decide +kernel
theorem dX11_init_137 : decode MX11_init.2.1 137 = .ok (.new 81, 3) := by decide +kernel
theorem dX11_init_140 : decode MX11_init.2.1 140 = .ok (.dup, 1) := by decide +kernel
theorem dX11_init_141 : decode MX11_init.2.1 141 = .ok (.invokespecial 83, 3) := by decide +kernel
theorem dX11_init_144 : decode MX11_init.2.1 144 = .ok (.putfield 84, 3) := by decide +kernel
theorem dX11_init_147 : decode MX11_init.2.1 147 = .ok (.aload_n 0, 1) := by decide +kernel
theorem dX11_init_148 : decode MX11_init.2.1 148 = .ok (.new 88, 3) := by decide +kernel
theorem dX11_init_151 : decode MX11_init.2.1 151 = .ok (.dup, 1) := by decide +kernel
theorem dX11_init_152 : decode MX11_init.2.1 152 = .ok (.invokespecial 90, 3) := by decide +kernel
theorem dX11_init_155 : decode MX11_init.2.1 155 = .ok (.putfield 91, 3) := by decide +kernel
theorem dX11_init_158 : decode MX11_init.2.1 158 = .ok (.aload_n 0, 1) := by decide +kernel
theorem dX11_init_159 : decode MX11_init.2.1 159 = .ok (.new 88, 3) := by decide +kernel
theorem dX11_init_162 : decode MX11_init.2.1 162 = .ok (.dup, 1) := by decide +kernel
theorem dX11_init_163 : decode MX11_init.2.1 163 = .ok (.invokespecial 90, 3) := by decide +kernel
theorem dX11_init_166 : decode MX11_init.2.1 166 = .ok (.putfield 95, 3) := by decide +kernel
theorem dX11_init_169 : decode MX11_init.2.1 169 = .ok (.return_, 1) := by decide +kernel
theorem dX11_sign_0 : decode MX11_sign.2.1 0 = .ok (.aload_n 0, 1) := by decide +kernel
theorem dX11_sign_1 : decode MX11_sign.2.1 1 = .ok (.getfield 12, 3) := by decide +kernel
theorem dX11_sign_4 : decode MX11_sign.2.1 4 = .ok (.iload_n 1, 1) := by decide +kernel
theorem dX11_sign_5 : decode MX11_sign.2.1 5 = .ok (.invokevirtual 98, 3) := by decide +kernel
theorem dX11_sign_8 : decode MX11_sign.2.1 8 = .ok (.ireturn, 1) := by decide +kernel
theorem dX11_end_0 : decode MX11_end.2.1 0 = .ok (.aload_n 0, 1) := by decide +kernel
theorem dX11_end_1 : decode MX11_end.2.1 1 = .ok (.getfield 12, 3) := by decide +kernel
theorem dX11_end_4 : decode MX11_end.2.1 4 = .ok (.iload_n 1, 1) := by decide +kernel
theorem dX11_end_5 : decode MX11_end.2.1 5 = .ok (.invokevirtual 102, 3) := by decide +kernel
theorem dX11_end_8 : decode MX11_end.2.1 8 = .ok (.ireturn, 1) := by decide +kernel
theorem dX11_people_0 : decode MX11_people.2.1 0 = .ok (.aload_n 0, 1) := by decide +kernel
theorem dX11_people_1 : decode MX11_people.2.1 1 = .ok (.getfield 12, 3) := by decide +kernel
theorem dX11_people_4 : decode MX11_people.2.1 4 = .ok (.invokevirtual 106, 3) := by decide +kernel
theorem dX11_people_7 : decode MX11_people.2.1 7 = .ok (.istore_n 1, 1) := by decide +kernel
theorem dX11_people_8 : decode MX11_people.2.1 8 = .ok (.iload_n 1, 1) := by decide +kernel
theorem dX11_people_9 : decode MX11_people.2.1 9 = .ok (.ifCond .ne 7, 3) := by decide +kernel
theorem dX11_people_12 : decode MX11_people.2.1 12 = .ok (.iconst (-1), 1) := by decide +kernel
theorem dX11_people_13 : decode MX11_people.2.1 13 = .ok (.goto 17, 3) := by decide +kernel
theorem dX11_people_16 : decode MX11_people.2.1 16 = .ok (.aload_n 0, 1) := by decide +kernel
theorem dX11_people_17 : decode MX11_people.2.1 17 = .ok (.bipush 6, 2) := by decide +kernel
theorem dX11_people_19 : decode MX11_people.2.1 19 = .ok (.aload_n 0, 1) := by decide +kernel
theorem dX11_people_20 : decode MX11_people.2.1 20 = .ok (.getfield 26, 3) := by decide +kernel
theorem dX11_people_23 : decode MX11_people.2.1 23 = .ok (.getfield 110, 3) := by decide +kernel
theorem dX11_people_26 : decode MX11_people.2.1 26 = .ok (.isub, 1) := by decide +kernel
theorem dX11_people_27 : decode MX11_people.2.1 27 = .ok (.invokevirtual 114, 3) := by decide +kernel
theorem dX11_people_30 : decode MX11_people.2.1 30 = .ok (.istore_n 2, 1) := by decide +kernel
theorem dX11_people_31 : decode MX11_people.2.1 31 = .ok (.iload_n 1, 1) := by decide +kernel
theorem dX11_people_32 : decode MX11_people.2.1 32 = .ok (.iconst 1, 1) := by decide +kernel
theorem dX11_people_33 : decode MX11_people.2.1 33 = .ok (.iadd, 1) := by decide +kernel
theorem dX11_people_34 : decode MX11_people.2.1 34 = .ok (.bipush 8, 2) := by decide +kernel
theorem dX11_people_36 : decode MX11_people.2.1 36 = .ok (.idiv, 1) := by decide +kernel
theorem dX11_people_37 : decode MX11_people.2.1 37 = .ok (.istore_n 3, 1) := by decide +kernel
theorem dX11_people_38 : decode MX11_people.2.1 38 = .ok (.iload_n 2, 1) := by decide +kernel
theorem dX11_people_39 : decode MX11_people.2.1 39 = .ok (.iconst (-1), 1) := by decide +kernel
theorem dX11_people_40 : decode MX11_people.2.1 40 = .ok (.if_icmp .ne 38, 3) := by decide +kernel
theorem dX11_people_43 : decode MX11_people.2.1 43 = .ok (.iload_n 3, 1) := by decide +kernel
theorem dX11_people_44 : decode MX11_people.2.1 44 = .ok (.ifCond .le 34, 3) := by decide +kernel
theorem dX11_people_47 : decode MX11_people.2.1 47 = .ok (.iconst 0, 1) := by decide +kernel
theorem dX11_people_48 : decode MX11_people.2.1 48 = .ok (.istore 4, 2) := by decide +kernel
theorem dX11_people_50 : decode MX11_people.2.1 50 = .ok (.iload 4, 2) := by decide +kernel
theorem dX11_people_52 : decode MX11_people.2.1 52 = .ok (.iload_n 3, 1) := by decide +kernel
theorem dX11_people_53 : decode MX11_people.2.1 53 = .ok (.if_icmp .ge 18, 3) := by decide +kernel
theorem dX11_people_56 : decode MX11_people.2.1 56 = .ok (.aload_n 0, 1) := by decide +kernel
theorem dX11_people_57 : decode MX11_people.2.1 57 = .ok (.iload 4, 2) := by decide +kernel
theorem dX11_people_59 : decode MX11_people.2.1 59 = .ok (.bipush 8, 2) := by decide +kernel
theorem dX11_people_61 : decode MX11_people.2.1 61 = .ok (.imul, 1) := by decide +kernel
theorem dX11_people_62 : decode MX11_people.2.1 62 = .ok (.invokevirtual 117, 3) := by decide +kernel
theorem dX11_people_65 : decode MX11_people.2.1 65 = .ok (.iinc 4 1, 3) := by decide +kernel
theorem dX11_people_68 : decode MX11_people.2.1 68 = .ok (.goto (-18), 3) := by decide +kernel
theorem dX11_people_71 : decode MX11_people.2.1 71 = .ok (.aload_n 0, 1) := by decide +kernel
theorem dX11_people_72 : decode MX11_people.2.1 72 = .ok (.getfield 43, 3) := by decide +kernel
theorem dX11_people_75 : decode MX11_people.2.1 75 = .ok (.invokevirtual 121, 3) := by decide +kernel
theorem dX11_people_78 : decode MX11_people.2.1 78 = .ok (.aload_n 0, 1) := by decide +kernel
theorem dX11_people_79 : decode MX11_people.2.1 79 = .ok (.getfield 12, 3) := by decide +kernel
theorem dX11_people_82 : decode MX11_people.2.1 82 = .ok (.invokevirtual 124, 3) := by decide +kernel
theorem dX11_people_85 : decode MX11_people.2.1 85 = .ok (.iload_n 2, 1) := by decide +kernel
theorem dX11_people_86 : decode MX11_people.2.1 86 = .ok (.iconst (-1), 1) := by decide +kernel
theorem dX11_people_87 : decode MX11_people.2.1 87 = .ok (.if_icmp .ne 7, 3) := by decide +kernel
theorem dX11_people_90 : decode MX11_people.2.1 90 = .ok (.iload_n 3, 1) := by decide +kernel
theorem dX11_people_91 : decode MX11_people.2.1 91 = .ok (.goto 6, 3) := by decide +kernel
theorem dX11_people_94 : decode MX11_people.2.1 94 = .ok (.iconst (-1), 1) := by decide +kernel
theorem dX11_people_95 : decode MX11_people.2.1 95 = .ok (.iload_n 2, 1) := by decide +kernel
theorem dX11_people_96 : decode MX11_people.2.1 96 = .ok (.isub, 1) := by decide +kernel
theorem dX11_people_97 : decode MX11_people.2.1 97 = .ok (.ireturn, 1) := by decide +kernel
theorem dX11_wrongInLines_0 : decode MX11_wrongInLines.2.1 0 = .ok (.aload_n 0, 1) := by decide +kernel
theorem dX11_wrongInLines_1 : decode MX11_wrongInLines.2.1 1 = .ok (.getfield 12, 3) := by decide +kernel
theorem dX11_wrongInLines_4 : decode MX11_wrongInLines.2.1 4 = .ok (.invokevirtual 106, 3) := by decide +kernel
theorem dX11_wrongInLines_7 : decode MX11_wrongInLines.2.1 7 = .ok (.istore_n 2, 1) := by decide +kernel
theorem dX11_wrongInLines_8 : decode MX11_wrongInLines.2.1 8 = .ok (.iconst 0, 1) := by decide +kernel
theorem dX11_wrongInLines_9 : decode MX11_wrongInLines.2.1 9 = .ok (.istore_n 3, 1) := by decide +kernel
theorem dX11_wrongInLines_10 : decode MX11_wrongInLines.2.1 10 = .ok (.iload_n 3, 1) := by decide +kernel
theorem dX11_wrongInLines_11 : decode MX11_wrongInLines.2.1 11 = .ok (.bipush 47, 2) := by decide +kernel
theorem dX11_wrongInLines_13 : decode MX11_wrongInLines.2.1 13 = .ok (.if_icmp .ge 81, 3) := by decide +kernel
theorem dX11_wrongInLines_16 : decode MX11_wrongInLines.2.1 16 = .ok (.iload_n 3, 1) := by decide +kernel
theorem dX11_wrongInLines_17 : decode MX11_wrongInLines.2.1 17 = .ok (.iload_n 2, 1) := by decide +kernel
theorem dX11_wrongInLines_18 : decode MX11_wrongInLines.2.1 18 = .ok (.if_icmp .ge 76, 3) := by decide +kernel
theorem dX11_wrongInLines_21 : decode MX11_wrongInLines.2.1 21 = .ok (.iload_n 3, 1) := by decide +kernel
theorem dX11_wrongInLines_22 : decode MX11_wrongInLines.2.1 22 = .ok (.bipush 8, 2) := by decide +kernel
theorem dX11_wrongInLines_24 : decode MX11_wrongInLines.2.1 24 = .ok (.irem, 1) := by decide +kernel
theorem dX11_wrongInLines_25 : decode MX11_wrongInLines.2.1 25 = .ok (.istore 4, 2) := by decide +kernel
theorem dX11_wrongInLines_27 : decode MX11_wrongInLines.2.1 27 = .ok (.iload 4, 2) := by decide +kernel
theorem dX11_wrongInLines_29 : decode MX11_wrongInLines.2.1 29 = .ok (.ifCond .ne 13, 3) := by decide +kernel
theorem dX11_wrongInLines_32 : decode MX11_wrongInLines.2.1 32 = .ok (.iload_n 3, 1) := by decide +kernel
theorem dX11_wrongInLines_33 : decode MX11_wrongInLines.2.1 33 = .ok (.bipush 8, 2) := by decide +kernel
theorem dX11_wrongInLines_35 : decode MX11_wrongInLines.2.1 35 = .ok (.idiv, 1) := by decide +kernel
theorem dX11_wrongInLines_36 : decode MX11_wrongInLines.2.1 36 = .ok (.iload_n 1, 1) := by decide +kernel
theorem dX11_wrongInLines_37 : decode MX11_wrongInLines.2.1 37 = .ok (.if_icmp .lt 5, 3) := by decide +kernel
theorem dX11_wrongInLines_40 : decode MX11_wrongInLines.2.1 40 = .ok (.iload_n 3, 1) := by decide +kernel
theorem dX11_wrongInLines_41 : decode MX11_wrongInLines.2.1 41 = .ok (.ireturn, 1) := by decide +kernel
theorem dX11_wrongInLines_42 : decode MX11_wrongInLines.2.1 42 = .ok (.aload_n 0, 1) := by decide +kernel
theorem dX11_wrongInLines_43 : decode MX11_wrongInLines.2.1 43 = .ok (.getfield 12, 3) := by decide +kernel
theorem dX11_wrongInLines_46 : decode MX11_wrongInLines.2.1 46 = .ok (.iload_n 3, 1) := by decide +kernel
theorem dX11_wrongInLines_47 : decode MX11_wrongInLines.2.1 47 = .ok (.invokevirtual 127, 3) := by decide +kernel
theorem dX11_wrongInLines_50 : decode MX11_wrongInLines.2.1 50 = .ok (.istore 5, 2) := by decide +kernel
theorem dX11_wrongInLines_52 : decode MX11_wrongInLines.2.1 52 = .ok (.iload 4, 2) := by decide +kernel
theorem dX11_wrongInLines_54 : decode MX11_wrongInLines.2.1 54 = .ok (.bipush 7, 2) := by decide +kernel
theorem dX11_wrongInLines_56 : decode MX11_wrongInLines.2.1 56 = .ok (.if_icmp .ne 18, 3) := by decide +kernel
theorem dX11_wrongInLines_59 : decode MX11_wrongInLines.2.1 59 = .ok (.iload 5, 2) := by decide +kernel
theorem dX11_wrongInLines_61 : decode MX11_wrongInLines.2.1 61 = .ok (.bipush 59, 2) := by decide +kernel
theorem dX11_wrongInLines_63 : decode MX11_wrongInLines.2.1 63 = .ok (.if_icmp .ne 7, 3) := by decide +kernel
theorem dX11_wrongInLines_66 : decode MX11_wrongInLines.2.1 66 = .ok (.iconst 1, 1) := by decide +kernel
theorem dX11_wrongInLines_67 : decode MX11_wrongInLines.2.1 67 = .ok (.goto 12, 3) := by decide +kernel
theorem dX11_wrongInLines_70 : decode MX11_wrongInLines.2.1 70 = .ok (.iconst 0, 1) := by decide +kernel
theorem dX11_wrongInLines_71 : decode MX11_wrongInLines.2.1 71 = .ok (.goto 8, 3) := by decide +kernel
theorem dX11_wrongInLines_74 : decode MX11_wrongInLines.2.1 74 = .ok (.iload 5, 2) := by decide +kernel
theorem dX11_wrongInLines_76 : decode MX11_wrongInLines.2.1 76 = .ok (.invokestatic 130, 3) := by decide +kernel
theorem dX11_wrongInLines_79 : decode MX11_wrongInLines.2.1 79 = .ok (.istore 6, 2) := by decide +kernel
theorem dX11_wrongInLines_81 : decode MX11_wrongInLines.2.1 81 = .ok (.iload 6, 2) := by decide +kernel
theorem dX11_wrongInLines_83 : decode MX11_wrongInLines.2.1 83 = .ok (.ifCond .ne 5, 3) := by decide +kernel
theorem dX11_wrongInLines_86 : decode MX11_wrongInLines.2.1 86 = .ok (.iload_n 3, 1) := by decide +kernel
theorem dX11_wrongInLines_87 : decode MX11_wrongInLines.2.1 87 = .ok (.ireturn, 1) := by decide +kernel
theorem dX11_wrongInLines_88 : decode MX11_wrongInLines.2.1 88 = .ok (.iinc 3 1, 3) := by decide +kernel
theorem dX11_wrongInLines_91 : decode MX11_wrongInLines.2.1 91 = .ok (.goto (-81), 3) := by decide +kernel
theorem dX11_wrongInLines_94 : decode MX11_wrongInLines.2.1 94 = .ok (.iload_n 2, 1) := by decide +kernel
theorem dX11_wrongInLines_95 : decode MX11_wrongInLines.2.1 95 = .ok (.bipush 47, 2) := by decide +kernel
theorem dX11_wrongInLines_97 : decode MX11_wrongInLines.2.1 97 = .ok (.if_icmp .le 6, 3) := by decide +kernel
theorem dX11_wrongInLines_100 : decode MX11_wrongInLines.2.1 100 = .ok (.bipush 47, 2) := by decide +kernel
theorem dX11_wrongInLines_102 : decode MX11_wrongInLines.2.1 102 = .ok (.ireturn, 1) := by decide +kernel
theorem dX11_wrongInLines_103 : decode MX11_wrongInLines.2.1 103 = .ok (.iload_n 2, 1) := by decide +kernel
theorem dX11_wrongInLines_104 : decode MX11_wrongInLines.2.1 104 = .ok (.bipush 8, 2) := by decide +kernel
theorem dX11_wrongInLines_106 : decode MX11_wrongInLines.2.1 106 = .ok (.irem, 1) := by decide +kernel
theorem dX11_wrongInLines_107 : decode MX11_wrongInLines.2.1 107 = .ok (.bipush 7, 2) := by decide +kernel
theorem dX11_wrongInLines_109 : decode MX11_wrongInLines.2.1 109 = .ok (.if_icmp .ne 7, 3) := by decide +kernel
theorem dX11_wrongInLines_112 : decode MX11_wrongInLines.2.1 112 = .ok (.iconst (-1), 1) := by decide +kernel
theorem dX11_wrongInLines_113 : decode MX11_wrongInLines.2.1 113 = .ok (.goto 4, 3) := by decide +kernel
theorem dX11_wrongInLines_116 : decode MX11_wrongInLines.2.1 116 = .ok (.iload_n 2, 1) := by decide +kernel
theorem dX11_wrongInLines_117 : decode MX11_wrongInLines.2.1 117 = .ok (.ireturn, 1) := by decide +kernel
theorem dX11_addLine_0 : decode MX11_addLine.2.1 0 = .ok (.aload_n 0, 1) := by decide +kernel
theorem dX11_addLine_1 : decode MX11_addLine.2.1 1 = .ok (.getfield 26, 3) := by decide +kernel
theorem dX11_addLine_4 : decode MX11_addLine.2.1 4 = .ok (.getfield 110, 3) := by decide +kernel
theorem dX11_addLine_7 : decode MX11_addLine.2.1 7 = .ok (.istore_n 2, 1) := by decide +kernel
theorem dX11_addLine_8 : decode MX11_addLine.2.1 8 = .ok (.iload_n 2, 1) := by decide +kernel
theorem dX11_addLine_9 : decode MX11_addLine.2.1 9 = .ok (.bipush 6, 2) := by decide +kernel
theorem dX11_addLine_11 : decode MX11_addLine.2.1 11 = .ok (.if_icmp .lt 4, 3) := by decide +kernel
theorem dX11_addLine_14 : decode MX11_addLine.2.1 14 = .ok (.return_, 1) := by decide +kernel
theorem dX11_addLine_15 : decode MX11_addLine.2.1 15 = .ok (.iconst 0, 1) := by decide +kernel
theorem dX11_addLine_16 : decode MX11_addLine.2.1 16 = .ok (.istore_n 3, 1) := by decide +kernel
theorem dX11_addLine_17 : decode MX11_addLine.2.1 17 = .ok (.iload_n 3, 1) := by decide +kernel
theorem dX11_addLine_18 : decode MX11_addLine.2.1 18 = .ok (.bipush 6, 2) := by decide +kernel
theorem dX11_addLine_20 : decode MX11_addLine.2.1 20 = .ok (.if_icmp .ge 35, 3) := by decide +kernel
theorem dX11_addLine_23 : decode MX11_addLine.2.1 23 = .ok (.aload_n 0, 1) := by decide +kernel
theorem dX11_addLine_24 : decode MX11_addLine.2.1 24 = .ok (.getfield 26, 3) := by decide +kernel
theorem dX11_addLine_27 : decode MX11_addLine.2.1 27 = .ok (.getfield 133, 3) := by decide +kernel
theorem dX11_addLine_30 : decode MX11_addLine.2.1 30 = .ok (.iload_n 2, 1) := by decide +kernel
theorem dX11_addLine_31 : decode MX11_addLine.2.1 31 = .ok (.iload_n 3, 1) := by decide +kernel
theorem dX11_addLine_32 : decode MX11_addLine.2.1 32 = .ok (.invokestatic 137, 3) := by decide +kernel
theorem dX11_addLine_35 : decode MX11_addLine.2.1 35 = .ok (.aload_n 0, 1) := by decide +kernel
theorem dX11_addLine_36 : decode MX11_addLine.2.1 36 = .ok (.getfield 12, 3) := by decide +kernel
theorem dX11_addLine_39 : decode MX11_addLine.2.1 39 = .ok (.iload_n 1, 1) := by decide +kernel
theorem dX11_addLine_40 : decode MX11_addLine.2.1 40 = .ok (.iload_n 3, 1) := by decide +kernel
theorem dX11_addLine_41 : decode MX11_addLine.2.1 41 = .ok (.iadd, 1) := by decide +kernel
theorem dX11_addLine_42 : decode MX11_addLine.2.1 42 = .ok (.invokevirtual 127, 3) := by decide +kernel
theorem dX11_addLine_45 : decode MX11_addLine.2.1 45 = .ok (.bipush 48, 2) := by decide +kernel
theorem dX11_addLine_47 : decode MX11_addLine.2.1 47 = .ok (.isub, 1) := by decide +kernel
theorem dX11_addLine_48 : decode MX11_addLine.2.1 48 = .ok (.iastore, 1) := by decide +kernel
theorem dX11_addLine_49 : decode MX11_addLine.2.1 49 = .ok (.iinc 3 1, 3) := by decide +kernel
theorem dX11_addLine_52 : decode MX11_addLine.2.1 52 = .ok (.goto (-35), 3) := by decide +kernel
theorem dX11_addLine_55 : decode MX11_addLine.2.1 55 = .ok (.aload_n 0, 1) := by decide +kernel
theorem dX11_addLine_56 : decode MX11_addLine.2.1 56 = .ok (.getfield 26, 3) := by decide +kernel
theorem dX11_addLine_59 : decode MX11_addLine.2.1 59 = .ok (.getfield 141, 3) := by decide +kernel
theorem dX11_addLine_62 : decode MX11_addLine.2.1 62 = .ok (.iload_n 2, 1) := by decide +kernel
theorem dX11_addLine_63 : decode MX11_addLine.2.1 63 = .ok (.aload_n 0, 1) := by decide +kernel
theorem dX11_addLine_64 : decode MX11_addLine.2.1 64 = .ok (.getfield 12, 3) := by decide +kernel
theorem dX11_addLine_67 : decode MX11_addLine.2.1 67 = .ok (.iload_n 1, 1) := by decide +kernel
theorem dX11_addLine_68 : decode MX11_addLine.2.1 68 = .ok (.bipush 6, 2) := by decide +kernel
theorem dX11_addLine_70 : decode MX11_addLine.2.1 70 = .ok (.iadd, 1) := by decide +kernel
theorem dX11_addLine_71 : decode MX11_addLine.2.1 71 = .ok (.invokevirtual 127, 3) := by decide +kernel
theorem dX11_addLine_74 : decode MX11_addLine.2.1 74 = .ok (.bipush 48, 2) := by decide +kernel
theorem dX11_addLine_76 : decode MX11_addLine.2.1 76 = .ok (.isub, 1) := by decide +kernel
theorem dX11_addLine_77 : decode MX11_addLine.2.1 77 = .ok (.iastore, 1) := by decide +kernel
theorem dX11_addLine_78 : decode MX11_addLine.2.1 78 = .ok (.aload_n 0, 1) := by decide +kernel
theorem dX11_addLine_79 : decode MX11_addLine.2.1 79 = .ok (.getfield 26, 3) := by decide +kernel
theorem dX11_addLine_82 : decode MX11_addLine.2.1 82 = .ok (.iload_n 2, 1) := by decide +kernel
theorem dX11_addLine_83 : decode MX11_addLine.2.1 83 = .ok (.iconst 1, 1) := by decide +kernel
theorem dX11_addLine_84 : decode MX11_addLine.2.1 84 = .ok (.iadd, 1) := by decide +kernel
theorem dX11_addLine_85 : decode MX11_addLine.2.1 85 = .ok (.putfield 110, 3) := by decide +kernel
theorem dX11_addLine_88 : decode MX11_addLine.2.1 88 = .ok (.return_, 1) := by decide +kernel
theorem dX11_rule_0 : decode MX11_rule.2.1 0 = .ok (.aload_n 0, 1) := by decide +kernel
theorem dX11_rule_1 : decode MX11_rule.2.1 1 = .ok (.getfield 95, 3) := by decide +kernel
theorem dX11_rule_4 : decode MX11_rule.2.1 4 = .ok (.aload_n 0, 1) := by decide +kernel
theorem dX11_rule_5 : decode MX11_rule.2.1 5 = .ok (.getfield 12, 3) := by decide +kernel
theorem dX11_rule_8 : decode MX11_rule.2.1 8 = .ok (.invokevirtual 144, 3) := by decide +kernel
theorem dX11_rule_11 : decode MX11_rule.2.1 11 = .ok (.istore_n 1, 1) := by decide +kernel
theorem dX11_rule_12 : decode MX11_rule.2.1 12 = .ok (.aload_n 0, 1) := by decide +kernel
theorem dX11_rule_13 : decode MX11_rule.2.1 13 = .ok (.getfield 12, 3) := by decide +kernel
theorem dX11_rule_16 : decode MX11_rule.2.1 16 = .ok (.invokevirtual 124, 3) := by decide +kernel
theorem dX11_rule_19 : decode MX11_rule.2.1 19 = .ok (.iload_n 1, 1) := by decide +kernel
theorem dX11_rule_20 : decode MX11_rule.2.1 20 = .ok (.iconst (-1), 1) := by decide +kernel
theorem dX11_rule_21 : decode MX11_rule.2.1 21 = .ok (.if_icmp .eq 7, 3) := by decide +kernel
theorem dX11_rule_24 : decode MX11_rule.2.1 24 = .ok (.iconst (-1), 1) := by decide +kernel
theorem dX11_rule_25 : decode MX11_rule.2.1 25 = .ok (.iload_n 1, 1) := by decide +kernel
theorem dX11_rule_26 : decode MX11_rule.2.1 26 = .ok (.isub, 1) := by decide +kernel
theorem dX11_rule_27 : decode MX11_rule.2.1 27 = .ok (.ireturn, 1) := by decide +kernel
theorem dX11_rule_28 : decode MX11_rule.2.1 28 = .ok (.aload_n 0, 1) := by decide +kernel
theorem dX11_rule_29 : decode MX11_rule.2.1 29 = .ok (.getfield 91, 3) := by decide +kernel
theorem dX11_rule_32 : decode MX11_rule.2.1 32 = .ok (.astore_n 2, 1) := by decide +kernel
theorem dX11_rule_33 : decode MX11_rule.2.1 33 = .ok (.aload_n 0, 1) := by decide +kernel
theorem dX11_rule_34 : decode MX11_rule.2.1 34 = .ok (.aload_n 0, 1) := by decide +kernel
theorem dX11_rule_35 : decode MX11_rule.2.1 35 = .ok (.getfield 95, 3) := by decide +kernel
theorem dX11_rule_38 : decode MX11_rule.2.1 38 = .ok (.putfield 91, 3) := by decide +kernel
theorem dX11_rule_41 : decode MX11_rule.2.1 41 = .ok (.aload_n 0, 1) := by decide +kernel
theorem dX11_rule_42 : decode MX11_rule.2.1 42 = .ok (.aload_n 2, 1) := by decide +kernel
theorem dX11_rule_43 : decode MX11_rule.2.1 43 = .ok (.putfield 95, 3) := by decide +kernel
theorem dX11_rule_46 : decode MX11_rule.2.1 46 = .ok (.iconst 0, 1) := by decide +kernel
theorem dX11_rule_47 : decode MX11_rule.2.1 47 = .ok (.ireturn, 1) := by decide +kernel
theorem dX11_person_0 : decode MX11_person.2.1 0 = .ok (.aload_n 0, 1) := by decide +kernel
theorem dX11_person_1 : decode MX11_person.2.1 1 = .ok (.getfield 26, 3) := by decide +kernel
theorem dX11_person_4 : decode MX11_person.2.1 4 = .ok (.iload_n 1, 1) := by decide +kernel
theorem dX11_person_5 : decode MX11_person.2.1 5 = .ok (.invokevirtual 148, 3) := by decide +kernel
theorem dX11_person_8 : decode MX11_person.2.1 8 = .ok (.ifCond .ne 11, 3) := by decide +kernel
theorem dX11_person_11 : decode MX11_person.2.1 11 = .ok (.new 151, 3) := by decide +kernel
theorem dX11_person_14 : decode MX11_person.2.1 14 = .ok (.dup, 1) := by decide +kernel
theorem dX11_person_15 : decode MX11_person.2.1 15 = .ok (.invokespecial 153, 3) := by decide +kernel
theorem dX11_person_18 : decode MX11_person.2.1 18 = .ok (.athrow, 1) := by decide +kernel
theorem dX11_person_19 : decode MX11_person.2.1 19 = .ok (.iload_n 2, 1) := by decide +kernel
theorem dX11_person_20 : decode MX11_person.2.1 20 = .ok (.tableswitch 112 0 6 #[44, 54, 64, 74, 84, 94, 103], 44) := by decide +kernel
theorem dX11_person_64 : decode MX11_person.2.1 64 = .ok (.aload_n 0, 1) := by decide +kernel
theorem dX11_person_65 : decode MX11_person.2.1 65 = .ok (.getfield 26, 3) := by decide +kernel
theorem dX11_person_68 : decode MX11_person.2.1 68 = .ok (.getfield 141, 3) := by decide +kernel
theorem dX11_person_71 : decode MX11_person.2.1 71 = .ok (.iload_n 1, 1) := by decide +kernel
theorem dX11_person_72 : decode MX11_person.2.1 72 = .ok (.iaload, 1) := by decide +kernel
theorem dX11_person_73 : decode MX11_person.2.1 73 = .ok (.ireturn, 1) := by decide +kernel
theorem dX11_person_74 : decode MX11_person.2.1 74 = .ok (.aload_n 0, 1) := by decide +kernel
theorem dX11_person_75 : decode MX11_person.2.1 75 = .ok (.getfield 26, 3) := by decide +kernel
theorem dX11_person_78 : decode MX11_person.2.1 78 = .ok (.getfield 154, 3) := by decide +kernel
theorem dX11_person_81 : decode MX11_person.2.1 81 = .ok (.iload_n 1, 1) := by decide +kernel
theorem dX11_person_82 : decode MX11_person.2.1 82 = .ok (.iaload, 1) := by decide +kernel
theorem dX11_person_83 : decode MX11_person.2.1 83 = .ok (.ireturn, 1) := by decide +kernel
theorem dX11_person_84 : decode MX11_person.2.1 84 = .ok (.aload_n 0, 1) := by decide +kernel
theorem dX11_person_85 : decode MX11_person.2.1 85 = .ok (.getfield 26, 3) := by decide +kernel
theorem dX11_person_88 : decode MX11_person.2.1 88 = .ok (.getfield 157, 3) := by decide +kernel
theorem dX11_person_91 : decode MX11_person.2.1 91 = .ok (.iload_n 1, 1) := by decide +kernel
theorem dX11_person_92 : decode MX11_person.2.1 92 = .ok (.iaload, 1) := by decide +kernel
theorem dX11_person_93 : decode MX11_person.2.1 93 = .ok (.ireturn, 1) := by decide +kernel
theorem dX11_person_94 : decode MX11_person.2.1 94 = .ok (.aload_n 0, 1) := by decide +kernel
theorem dX11_person_95 : decode MX11_person.2.1 95 = .ok (.getfield 26, 3) := by decide +kernel
theorem dX11_person_98 : decode MX11_person.2.1 98 = .ok (.getfield 160, 3) := by decide +kernel
theorem dX11_person_101 : decode MX11_person.2.1 101 = .ok (.iload_n 1, 1) := by decide +kernel
theorem dX11_person_102 : decode MX11_person.2.1 102 = .ok (.iaload, 1) := by decide +kernel
theorem dX11_person_103 : decode MX11_person.2.1 103 = .ok (.ireturn, 1) := by decide +kernel
theorem dX11_person_104 : decode MX11_person.2.1 104 = .ok (.aload_n 0, 1) := by decide +kernel
theorem dX11_person_105 : decode MX11_person.2.1 105 = .ok (.getfield 26, 3) := by decide +kernel
theorem dX11_person_108 : decode MX11_person.2.1 108 = .ok (.getfield 163, 3) := by decide +kernel
theorem dX11_person_111 : decode MX11_person.2.1 111 = .ok (.iload_n 1, 1) := by decide +kernel
theorem dX11_person_112 : decode MX11_person.2.1 112 = .ok (.iaload, 1) := by decide +kernel
theorem dX11_person_113 : decode MX11_person.2.1 113 = .ok (.ireturn, 1) := by decide +kernel
theorem dX11_person_114 : decode MX11_person.2.1 114 = .ok (.aload_n 0, 1) := by decide +kernel
theorem dX11_person_115 : decode MX11_person.2.1 115 = .ok (.getfield 26, 3) := by decide +kernel
theorem dX11_person_118 : decode MX11_person.2.1 118 = .ok (.iload_n 1, 1) := by decide +kernel
theorem dX11_person_119 : decode MX11_person.2.1 119 = .ok (.invokevirtual 166, 3) := by decide +kernel
theorem dX11_person_122 : decode MX11_person.2.1 122 = .ok (.ireturn, 1) := by decide +kernel
theorem dX11_person_123 : decode MX11_person.2.1 123 = .ok (.aload_n 0, 1) := by decide +kernel
theorem dX11_person_124 : decode MX11_person.2.1 124 = .ok (.getfield 26, 3) := by decide +kernel
theorem dX11_person_127 : decode MX11_person.2.1 127 = .ok (.iload_n 1, 1) := by decide +kernel
theorem dX11_person_128 : decode MX11_person.2.1 128 = .ok (.invokevirtual 169, 3) := by decide +kernel
theorem dX11_person_131 : decode MX11_person.2.1 131 = .ok (.ireturn, 1) := by decide +kernel
theorem dX11_person_132 : decode MX11_person.2.1 132 = .ok (.new 151, 3) := by decide +kernel
theorem dX11_person_135 : decode MX11_person.2.1 135 = .ok (.dup, 1) := by decide +kernel
theorem dX11_person_136 : decode MX11_person.2.1 136 = .ok (.invokespecial 153, 3) := by decide +kernel
theorem dX11_person_139 : decode MX11_person.2.1 139 = .ok (.athrow, 1) := by decide +kernel
